/-! The reference's lines: seas, women, the oath. -/
theorem fn_v6 {T : Nat → Nat} {n : Nat} {S : pZ} {I : Nat → Nat → Int32} (hc : cM T S I) (z : zF (pFn T n 0 S) = 0) : zV (pFn T n 0 S) < 6 := by
  obtain ⟨-, i, -, hi, hs, e⟩ := fn_of z
  have h := (hc.2.2.1 i hi).2.2.2
  rw [e]
  show (zN S i).2.2.2 < 6
  omega
theorem ix92 {a : Nat} : (9 + 3 * nI a + 2 : Int32) = nI (9 + 3 * a + 2) := by
  rw [show (9 : Int32) = nI 9 from rfl, show (3 : Int32) = nI 3 from rfl, show (2 : Int32) = nI 2 from rfl, pk_mul, nI_add, nI_add]
theorem kd_no {x : Int32} (h8 : ¬ x = nI 8) (h9 : ¬ x = nI 9) (h10 : ¬ x = nI 10) (h11 : ¬ x = nI 11) : x < 8 ∨ 11 < x := by
  by_cases c : x < 8
  · exact Or.inl c
  · refine Or.inr (Int32.not_le.mp (fun d => ?_))
    have h0 : ¬ x < 0 := fun z => c (Int32.lt_trans z (by decide))
    obtain ⟨k, hk, rfl⟩ := nI_of h0
    have a1 : 8 ≤ k := Nat.le_of_not_lt (fun z => c (nI_lt (a := k) (b := 8) z (by omega)))
    have a2 : k ≤ 11 := Nat.le_of_not_lt (fun z => (Int32.not_lt.mpr d) (nI_lt (a := 11) (b := k) z hk))
    rcases (by omega : k = 8 ∨ k = 9 ∨ k = 10 ∨ k = 11) with rfl | rfl | rfl | rfl
    · exact h8 rfl
    · exact h9 rfl
    · exact h10 rfl
    · exact h11 rfl
theorem hu_cm {α : Type} {X : Nat → Nat → α} {a b i j : Nat} {v w : α} (h : a ≠ b) : hp_u (hp_u X a i v) b j w = hp_u (hp_u X b j w) a i v := by
  funext x y
  unfold hp_u
  by_cases c1 : x = a
  · by_cases c2 : x = b
    · omega
    · simp [c1, h]
  · simp [c1]
theorem can_0 {D : oD} {a b : Nat} (ha : a < 6) (hb : b < 6) (h : ¬ nI a = nI b) (h2 : hbS (D 5 a) (nI b) = 0) : canS D a (nI b) = 0 := by
  rw [can_eq (by omega) (by omega), if_neg h, h2]
theorem can_1 {D : oD} {a b : Nat} (ha : a < 6) (hb : b < 6) (h : nI a = nI b) : ¬ canS D a (nI b) = 0 := by
  rw [can_eq (by omega) (by omega), if_pos h]
  decide
theorem can_2 {D : oD} {a b : Nat} (ha : a < 6) (hb : b < 6) (h : ¬ nI a = nI b) (h2 : ¬ hbS (D 5 a) (nI b) = 0) : ¬ canS D a (nI b) = 0 := by
  rw [can_eq (by omega) (by omega), if_neg h]
  exact h2
theorem nI_ij6 {a b : Nat} : True := trivial
set_option maxRecDepth 10000 in
theorem y_seaLine {I : Nat → Nat → Int32} {J : Nat → Nat → Int64} {F : Nat → Nat → Option Nat} {nc ns : Nat} {T : Nat → Nat} {n : Nat} {S : pZ} (hF : RFok F) {row : Nat} (hl : lM T n S I I 1 row []) (hrow : row < 10) : Ew 7 mX12_seaLine 0 [.ref 95, .null, .null] [] ((SH, nc, ns), I, J, F) (RmL nc ns T n I J F (pB (pSea T n S) (pIn 1))) := by
  refine we_aload_n (p := 1) dX12_seaLine_0 rfl rfl ?_
  refine wf_getI (c := 11) (j := 13) (n := 37) (v := 0) (p := 4) dX12_seaLine_1 rfl rfl (by decide) (by decide) (Or.inr rfl) hl.2.2.1.2.2.2.1 rfl ?_
  refine we_if_eq (t := 8) (p := 7) dX12_seaLine_4 (by decide) rfl rfl (fun hc4 => ?_) (fun hc4 => absurd (by decide) hc4)
  refine we_aload_n (p := 9) dX12_seaLine_8 rfl rfl ?_
  obtain ⟨_, _, e1, I1, rfl, f1, ⟨z1, rfl, t1⟩ | ⟨z1, rfl, g1⟩⟩ := y_harbourPassed (S := S) hF hl.2.2.1 hl.2.1 hl.2.2.2.1
  · skip
    refine we_callV_int (p := 12) (k' := 6) (a := [.ref 95]) (rr := []) dX12_seaLine_9 rfl rfl rfl rfl (rc_of rfl rfl (by decide) ⟨rfl, by decide⟩) (Nat.le_of_ble_eq_true rfl) (Nat.le_of_ble_eq_true rfl) (by decide) e1 (Or.inl rfl) rfl ?_
    have ha : zV (pFn T n 0 S) < 6 := fn_v6 hl.2.2.2.1 z1
    refine we_istore_n (ls1 := [.ref 95, .int (nI (zV (pFn T n 0 S))), .null]) (p := 13) dX12_seaLine_12 rfl rfl ?_
    refine we_aload_n (p := 14) dX12_seaLine_13 rfl rfl ?_
    obtain ⟨_, _, e2, I2, rfl, f2, ⟨z2, rfl, t2⟩ | ⟨z2, rfl, g2⟩⟩ := y_harbourHere (S := (pAv T n (pFn T n 0 S))) hF (lM.fa (S := S) hl f1 z1 t1).2.2.1 (lM.fa (S := S) hl f1 z1 t1).2.1 (lM.fa (S := S) hl f1 z1 t1).2.2.2.1
    · skip
      refine we_callV_int (p := 17) (k' := 5) (a := [.ref 95]) (rr := []) dX12_seaLine_14 rfl rfl rfl rfl (rc_of rfl rfl (by decide) ⟨rfl, by decide⟩) (Nat.le_of_ble_eq_true rfl) (Nat.le_of_ble_eq_true rfl) (by decide) e2 (Or.inl rfl) rfl ?_
      have hb : zV (pFn T n 0 (pAv T n (pFn T n 0 S))) < 6 := fn_v6 (S := pAv T n (pFn T n 0 S)) (lM.fa (S := S) hl f1 z1 t1).2.2.2.1 z2
      refine we_istore_n (ls1 := [.ref 95, .int (nI (zV (pFn T n 0 S))), .int (nI (zV (pFn T n 0 (pAv T n (pFn T n 0 S)))))]) (p := 18) dX12_seaLine_17 rfl rfl ?_
      refine we_aload_n (p := 19) dX12_seaLine_18 rfl rfl ?_
      refine wf_getI (c := 11) (j := 13) (n := 37) (v := 0) (p := 22) dX12_seaLine_19 rfl rfl (by decide) (by decide) (Or.inr rfl) (lM.fn (S := (pAv T n (pFn T n 0 S))) (lM.fa (S := S) hl f1 z1 t1) f2 z2 t2).2.2.1.2.2.2.1 rfl ?_
      refine we_if_ne (t := 59) (p := 25) dX12_seaLine_22 (by decide) rfl rfl (fun hc22 => absurd (by decide) hc22) (fun hc22 => ?_)
      refine we_iload_n (p := 26) dX12_seaLine_25 rfl rfl ?_
      refine we_iload_n (p := 27) dX12_seaLine_26 rfl rfl ?_
      refine we_icmp_eq (t := 50) (p := 30) dX12_seaLine_27 (by decide) rfl rfl (fun hc27 => ?_) (fun hc27 => ?_)
      · skip
        refine we_aload_n (p := 51) dX12_seaLine_50 rfl rfl ?_
        refine we_iconst (v := 3) (p := 52) dX12_seaLine_51 (by decide) rfl ?_
        refine we_aload_n (p := 53) dX12_seaLine_52 rfl rfl ?_
        refine wf_getI (c := 11) (j := 4) (n := 37) (v := nI (tS T n (zP (pFn T n 0 (pAv T n (pFn T n 0 S)))))) (p := 56) dX12_seaLine_53 rfl rfl (by decide) (by decide) (Or.inl rfl) (lM.fn (S := (pAv T n (pFn T n 0 S))) (lM.fa (S := S) hl f1 z1 t1) f2 z2 t2).2.2.1.2.2.1.1 rfl ?_
        refine we_callV_v (p := 59) (k' := 0) (a := [.ref 95, .int 3, .int (nI (tS T n (zP (pFn T n 0 (pAv T n (pFn T n 0 S))))))]) (rr := []) dX12_seaLine_56 rfl rfl rfl rfl (rc_of rfl rfl (by decide) ⟨rfl, by decide⟩) (Nat.le_of_ble_eq_true rfl) (Nat.le_of_ble_eq_true rfl) (by decide) (y_wrong (b := tS T n (zP (pFn T n 0 (pAv T n (pFn T n 0 S))))) hF (lM.fn (S := (pAv T n (pFn T n 0 S))) (lM.fa (S := S) hl f1 z1 t1) f2 z2 t2).2.2.1.2.2.2.1) (Or.inl rfl) rfl ?_
        refine we_aload_n (p := 60) dX12_seaLine_59 rfl rfl ?_
        refine wf_getI (c := 11) (j := 13) (n := 37) (v := 1) (p := 63) dX12_seaLine_60 rfl rfl (by decide) (by decide) (Or.inr rfl) ((lM.wr (S := (pFn T n 0 (pAv T n (pFn T n 0 S)))) (q := 3) (lM.fn (S := (pAv T n (pFn T n 0 S))) (lM.fa (S := S) hl f1 z1 t1) f2 z2 t2) (by decide))).2.2.1 rfl ?_
        refine we_if_eq (t := 67) (p := 66) dX12_seaLine_63 (by decide) rfl rfl (fun hc63 => absurd hc63 (by decide)) (fun hc63 => ?_)
        exact wv_ret dX12_seaLine_66 rfl (RmL.no (X := (pFl 3 (pFn T n 0 (pAv T n (pFn T n 0 S))))) ((congrArg (fun z => pB z (pIn 1)) (show pSea T n S = (pFl 3 (pFn T n 0 (pAv T n (pFn T n 0 S)))) from by
      unfold pSea
      first | (rw [pB_y (S := (pFn T n 0 S)) z1, pB_y (S := (pFn T n 0 (pAv T n (pFn T n 0 S)))) z2, if_neg (can_1 ha hb hc27)]; done) | (rw [pB_y (S := (pFn T n 0 S)) z1, pB_y (S := (pFn T n 0 (pAv T n (pFn T n 0 S)))) z2, if_neg (can_1 ha hb hc27)]; rfl))).trans (pB_n (S := (pFl 3 (pFn T n 0 (pAv T n (pFn T n 0 S))))) (show ¬ (3 : Nat) = 0 by decide))) (lM.wr (S := (pFn T n 0 (pAv T n (pFn T n 0 S)))) (q := 3) (lM.fn (S := (pAv T n (pFn T n 0 S))) (lM.fa (S := S) hl f1 z1 t1) f2 z2 t2) (by decide)))
      · skip
        refine we_aload_n (p := 31) dX12_seaLine_30 rfl rfl ?_
        refine we_getR (c := 11) (j := 16) (n := 37) (b := 99) (p := 34) dX12_seaLine_31 rfl rfl (by decide) (by decide) rfl (r_95_16 hF) rfl ?_
        refine we_bipush (v := 9) (p := 36) dX12_seaLine_34 (by decide) rfl ?_
        refine we_iconst (v := 3) (p := 37) dX12_seaLine_36 (by decide) rfl ?_
        refine we_iload_n (p := 38) dX12_seaLine_37 rfl rfl ?_
        refine we_imul (p := 39) dX12_seaLine_38 rfl ?_
        refine we_iadd (p := 40) dX12_seaLine_39 rfl ?_
        refine we_iconst (v := 2) (p := 41) dX12_seaLine_40 (by decide) rfl ?_
        refine we_iadd (p := 42) dX12_seaLine_41 rfl ?_
        rw [show (9 + 3 * nI (zV (pFn T n 0 S)) + 2 : Int32) = nI (9 + 3 * zV (pFn T n 0 S) + 2) from ix92]
        refine wf_iald (n := 276) (i := (9 + 3 * zV (pFn T n 0 S) + 2)) (v := zD (pFn T n 0 (pAv T n (pFn T n 0 S))) 5 (zV (pFn T n 0 S))) (p := 43) dX12_seaLine_42 rfl (by decide) (in_nJ (by omega) (by decide)) (nI_cl (by omega)) ((lM.fn (S := (pAv T n (pFn T n 0 S))) (lM.fa (S := S) hl f1 z1 t1) f2 z2 t2).2.2.2.1.1.2.2.2.2.1 _ ha) rfl ?_
        refine we_iload_n (p := 44) dX12_seaLine_43 rfl rfl ?_
        refine we_callS_int (p := 47) (k' := 0) (a := [.int (zD (pFn T n 0 (pAv T n (pFn T n 0 S))) 5 (zV (pFn T n 0 S))), .int (nI (zV (pFn T n 0 (pAv T n (pFn T n 0 S)))))]) (rr := []) dX12_seaLine_44 rfl rfl rfl rfl rfl (rc_st rfl) (Nat.le_of_ble_eq_true rfl) (Nat.le_of_ble_eq_true rfl) (by decide) y_hasBit (Or.inl rfl) rfl ?_
        refine we_if_eq (t := 59) (p := 50) dX12_seaLine_47 (by decide) rfl rfl (fun hc47 => ?_) (fun hc47 => ?_)
        · skip
          refine we_aload_n (p := 60) dX12_seaLine_59 rfl rfl ?_
          refine wf_getI (c := 11) (j := 13) (n := 37) (v := 0) (p := 63) dX12_seaLine_60 rfl rfl (by decide) (by decide) (Or.inr rfl) (lM.fn (S := (pAv T n (pFn T n 0 S))) (lM.fa (S := S) hl f1 z1 t1) f2 z2 t2).2.2.1.2.2.2.1 rfl ?_
          refine we_if_eq (t := 67) (p := 66) dX12_seaLine_63 (by decide) rfl rfl (fun hc63 => ?_) (fun hc63 => absurd (by decide) hc63)
          refine we_aload_n (p := 68) dX12_seaLine_67 rfl rfl ?_
          obtain ⟨_, _, e3, rfl, I3, J3, F3, rfl, rfl, rfl, f3, r3⟩ := y_next hF (lM.fn (S := (pAv T n (pFn T n 0 S))) (lM.fa (S := S) hl f1 z1 t1) f2 z2 t2).2.2.1.1 (tE_le (lM.fn (S := (pAv T n (pFn T n 0 S))) (lM.fa (S := S) hl f1 z1 t1) f2 z2 t2).2.2.1.2.1).1 (lM.fn (S := (pAv T n (pFn T n 0 S))) (lM.fa (S := S) hl f1 z1 t1) f2 z2 t2).2.2.1.2.2.1.2.1
          refine we_callV_v (p := 71) (k' := 1) (a := [.ref 95]) (rr := []) dX12_seaLine_68 rfl rfl rfl rfl (rc_of rfl rfl (by decide) ⟨rfl, by decide⟩) (Nat.le_of_ble_eq_true rfl) (Nat.le_of_ble_eq_true rfl) (by decide) e3 (Or.inl rfl) rfl ?_
          refine we_aload_n (p := 72) dX12_seaLine_71 rfl rfl ?_
          refine we_getR (c := 11) (j := 16) (n := 37) (b := 99) (p := 75) dX12_seaLine_72 rfl rfl (by decide) (by decide) rfl (r_95_16 hF) rfl ?_
          refine we_bipush (v := 9) (p := 77) dX12_seaLine_75 (by decide) rfl ?_
          refine we_iconst (v := 3) (p := 78) dX12_seaLine_77 (by decide) rfl ?_
          refine we_iload_n (p := 79) dX12_seaLine_78 rfl rfl ?_
          refine we_imul (p := 80) dX12_seaLine_79 rfl ?_
          refine we_iadd (p := 81) dX12_seaLine_80 rfl ?_
          refine we_iconst (v := 2) (p := 82) dX12_seaLine_81 (by decide) rfl ?_
          refine we_iadd (p := 83) dX12_seaLine_82 rfl ?_
          rw [show (9 + 3 * nI (zV (pFn T n 0 S)) + 2 : Int32) = nI (9 + 3 * zV (pFn T n 0 S) + 2) from ix92]
          refine we_dup2 (p := 84) dX12_seaLine_83 rfl ?_
          refine wf_iald (n := 276) (i := (9 + 3 * zV (pFn T n 0 S) + 2)) (v := zD (pAv T n (pFn T n 0 (pAv T n (pFn T n 0 S)))) 5 (zV (pFn T n 0 S))) (p := 85) dX12_seaLine_84 rfl (by decide) (in_nJ (by omega) (by decide)) (nI_cl (by omega)) ((lM.nx (S := (pFn T n 0 (pAv T n (pFn T n 0 S)))) (lM.fn (S := (pAv T n (pFn T n 0 S))) (lM.fa (S := S) hl f1 z1 t1) f2 z2 t2) f3 r3).2.2.2.1.1.2.2.2.2.1 _ ha) rfl ?_
          refine we_iconst (v := 1) (p := 86) dX12_seaLine_85 (by decide) rfl ?_
          refine we_iload_n (p := 87) dX12_seaLine_86 rfl rfl ?_
          refine we_ishl (p := 88) dX12_seaLine_87 rfl ?_
          refine we_ior (p := 89) dX12_seaLine_88 rfl ?_
          refine wf_iast (n := 276) (i := (9 + 3 * zV (pFn T n 0 S) + 2)) (p := 90) dX12_seaLine_89 rfl (by decide) (in_nJ (by omega) (by decide)) (nI_cl (by omega)) rfl ?_
          refine we_aload_n (p := 91) dX12_seaLine_90 rfl rfl ?_
          refine we_getR (c := 11) (j := 16) (n := 37) (b := 99) (p := 94) dX12_seaLine_91 rfl rfl (by decide) (by decide) rfl (r_95_16 hF) rfl ?_
          refine we_bipush (v := 9) (p := 96) dX12_seaLine_94 (by decide) rfl ?_
          refine we_iconst (v := 3) (p := 97) dX12_seaLine_96 (by decide) rfl ?_
          refine we_iload_n (p := 98) dX12_seaLine_97 rfl rfl ?_
          refine we_imul (p := 99) dX12_seaLine_98 rfl ?_
          refine we_iadd (p := 100) dX12_seaLine_99 rfl ?_
          refine we_iconst (v := 2) (p := 101) dX12_seaLine_100 (by decide) rfl ?_
          refine we_iadd (p := 102) dX12_seaLine_101 rfl ?_
          rw [show (9 + 3 * nI (zV (pFn T n 0 (pAv T n (pFn T n 0 S)))) + 2 : Int32) = nI (9 + 3 * zV (pFn T n 0 (pAv T n (pFn T n 0 S))) + 2) from ix92]
          refine we_dup2 (p := 103) dX12_seaLine_102 rfl ?_
          refine wf_iald (n := 276) (i := (9 + 3 * zV (pFn T n 0 (pAv T n (pFn T n 0 S))) + 2)) (v := zD (pAv T n (pSt 5 (zV (pFn T n 0 S)) ((zD (pAv T n (pFn T n 0 (pAv T n (pFn T n 0 S)))) 5 (zV (pFn T n 0 S))) ||| (1 <<< ((nI (zV (pFn T n 0 (pAv T n (pFn T n 0 S))))) &&& 31))) (pFn T n 0 (pAv T n (pFn T n 0 S))))) 5 (zV (pFn T n 0 (pAv T n (pFn T n 0 S))))) (p := 104) dX12_seaLine_103 rfl (by decide) (in_nJ (by omega) (by decide)) (nI_cl (by omega)) (((lM.nx (S := (pFn T n 0 (pAv T n (pFn T n 0 S)))) (lM.fn (S := (pAv T n (pFn T n 0 S))) (lM.fa (S := S) hl f1 z1 t1) f2 z2 t2) f3 r3).st (j := 5) (i := (zV (pFn T n 0 S))) (v := (zD (pAv T n (pFn T n 0 (pAv T n (pFn T n 0 S)))) 5 (zV (pFn T n 0 S))) ||| (1 <<< ((nI (zV (pFn T n 0 (pAv T n (pFn T n 0 S))))) &&& 31))) (by decide) (by decide) (show (zV (pFn T n 0 S)) < 6 by omega) (by intro x hx; simp at hx)).2.2.2.1.1.2.2.2.2.1 _ hb) rfl ?_
          refine we_iconst (v := 1) (p := 105) dX12_seaLine_104 (by decide) rfl ?_
          refine we_iload_n (p := 106) dX12_seaLine_105 rfl rfl ?_
          refine we_ishl (p := 107) dX12_seaLine_106 rfl ?_
          refine we_ior (p := 108) dX12_seaLine_107 rfl ?_
          refine wf_iast (n := 276) (i := (9 + 3 * zV (pFn T n 0 (pAv T n (pFn T n 0 S))) + 2)) (p := 109) dX12_seaLine_108 rfl (by decide) (in_nJ (by omega) (by decide)) (nI_cl (by omega)) rfl ?_
          refine we_aload_n (p := 110) dX12_seaLine_109 rfl rfl ?_
          refine we_getR (c := 11) (j := 16) (n := 37) (b := 99) (p := 113) dX12_seaLine_110 rfl rfl (by decide) (by decide) rfl (r_95_16 hF) rfl ?_
          refine we_iconst (v := 3) (p := 114) dX12_seaLine_113 (by decide) rfl ?_
          refine we_dup2 (p := 115) dX12_seaLine_114 rfl ?_
          refine wf_iald (n := 276) (i := 3) (v := nI row) (p := 116) dX12_seaLine_115 rfl (by decide) (by decide) (by decide) ((((lM.nx (S := (pFn T n 0 (pAv T n (pFn T n 0 S)))) (lM.fn (S := (pAv T n (pFn T n 0 S))) (lM.fa (S := S) hl f1 z1 t1) f2 z2 t2) f3 r3).st (j := 5) (i := (zV (pFn T n 0 S))) (v := (zD (pAv T n (pFn T n 0 (pAv T n (pFn T n 0 S)))) 5 (zV (pFn T n 0 S))) ||| (1 <<< ((nI (zV (pFn T n 0 (pAv T n (pFn T n 0 S))))) &&& 31))) (by decide) (by decide) (show (zV (pFn T n 0 S)) < 6 by omega) (by intro x hx; simp at hx)).st (j := 5) (i := (zV (pFn T n 0 (pAv T n (pFn T n 0 S))))) (v := (zD (pAv T n (pSt 5 (zV (pFn T n 0 S)) ((zD (pAv T n (pFn T n 0 (pAv T n (pFn T n 0 S)))) 5 (zV (pFn T n 0 S))) ||| (1 <<< ((nI (zV (pFn T n 0 (pAv T n (pFn T n 0 S))))) &&& 31))) (pFn T n 0 (pAv T n (pFn T n 0 S))))) 5 (zV (pFn T n 0 (pAv T n (pFn T n 0 S))))) ||| (1 <<< ((nI (zV (pFn T n 0 S))) &&& 31))) (by decide) (by decide) (show (zV (pFn T n 0 (pAv T n (pFn T n 0 S)))) < 6 by omega) (by intro x hx; simp at hx)).cnt (by decide)) rfl ?_
          refine we_iconst (v := 1) (p := 117) dX12_seaLine_116 (by decide) rfl ?_
          refine we_iadd (p := 118) dX12_seaLine_117 rfl ?_
          rw [nI_1]
          refine wf_iast (n := 276) (i := 3) (p := 119) dX12_seaLine_118 rfl (by decide) (by decide) (by decide) rfl ?_
          exact wv_ret dX12_seaLine_119 rfl (RmL.ok (S := (pAv T n (pSt 5 (zV (pFn T n 0 (pAv T n (pFn T n 0 S)))) ((zD (pAv T n (pSt 5 (zV (pFn T n 0 S)) ((zD (pAv T n (pFn T n 0 (pAv T n (pFn T n 0 S)))) 5 (zV (pFn T n 0 S))) ||| (1 <<< ((nI (zV (pFn T n 0 (pAv T n (pFn T n 0 S))))) &&& 31))) (pFn T n 0 (pAv T n (pFn T n 0 S))))) 5 (zV (pFn T n 0 (pAv T n (pFn T n 0 S))))) ||| (1 <<< ((nI (zV (pFn T n 0 S))) &&& 31))) (pSt 5 (zV (pFn T n 0 S)) ((zD (pAv T n (pFn T n 0 (pAv T n (pFn T n 0 S)))) 5 (zV (pFn T n 0 S))) ||| (1 <<< ((nI (zV (pFn T n 0 (pAv T n (pFn T n 0 S))))) &&& 31))) (pFn T n 0 (pAv T n (pFn T n 0 S))))))) ((congrArg (fun z => pB z (pIn 1)) (show pSea T n S = (pAv T n (pSt 5 (zV (pFn T n 0 (pAv T n (pFn T n 0 S)))) ((zD (pAv T n (pSt 5 (zV (pFn T n 0 S)) ((zD (pAv T n (pFn T n 0 (pAv T n (pFn T n 0 S)))) 5 (zV (pFn T n 0 S))) ||| (1 <<< ((nI (zV (pFn T n 0 (pAv T n (pFn T n 0 S))))) &&& 31))) (pFn T n 0 (pAv T n (pFn T n 0 S))))) 5 (zV (pFn T n 0 (pAv T n (pFn T n 0 S))))) ||| (1 <<< ((nI (zV (pFn T n 0 S))) &&& 31))) (pSt 5 (zV (pFn T n 0 S)) ((zD (pAv T n (pFn T n 0 (pAv T n (pFn T n 0 S)))) 5 (zV (pFn T n 0 S))) ||| (1 <<< ((nI (zV (pFn T n 0 (pAv T n (pFn T n 0 S))))) &&& 31))) (pFn T n 0 (pAv T n (pFn T n 0 S)))))) from by
      unfold pSea
      first | (rw [pB_y (S := (pFn T n 0 S)) z1, pB_y (S := (pFn T n 0 (pAv T n (pFn T n 0 S)))) z2, if_pos (can_0 ha hb hc27 hc47)]; done) | (rw [pB_y (S := (pFn T n 0 S)) z1, pB_y (S := (pFn T n 0 (pAv T n (pFn T n 0 S)))) z2, if_pos (can_0 ha hb hc27 hc47)]; rfl))).trans (pB_y (((lM.nx (S := (pFn T n 0 (pAv T n (pFn T n 0 S)))) (lM.fn (S := (pAv T n (pFn T n 0 S))) (lM.fa (S := S) hl f1 z1 t1) f2 z2 t2) f3 r3).st (j := 5) (i := (zV (pFn T n 0 S))) (v := (zD (pAv T n (pFn T n 0 (pAv T n (pFn T n 0 S)))) 5 (zV (pFn T n 0 S))) ||| (1 <<< ((nI (zV (pFn T n 0 (pAv T n (pFn T n 0 S))))) &&& 31))) (by decide) (by decide) (show (zV (pFn T n 0 S)) < 6 by omega) (by intro x hx; simp at hx)).st (j := 5) (i := (zV (pFn T n 0 (pAv T n (pFn T n 0 S))))) (v := (zD (pAv T n (pSt 5 (zV (pFn T n 0 S)) ((zD (pAv T n (pFn T n 0 (pAv T n (pFn T n 0 S)))) 5 (zV (pFn T n 0 S))) ||| (1 <<< ((nI (zV (pFn T n 0 (pAv T n (pFn T n 0 S))))) &&& 31))) (pFn T n 0 (pAv T n (pFn T n 0 S))))) 5 (zV (pFn T n 0 (pAv T n (pFn T n 0 S))))) ||| (1 <<< ((nI (zV (pFn T n 0 S))) &&& 31))) (by decide) (by decide) (show (zV (pFn T n 0 (pAv T n (pFn T n 0 S)))) < 6 by omega) (by intro x hx; simp at hx)).2.1)) (((lM.nx (S := (pFn T n 0 (pAv T n (pFn T n 0 S)))) (lM.fn (S := (pAv T n (pFn T n 0 S))) (lM.fa (S := S) hl f1 z1 t1) f2 z2 t2) f3 r3).st (j := 5) (i := (zV (pFn T n 0 S))) (v := (zD (pAv T n (pFn T n 0 (pAv T n (pFn T n 0 S)))) 5 (zV (pFn T n 0 S))) ||| (1 <<< ((nI (zV (pFn T n 0 (pAv T n (pFn T n 0 S))))) &&& 31))) (by decide) (by decide) (show (zV (pFn T n 0 S)) < 6 by omega) (by intro x hx; simp at hx)).st (j := 5) (i := (zV (pFn T n 0 (pAv T n (pFn T n 0 S))))) (v := (zD (pAv T n (pSt 5 (zV (pFn T n 0 S)) ((zD (pAv T n (pFn T n 0 (pAv T n (pFn T n 0 S)))) 5 (zV (pFn T n 0 S))) ||| (1 <<< ((nI (zV (pFn T n 0 (pAv T n (pFn T n 0 S))))) &&& 31))) (pFn T n 0 (pAv T n (pFn T n 0 S))))) 5 (zV (pFn T n 0 (pAv T n (pFn T n 0 S))))) ||| (1 <<< ((nI (zV (pFn T n 0 S))) &&& 31))) (by decide) (by decide) (show (zV (pFn T n 0 (pAv T n (pFn T n 0 S)))) < 6 by omega) (by intro x hx; simp at hx)) (by decide) (show row < 10 by omega) (by decide) rfl)
        · skip
          refine we_aload_n (p := 51) dX12_seaLine_50 rfl rfl ?_
          refine we_iconst (v := 3) (p := 52) dX12_seaLine_51 (by decide) rfl ?_
          refine we_aload_n (p := 53) dX12_seaLine_52 rfl rfl ?_
          refine wf_getI (c := 11) (j := 4) (n := 37) (v := nI (tS T n (zP (pFn T n 0 (pAv T n (pFn T n 0 S)))))) (p := 56) dX12_seaLine_53 rfl rfl (by decide) (by decide) (Or.inl rfl) (lM.fn (S := (pAv T n (pFn T n 0 S))) (lM.fa (S := S) hl f1 z1 t1) f2 z2 t2).2.2.1.2.2.1.1 rfl ?_
          refine we_callV_v (p := 59) (k' := 0) (a := [.ref 95, .int 3, .int (nI (tS T n (zP (pFn T n 0 (pAv T n (pFn T n 0 S))))))]) (rr := []) dX12_seaLine_56 rfl rfl rfl rfl (rc_of rfl rfl (by decide) ⟨rfl, by decide⟩) (Nat.le_of_ble_eq_true rfl) (Nat.le_of_ble_eq_true rfl) (by decide) (y_wrong (b := tS T n (zP (pFn T n 0 (pAv T n (pFn T n 0 S))))) hF (lM.fn (S := (pAv T n (pFn T n 0 S))) (lM.fa (S := S) hl f1 z1 t1) f2 z2 t2).2.2.1.2.2.2.1) (Or.inl rfl) rfl ?_
          refine we_aload_n (p := 60) dX12_seaLine_59 rfl rfl ?_
          refine wf_getI (c := 11) (j := 13) (n := 37) (v := 1) (p := 63) dX12_seaLine_60 rfl rfl (by decide) (by decide) (Or.inr rfl) ((lM.wr (S := (pFn T n 0 (pAv T n (pFn T n 0 S)))) (q := 3) (lM.fn (S := (pAv T n (pFn T n 0 S))) (lM.fa (S := S) hl f1 z1 t1) f2 z2 t2) (by decide))).2.2.1 rfl ?_
          refine we_if_eq (t := 67) (p := 66) dX12_seaLine_63 (by decide) rfl rfl (fun hc63 => absurd hc63 (by decide)) (fun hc63 => ?_)
          exact wv_ret dX12_seaLine_66 rfl (RmL.no (X := (pFl 3 (pFn T n 0 (pAv T n (pFn T n 0 S))))) ((congrArg (fun z => pB z (pIn 1)) (show pSea T n S = (pFl 3 (pFn T n 0 (pAv T n (pFn T n 0 S)))) from by
      unfold pSea
      first | (rw [pB_y (S := (pFn T n 0 S)) z1, pB_y (S := (pFn T n 0 (pAv T n (pFn T n 0 S)))) z2, if_neg (can_2 ha hb hc27 hc47)]; done) | (rw [pB_y (S := (pFn T n 0 S)) z1, pB_y (S := (pFn T n 0 (pAv T n (pFn T n 0 S)))) z2, if_neg (can_2 ha hb hc27 hc47)]; rfl))).trans (pB_n (S := (pFl 3 (pFn T n 0 (pAv T n (pFn T n 0 S))))) (show ¬ (3 : Nat) = 0 by decide))) (lM.wr (S := (pFn T n 0 (pAv T n (pFn T n 0 S)))) (q := 3) (lM.fn (S := (pAv T n (pFn T n 0 S))) (lM.fa (S := S) hl f1 z1 t1) f2 z2 t2) (by decide)))
    · skip
      refine we_callV_int (p := 17) (k' := 5) (a := [.ref 95]) (rr := []) dX12_seaLine_14 rfl rfl rfl rfl (rc_of rfl rfl (by decide) ⟨rfl, by decide⟩) (Nat.le_of_ble_eq_true rfl) (Nat.le_of_ble_eq_true rfl) (by decide) e2 (Or.inl rfl) rfl ?_
      refine we_istore_n (ls1 := [.ref 95, .int (nI (zV (pFn T n 0 S))), .int 0]) (p := 18) dX12_seaLine_17 rfl rfl ?_
      refine we_aload_n (p := 19) dX12_seaLine_18 rfl rfl ?_
      refine wf_getI (c := 11) (j := 13) (n := 37) (v := 1) (p := 22) dX12_seaLine_19 rfl rfl (by decide) (by decide) (Or.inr rfl) (((lM.fa (S := S) hl f1 z1 t1).no f2 z2 g2)).2.2.1 rfl ?_
      refine we_if_ne (t := 59) (p := 25) dX12_seaLine_22 (by decide) rfl rfl (fun hc22 => ?_) (fun hc22 => absurd hc22 (by decide))
      refine we_aload_n (p := 60) dX12_seaLine_59 rfl rfl ?_
      refine wf_getI (c := 11) (j := 13) (n := 37) (v := 1) (p := 63) dX12_seaLine_60 rfl rfl (by decide) (by decide) (Or.inr rfl) (((lM.fa (S := S) hl f1 z1 t1).no f2 z2 g2)).2.2.1 rfl ?_
      refine we_if_eq (t := 67) (p := 66) dX12_seaLine_63 (by decide) rfl rfl (fun hc63 => absurd hc63 (by decide)) (fun hc63 => ?_)
      exact wv_ret dX12_seaLine_66 rfl (RmL.no (X := (pFn T n 0 (pAv T n (pFn T n 0 S)))) ((congrArg (fun z => pB z (pIn 1)) (show pSea T n S = (pFn T n 0 (pAv T n (pFn T n 0 S))) from by
      unfold pSea
      first | (rw [pB_y (S := (pFn T n 0 S)) z1, pB_n (S := (pFn T n 0 (pAv T n (pFn T n 0 S)))) z2]; done) | (rw [pB_y (S := (pFn T n 0 S)) z1, pB_n (S := (pFn T n 0 (pAv T n (pFn T n 0 S)))) z2]; rfl))).trans (pB_n (S := (pFn T n 0 (pAv T n (pFn T n 0 S)))) z2)) ((lM.fa (S := S) hl f1 z1 t1).no f2 z2 g2))
  · skip
    refine we_callV_int (p := 12) (k' := 6) (a := [.ref 95]) (rr := []) dX12_seaLine_9 rfl rfl rfl rfl (rc_of rfl rfl (by decide) ⟨rfl, by decide⟩) (Nat.le_of_ble_eq_true rfl) (Nat.le_of_ble_eq_true rfl) (by decide) e1 (Or.inl rfl) rfl ?_
    refine we_istore_n (ls1 := [.ref 95, .int 0, .null]) (p := 13) dX12_seaLine_12 rfl rfl ?_
    refine we_aload_n (p := 14) dX12_seaLine_13 rfl rfl ?_
    refine we_callV_int (p := 17) (k' := 5) (a := [.ref 95]) (rr := []) dX12_seaLine_14 rfl rfl rfl rfl (rc_of rfl rfl (by decide) ⟨rfl, by decide⟩) (Nat.le_of_ble_eq_true rfl) (Nat.le_of_ble_eq_true rfl) (by decide) (y_harbourHere_f hF ((hl.no f1 z1 g1)).2.2.1) (Or.inl rfl) rfl ?_
    refine we_istore_n (ls1 := [.ref 95, .int 0, .int 0]) (p := 18) dX12_seaLine_17 rfl rfl ?_
    refine we_aload_n (p := 19) dX12_seaLine_18 rfl rfl ?_
    refine wf_getI (c := 11) (j := 13) (n := 37) (v := 1) (p := 22) dX12_seaLine_19 rfl rfl (by decide) (by decide) (Or.inr rfl) ((hl.no f1 z1 g1)).2.2.1 rfl ?_
    refine we_if_ne (t := 59) (p := 25) dX12_seaLine_22 (by decide) rfl rfl (fun hc22 => ?_) (fun hc22 => absurd hc22 (by decide))
    refine we_aload_n (p := 60) dX12_seaLine_59 rfl rfl ?_
    refine wf_getI (c := 11) (j := 13) (n := 37) (v := 1) (p := 63) dX12_seaLine_60 rfl rfl (by decide) (by decide) (Or.inr rfl) ((hl.no f1 z1 g1)).2.2.1 rfl ?_
    refine we_if_eq (t := 67) (p := 66) dX12_seaLine_63 (by decide) rfl rfl (fun hc63 => absurd hc63 (by decide)) (fun hc63 => ?_)
    exact wv_ret dX12_seaLine_66 rfl (RmL.no (X := (pFn T n 0 S)) ((congrArg (fun z => pB z (pIn 1)) (show pSea T n S = (pFn T n 0 S) from by
      unfold pSea
      first | (rw [pB_n (S := (pFn T n 0 S)) z1]; done) | (rw [pB_n (S := (pFn T n 0 S)) z1]; rfl))).trans (pB_n (S := (pFn T n 0 S)) z1)) (hl.no f1 z1 g1))
set_option maxRecDepth 10000 in
theorem y_oathLine0 {I : Nat → Nat → Int32} {J : Nat → Nat → Int64} {F : Nat → Nat → Option Nat} {nc ns : Nat} {T : Nat → Nat} {n : Nat} {S : pZ} (hF : RFok F) {k r : Nat} (hl : lM T n S I I k r []) (h00 : zD S 0 0 ≤ 0) : Ew 6 mX12_oathLine 0 [.ref 95, .null] [] ((SH, nc, ns), I, J, F) (RmL nc ns T n I J F (pOath T n S)) := by
  refine we_aload_n (p := 1) dX12_oathLine_0 rfl rfl ?_
  refine we_getR (c := 11) (j := 16) (n := 37) (b := 99) (p := 4) dX12_oathLine_1 rfl rfl (by decide) (by decide) rfl (r_95_16 hF) rfl ?_
  refine we_iconst (v := 0) (p := 5) dX12_oathLine_4 (by decide) rfl ?_
  refine wf_iald (n := 276) (i := 0) (v := zD S 0 0) (p := 6) dX12_oathLine_5 rfl (by decide) (by decide) (by decide) hl.2.2.2.1.1.1 rfl ?_
  refine we_if_le (t := 18) (p := 9) dX12_oathLine_6 (by decide) rfl rfl (fun hc6 => ?_) (fun hc6 => absurd h00 hc6)
  refine we_aload_n (p := 19) dX12_oathLine_18 rfl rfl ?_
  refine wf_getI (c := 11) (j := 13) (n := 37) (v := 0) (p := 22) dX12_oathLine_19 rfl rfl (by decide) (by decide) (Or.inr rfl) hl.2.2.1.2.2.2.1 rfl ?_
  refine we_if_eq (t := 26) (p := 25) dX12_oathLine_22 (by decide) rfl rfl (fun hc22 => ?_) (fun hc22 => absurd (by decide) hc22)
  refine we_aload_n (p := 27) dX12_oathLine_26 rfl rfl ?_
  obtain ⟨_, _, e1, rfl, I1, J1, F1, rfl, rfl, rfl, f1, r1⟩ := y_next hF hl.2.2.1.1 (tE_le hl.2.2.1.2.1).1 hl.2.2.1.2.2.1.2.1
  refine we_callV_v (p := 30) (k' := 1) (a := [.ref 95]) (rr := []) dX12_oathLine_27 rfl rfl rfl rfl (rc_of rfl rfl (by decide) ⟨rfl, by decide⟩) (Nat.le_of_ble_eq_true rfl) (Nat.le_of_ble_eq_true rfl) (by decide) e1 (Or.inl rfl) rfl ?_
  refine we_aload_n (p := 31) dX12_oathLine_30 rfl rfl ?_
  refine we_ldcS (j := 3) (p := 33) dX12_oathLine_31 rfl rfl rfl ?_
  refine we_iconst (v := 5) (p := 34) dX12_oathLine_33 (by decide) rfl ?_
  refine we_bipush (v := 9) (p := 36) dX12_oathLine_34 (by decide) rfl ?_
  obtain ⟨_, _, e2, I2, rfl, f2, ⟨z2, rfl, t2⟩ | ⟨z2, rfl, g2⟩⟩ := y_afterW (S := (pAv T n S)) (j := 3) (w := 12) (lo := 5) (hi := 9) rfl hF (lM.nx (S := S) hl f1 r1).2.2.1 (lM.nx (S := S) hl f1 r1).2.1 (by decide) (by decide) (by decide) (by decide)
  · skip
    refine we_callV_int (p := 39) (k' := 5) (a := [.ref 95, .ref (sp_S + 3), .int 5, .int 9]) (rr := []) dX12_oathLine_36 rfl rfl rfl rfl (rc_of rfl rfl (by decide) ⟨rfl, by decide⟩) (Nat.le_of_ble_eq_true rfl) (Nat.le_of_ble_eq_true rfl) (by decide) e2 (Or.inl rfl) rfl ?_
    refine we_istore_n (ls1 := [.ref 95, .int (nI (zV (pTk T n 12 5 9 (pAv T n S))))]) (p := 40) dX12_oathLine_39 rfl rfl ?_
    refine we_aload_n (p := 41) dX12_oathLine_40 rfl rfl ?_
    refine we_getR (c := 11) (j := 16) (n := 37) (b := 99) (p := 44) dX12_oathLine_41 rfl rfl (by decide) (by decide) rfl (r_95_16 hF) rfl ?_
    refine we_iconst (v := 1) (p := 45) dX12_oathLine_44 (by decide) rfl ?_
    refine we_aload_n (p := 46) dX12_oathLine_45 rfl rfl ?_
    refine we_ldcS (j := 4) (p := 48) dX12_oathLine_46 rfl rfl rfl ?_
    refine we_iconst (v := 1) (p := 49) dX12_oathLine_48 (by decide) rfl ?_
    refine we_iconst (v := 3) (p := 50) dX12_oathLine_49 (by decide) rfl ?_
    obtain ⟨_, _, e3, I3, rfl, f3, ⟨z3, rfl, t3⟩ | ⟨z3, rfl, g3⟩⟩ := y_afterW (S := (pTk T n 12 5 9 (pAv T n S))) (j := 4) (w := 13) (lo := 1) (hi := 3) rfl hF (lM.tk (S := (pAv T n S)) (lM.nx (S := S) hl f1 r1) f2 z2 t2).2.2.1 (lM.tk (S := (pAv T n S)) (lM.nx (S := S) hl f1 r1) f2 z2 t2).2.1 (by decide) (by decide) (by decide) (by decide)
    · skip
      refine we_callV_int (p := 53) (k' := 5) (a := [.ref 95, .ref (sp_S + 4), .int 1, .int 3]) (rr := [.int 1, .ref 99]) dX12_oathLine_50 rfl rfl rfl rfl (rc_of rfl rfl (by decide) ⟨rfl, by decide⟩) (Nat.le_of_ble_eq_true rfl) (Nat.le_of_ble_eq_true rfl) (by decide) e3 (Or.inl rfl) rfl ?_
      refine wf_iast (n := 276) (i := 1) (p := 54) dX12_oathLine_53 rfl (by decide) (by decide) (by decide) rfl ?_
      refine we_aload_n (p := 55) dX12_oathLine_54 rfl rfl ?_
      refine wf_getI (c := 11) (j := 13) (n := 37) (v := 0) (p := 58) dX12_oathLine_55 rfl rfl (by decide) (by decide) (Or.inr rfl) ((lM.tk (S := (pTk T n 12 5 9 (pAv T n S))) (lM.tk (S := (pAv T n S)) (lM.nx (S := S) hl f1 r1) f2 z2 t2) f3 z3 t3).st (j := 1) (i := 0) (v := nI (zV (pTk T n 13 1 3 (pTk T n 12 5 9 (pAv T n S))))) (by decide) (by decide) (show 0 < 1 by omega) (by intro x hx; simp at hx)).2.2.1.2.2.2.1 rfl ?_
      refine we_if_ne (t := 68) (p := 61) dX12_oathLine_58 (by decide) rfl rfl (fun hc58 => absurd (by decide) hc58) (fun hc58 => ?_)
      refine we_aload_n (p := 62) dX12_oathLine_61 rfl rfl ?_
      refine we_getR (c := 11) (j := 16) (n := 37) (b := 99) (p := 65) dX12_oathLine_62 rfl rfl (by decide) (by decide) rfl (r_95_16 hF) rfl ?_
      refine we_iconst (v := 0) (p := 66) dX12_oathLine_65 (by decide) rfl ?_
      refine we_iload_n (p := 67) dX12_oathLine_66 rfl rfl ?_
      refine wf_iast (n := 276) (i := 0) (p := 68) dX12_oathLine_67 rfl (by decide) (by decide) (by decide) rfl ?_
      exact wv_ret dX12_oathLine_68 rfl (RmL.oo (S := (pSt 0 0 (nI (zV (pTk T n 12 5 9 (pAv T n S)))) (pSt 1 0 (nI (zV (pTk T n 13 1 3 (pTk T n 12 5 9 (pAv T n S))))) (pTk T n 13 1 3 (pTk T n 12 5 9 (pAv T n S)))))) (show pOath T n S = (pSt 0 0 (nI (zV (pTk T n 12 5 9 (pAv T n S)))) (pSt 1 0 (nI (zV (pTk T n 13 1 3 (pTk T n 12 5 9 (pAv T n S))))) (pTk T n 13 1 3 (pTk T n 12 5 9 (pAv T n S))))) from by
      unfold pOath
      rw [if_pos h00, pB_y (S := (pTk T n 12 5 9 (pAv T n S))) z2, pB_y (S := (pTk T n 13 1 3 (pTk T n 12 5 9 (pAv T n S)))) z3]
      show (_, _, _, _, _, _) = (_, _, _, _, _, _)
      simp only [pSt, hu_cm (a := 0) (b := 1) (by decide)]) (((lM.tk (S := (pTk T n 12 5 9 (pAv T n S))) (lM.tk (S := (pAv T n S)) (lM.nx (S := S) hl f1 r1) f2 z2 t2) f3 z3 t3).st (j := 1) (i := 0) (v := nI (zV (pTk T n 13 1 3 (pTk T n 12 5 9 (pAv T n S))))) (by decide) (by decide) (show 0 < 1 by omega) (by intro x hx; simp at hx)).st (j := 0) (i := 0) (v := nI (zV (pTk T n 12 5 9 (pAv T n S)))) (by decide) (by decide) (show 0 < 1 by omega) (by intro x hx; simp at hx)))
    · skip
      refine we_callV_int (p := 53) (k' := 5) (a := [.ref 95, .ref (sp_S + 4), .int 1, .int 3]) (rr := [.int 1, .ref 99]) dX12_oathLine_50 rfl rfl rfl rfl (rc_of rfl rfl (by decide) ⟨rfl, by decide⟩) (Nat.le_of_ble_eq_true rfl) (Nat.le_of_ble_eq_true rfl) (by decide) e3 (Or.inl rfl) rfl ?_
      refine wf_iast (n := 276) (i := 1) (p := 54) dX12_oathLine_53 rfl (by decide) (by decide) (by decide) rfl ?_
      refine we_aload_n (p := 55) dX12_oathLine_54 rfl rfl ?_
      refine wf_getI (c := 11) (j := 13) (n := 37) (v := 1) (p := 58) dX12_oathLine_55 rfl rfl (by decide) (by decide) (Or.inr rfl) ((((lM.tk (S := (pAv T n S)) (lM.nx (S := S) hl f1 r1) f2 z2 t2).no f3 z3 g3).u)).2.2.1 rfl ?_
      refine we_if_ne (t := 68) (p := 61) dX12_oathLine_58 (by decide) rfl rfl (fun hc58 => ?_) (fun hc58 => absurd hc58 (by decide))
      exact wv_ret dX12_oathLine_68 rfl (RmL.no (X := (pTk T n 13 1 3 (pTk T n 12 5 9 (pAv T n S)))) (show pOath T n S = (pTk T n 13 1 3 (pTk T n 12 5 9 (pAv T n S))) from by
      unfold pOath
      first | (rw [if_pos h00, pB_y (S := (pTk T n 12 5 9 (pAv T n S))) z2, pB_n (S := (pTk T n 13 1 3 (pTk T n 12 5 9 (pAv T n S)))) z3]; done) | (rw [if_pos h00, pB_y (S := (pTk T n 12 5 9 (pAv T n S))) z2, pB_n (S := (pTk T n 13 1 3 (pTk T n 12 5 9 (pAv T n S)))) z3]; rfl)) (((lM.tk (S := (pAv T n S)) (lM.nx (S := S) hl f1 r1) f2 z2 t2).no f3 z3 g3).u))
  · skip
    refine we_callV_int (p := 39) (k' := 5) (a := [.ref 95, .ref (sp_S + 3), .int 5, .int 9]) (rr := []) dX12_oathLine_36 rfl rfl rfl rfl (rc_of rfl rfl (by decide) ⟨rfl, by decide⟩) (Nat.le_of_ble_eq_true rfl) (Nat.le_of_ble_eq_true rfl) (by decide) e2 (Or.inl rfl) rfl ?_
    refine we_istore_n (ls1 := [.ref 95, .int 5]) (p := 40) dX12_oathLine_39 rfl rfl ?_
    refine we_aload_n (p := 41) dX12_oathLine_40 rfl rfl ?_
    refine we_getR (c := 11) (j := 16) (n := 37) (b := 99) (p := 44) dX12_oathLine_41 rfl rfl (by decide) (by decide) rfl (r_95_16 hF) rfl ?_
    refine we_iconst (v := 1) (p := 45) dX12_oathLine_44 (by decide) rfl ?_
    refine we_aload_n (p := 46) dX12_oathLine_45 rfl rfl ?_
    refine we_ldcS (j := 4) (p := 48) dX12_oathLine_46 rfl rfl rfl ?_
    refine we_iconst (v := 1) (p := 49) dX12_oathLine_48 (by decide) rfl ?_
    refine we_iconst (v := 3) (p := 50) dX12_oathLine_49 (by decide) rfl ?_
    refine we_callV_int (p := 53) (k' := 5) (a := [.ref 95, .ref (sp_S + 4), .int 1, .int 3]) (rr := [.int 1, .ref 99]) dX12_oathLine_50 rfl rfl rfl rfl (rc_of rfl rfl (by decide) ⟨rfl, by decide⟩) (Nat.le_of_ble_eq_true rfl) (Nat.le_of_ble_eq_true rfl) (by decide) (y_after_f hF (((lM.nx (S := S) hl f1 r1).no f2 z2 g2)).2.2.1) (Or.inl rfl) rfl ?_
    refine wf_iast (n := 276) (i := 1) (p := 54) dX12_oathLine_53 rfl (by decide) (by decide) (by decide) rfl ?_
    refine we_aload_n (p := 55) dX12_oathLine_54 rfl rfl ?_
    refine wf_getI (c := 11) (j := 13) (n := 37) (v := 1) (p := 58) dX12_oathLine_55 rfl rfl (by decide) (by decide) (Or.inr rfl) ((((lM.nx (S := S) hl f1 r1).no f2 z2 g2).u)).2.2.1 rfl ?_
    refine we_if_ne (t := 68) (p := 61) dX12_oathLine_58 (by decide) rfl rfl (fun hc58 => ?_) (fun hc58 => absurd hc58 (by decide))
    exact wv_ret dX12_oathLine_68 rfl (RmL.no (X := (pTk T n 12 5 9 (pAv T n S))) (show pOath T n S = (pTk T n 12 5 9 (pAv T n S)) from by
      unfold pOath
      first | (rw [if_pos h00, pB_n (S := (pTk T n 12 5 9 (pAv T n S))) z2]; done) | (rw [if_pos h00, pB_n (S := (pTk T n 12 5 9 (pAv T n S))) z2]; rfl)) (((lM.nx (S := S) hl f1 r1).no f2 z2 g2).u))
set_option maxRecDepth 10000 in
theorem y_oathLine1 {I : Nat → Nat → Int32} {J : Nat → Nat → Int64} {F : Nat → Nat → Option Nat} {nc ns : Nat} {T : Nat → Nat} {n : Nat} {S : pZ} (hF : RFok F) {k r : Nat} (hl : lM T n S I I k r []) (h00 : ¬ zD S 0 0 ≤ 0) : Ew 6 mX12_oathLine 0 [.ref 95, .null] [] ((SH, nc, ns), I, J, F) (RmL nc ns T n I J F (pOath T n S)) := by
  refine we_aload_n (p := 1) dX12_oathLine_0 rfl rfl ?_
  refine we_getR (c := 11) (j := 16) (n := 37) (b := 99) (p := 4) dX12_oathLine_1 rfl rfl (by decide) (by decide) rfl (r_95_16 hF) rfl ?_
  refine we_iconst (v := 0) (p := 5) dX12_oathLine_4 (by decide) rfl ?_
  refine wf_iald (n := 276) (i := 0) (v := zD S 0 0) (p := 6) dX12_oathLine_5 rfl (by decide) (by decide) (by decide) hl.2.2.2.1.1.1 rfl ?_
  refine we_if_le (t := 18) (p := 9) dX12_oathLine_6 (by decide) rfl rfl (fun hc6 => absurd hc6 h00) (fun hc6 => ?_)
  refine we_aload_n (p := 10) dX12_oathLine_9 rfl rfl ?_
  refine we_iconst (v := 3) (p := 11) dX12_oathLine_10 (by decide) rfl ?_
  refine we_aload_n (p := 12) dX12_oathLine_11 rfl rfl ?_
  refine wf_getI (c := 11) (j := 4) (n := 37) (v := nI (tS T n (zP S))) (p := 15) dX12_oathLine_12 rfl rfl (by decide) (by decide) (Or.inl rfl) hl.2.2.1.2.2.1.1 rfl ?_
  refine we_callV_v (p := 18) (k' := 0) (a := [.ref 95, .int 3, .int (nI (tS T n (zP S)))]) (rr := []) dX12_oathLine_15 rfl rfl rfl rfl (rc_of rfl rfl (by decide) ⟨rfl, by decide⟩) (Nat.le_of_ble_eq_true rfl) (Nat.le_of_ble_eq_true rfl) (by decide) (y_wrong (b := tS T n (zP S)) hF hl.2.2.1.2.2.2.1) (Or.inl rfl) rfl ?_
  refine we_aload_n (p := 19) dX12_oathLine_18 rfl rfl ?_
  refine wf_getI (c := 11) (j := 13) (n := 37) (v := 1) (p := 22) dX12_oathLine_19 rfl rfl (by decide) (by decide) (Or.inr rfl) ((lM.wr (S := S) (q := 3) hl (by decide))).2.2.1 rfl ?_
  refine we_if_eq (t := 26) (p := 25) dX12_oathLine_22 (by decide) rfl rfl (fun hc22 => absurd hc22 (by decide)) (fun hc22 => ?_)
  exact wv_ret dX12_oathLine_25 rfl (RmL.no (X := (pFl 3 S)) (show pOath T n S = (pFl 3 S) from by
      unfold pOath
      first | (rw [if_neg h00]; done) | (rw [if_neg h00]; rfl)) (lM.wr (S := S) (q := 3) hl (by decide)))
set_option maxRecDepth 10000 in
theorem y_womanLine {I : Nat → Nat → Int32} {J : Nat → Nat → Int64} {F : Nat → Nat → Option Nat} {nc ns : Nat} {T : Nat → Nat} {n : Nat} {S : pZ} (hF : RFok F) {row : Nat} (hl : lM T n S I I 2 row []) (hrow : row < 8) (hfree : ∀ i, i < zC S → ¬ slt (zN S i) = slO 2 row) : Ew 7 mX12_womanLine 0 [.ref 95, .null, .null] [] ((SH, nc, ns), I, J, F) (RmL nc ns T n I J F (pB (pWom T n row S) (pIn 2))) := by
  refine we_aload_n (p := 1) dX12_womanLine_0 rfl rfl ?_
  refine wf_getI (c := 11) (j := 13) (n := 37) (v := 0) (p := 4) dX12_womanLine_1 rfl rfl (by decide) (by decide) (Or.inr rfl) hl.2.2.1.2.2.2.1 rfl ?_
  refine we_if_eq (t := 8) (p := 7) dX12_womanLine_4 (by decide) rfl rfl (fun hc4 => ?_) (fun hc4 => absurd (by decide) hc4)
  refine we_bipush (v := 27) (p := 10) dX12_womanLine_8 (by decide) rfl ?_
  refine we_iconst (v := 4) (p := 11) dX12_womanLine_10 (by decide) rfl ?_
  refine we_aload_n (p := 12) dX12_womanLine_11 rfl rfl ?_
  refine we_getR (c := 11) (j := 16) (n := 37) (b := 99) (p := 15) dX12_womanLine_12 rfl rfl (by decide) (by decide) rfl (r_95_16 hF) rfl ?_
  refine we_iconst (v := 4) (p := 16) dX12_womanLine_15 (by decide) rfl ?_
  refine wf_iald (n := 276) (i := 4) (v := nI row) (p := 17) dX12_womanLine_16 rfl (by decide) (by decide) (by decide) (hl.cnt (by decide)) rfl ?_
  refine we_imul (p := 18) dX12_womanLine_17 rfl ?_
  refine we_iadd (p := 19) dX12_womanLine_18 rfl ?_
  rw [show (27 + 4 * nI row : Int32) = nI (27 + 4 * row) from ixm (a := 27) (b := 4)]
  refine we_istore_n (ls1 := [.ref 95, .int (nI (27 + 4 * row)), .null]) (p := 20) dX12_womanLine_19 rfl rfl ?_
  refine we_aload_n (p := 21) dX12_womanLine_20 rfl rfl ?_
  refine we_bipush (v := 6) (p := 23) dX12_womanLine_21 (by decide) rfl ?_
  refine we_aload_n (p := 24) dX12_womanLine_23 rfl rfl ?_
  refine we_getR (c := 11) (j := 16) (n := 37) (b := 99) (p := 27) dX12_womanLine_24 rfl rfl (by decide) (by decide) rfl (r_95_16 hF) rfl ?_
  refine we_iconst (v := 4) (p := 28) dX12_womanLine_27 (by decide) rfl ?_
  refine wf_iald (n := 276) (i := 4) (v := nI row) (p := 29) dX12_womanLine_28 rfl (by decide) (by decide) (by decide) (hl.cnt (by decide)) rfl ?_
  refine we_iadd (p := 30) dX12_womanLine_29 rfl ?_
  rw [show (6 + nI row : Int32) = nI (6 + row) from nI_add (a := 6) (b := row)]
  obtain ⟨_, _, e1, I1, rfl, f1, ⟨z1, rfl, t1⟩ | ⟨z1, rfl, g1⟩⟩ := y_newName (S := S) (so := 2) (row := row) (t := (6 + row)) hF hl.2.2.1 hl.2.1 hl.2.2.2.1 rfl (by unfold rwO; omega) hfree hl.2.2.2.2.1
  · skip
    refine we_callV_v (p := 33) (k' := 4) (a := [.ref 95, .int (nI (6 + row))]) (rr := []) dX12_womanLine_30 rfl rfl rfl rfl (rc_of rfl rfl (by decide) ⟨rfl, by decide⟩) (Nat.le_of_ble_eq_true rfl) (Nat.le_of_ble_eq_true rfl) (by decide) e1 (Or.inl rfl) rfl ?_
    by_cases hk8 : tQ T n (zP (pNw T n 2 row S)) = nI 8
    · skip
      refine we_aload_n (p := 34) dX12_womanLine_33 rfl rfl ?_
      refine we_ldcS (j := 14) (p := 36) dX12_womanLine_34 rfl rfl rfl ?_
      refine we_callV_int (p := 39) (k' := 2) (a := [.ref 95, .ref (sp_S + 14)]) (rr := []) dX12_womanLine_36 rfl rfl rfl rfl (rc_of rfl rfl (by decide) ⟨rfl, by decide⟩) (Nat.le_of_ble_eq_true rfl) (Nat.le_of_ble_eq_true rfl) (by decide) (Ev.i (if_pos hk8) (y_isWord (j := 14) hF (lM.nw hl f1 z1 t1).2.2.1 (by decide) (by decide))) (Or.inl rfl) rfl ?_
      refine we_if_eq (t := 46) (p := 42) dX12_womanLine_39 (by decide) rfl rfl (fun hc39 => absurd hc39 (by decide)) (fun hc39 => ?_)
      refine we_iconst (v := 0) (p := 43) dX12_womanLine_42 (by decide) rfl ?_
      refine we_goto (p := 86) dX12_womanLine_43 (by decide) rfl ?_
      refine we_istore_n (ls1 := [.ref 95, .int (nI (27 + 4 * row)), .int 0]) (p := 87) dX12_womanLine_86 rfl rfl ?_
      refine we_iload_n (p := 88) dX12_womanLine_87 rfl rfl ?_
      refine we_if_ge (t := 100) (p := 91) dX12_womanLine_88 (by decide) rfl rfl (fun hc88 => ?_) (fun hc88 => absurd (by decide) hc88)
      refine we_aload_n (p := 101) dX12_womanLine_100 rfl rfl ?_
      refine wf_getI (c := 11) (j := 13) (n := 37) (v := 0) (p := 104) dX12_womanLine_101 rfl rfl (by decide) (by decide) (Or.inr rfl) (lM.nw hl f1 z1 t1).2.2.1.2.2.2.1 rfl ?_
      refine we_if_eq (t := 108) (p := 107) dX12_womanLine_104 (by decide) rfl rfl (fun hc104 => ?_) (fun hc104 => absurd (by decide) hc104)
      refine we_aload_n (p := 109) dX12_womanLine_108 rfl rfl ?_
      obtain ⟨_, _, e2, rfl, I2, J2, F2, rfl, rfl, rfl, f2, r2⟩ := y_next hF (lM.nw hl f1 z1 t1).2.2.1.1 (tE_le (lM.nw hl f1 z1 t1).2.2.1.2.1).1 (lM.nw hl f1 z1 t1).2.2.1.2.2.1.2.1
      refine we_callV_v (p := 112) (k' := 1) (a := [.ref 95]) (rr := []) dX12_womanLine_109 rfl rfl rfl rfl (rc_of rfl rfl (by decide) ⟨rfl, by decide⟩) (Nat.le_of_ble_eq_true rfl) (Nat.le_of_ble_eq_true rfl) (by decide) e2 (Or.inl rfl) rfl ?_
      refine we_aload_n (p := 113) dX12_womanLine_112 rfl rfl ?_
      refine we_ldcS (j := 18) (p := 115) dX12_womanLine_113 rfl rfl rfl ?_
      by_cases hin : tQ T n (zP (pAv T n (pNw T n 2 row S))) = nI 16
      · skip
        obtain ⟨_, _, e3, rfl, I3, J3, F3, rfl, rfl, rfl, f3, t3⟩ := y_must (j := 18) hF (lM.nx (S := (pNw T n 2 row S)) (lM.nw hl f1 z1 t1) f2 r2).2.2.1 (by decide) (by decide) hin
        refine we_callV_v (p := 118) (k' := 4) (a := [.ref 95, .ref (sp_S + 18)]) (rr := []) dX12_womanLine_115 rfl rfl rfl rfl (rc_of rfl rfl (by decide) ⟨rfl, by decide⟩) (Nat.le_of_ble_eq_true rfl) (Nat.le_of_ble_eq_true rfl) (by decide) e3 (Or.inl rfl) rfl ?_
        refine we_aload_n (p := 119) dX12_womanLine_118 rfl rfl ?_
        refine we_getR (c := 11) (j := 16) (n := 37) (b := 99) (p := 122) dX12_womanLine_119 rfl rfl (by decide) (by decide) rfl (r_95_16 hF) rfl ?_
        refine we_iload_n (p := 123) dX12_womanLine_122 rfl rfl ?_
        refine we_iload_n (p := 124) dX12_womanLine_123 rfl rfl ?_
        refine wf_iast (n := 276) (i := (27 + 4 * row)) (p := 125) dX12_womanLine_124 rfl (by decide) (in_nJ (by omega) (by decide)) (nI_cl (by omega)) rfl ?_
        refine we_aload_n (p := 126) dX12_womanLine_125 rfl rfl ?_
        refine we_getR (c := 11) (j := 16) (n := 37) (b := 99) (p := 129) dX12_womanLine_126 rfl rfl (by decide) (by decide) rfl (r_95_16 hF) rfl ?_
        refine we_iload_n (p := 130) dX12_womanLine_129 rfl rfl ?_
        refine we_iconst (v := 1) (p := 131) dX12_womanLine_130 (by decide) rfl ?_
        refine we_iadd (p := 132) dX12_womanLine_131 rfl ?_
        rw [show (nI (27 + 4 * row) + 1 : Int32) = nI (27 + 4 * row + 1) from nI_add (a := 27 + 4 * row) (b := 1)]
        refine we_aload_n (p := 133) dX12_womanLine_132 rfl rfl ?_
        obtain ⟨_, _, e4, I4, rfl, f4, ⟨z4, rfl, t4⟩ | ⟨z4, rfl, g4⟩⟩ := y_harbourPassed (S := (pAv T n (pAv T n (pSt 6 row 0 (pNw T n 2 row S))))) hF ((lM.nt (S := (pAv T n (pNw T n 2 row S))) (lM.nx (S := (pNw T n 2 row S)) (lM.nw hl f1 z1 t1) f2 r2) f3 t3).sr (j := 6) (v := 0) (by decide) (by decide) (show row < 8 by omega) (by intro x hx; simp at hx)).2.2.1 ((lM.nt (S := (pAv T n (pNw T n 2 row S))) (lM.nx (S := (pNw T n 2 row S)) (lM.nw hl f1 z1 t1) f2 r2) f3 t3).sr (j := 6) (v := 0) (by decide) (by decide) (show row < 8 by omega) (by intro x hx; simp at hx)).2.1 ((lM.nt (S := (pAv T n (pNw T n 2 row S))) (lM.nx (S := (pNw T n 2 row S)) (lM.nw hl f1 z1 t1) f2 r2) f3 t3).sr (j := 6) (v := 0) (by decide) (by decide) (show row < 8 by omega) (by intro x hx; simp at hx)).2.2.2.1
        · skip
          refine we_callV_int (p := 136) (k' := 6) (a := [.ref 95]) (rr := [.int (nI (27 + 4 * row + 1)), .ref 99]) dX12_womanLine_133 rfl rfl rfl rfl (rc_of rfl rfl (by decide) ⟨rfl, by decide⟩) (Nat.le_of_ble_eq_true rfl) (Nat.le_of_ble_eq_true rfl) (by decide) e4 (Or.inl rfl) rfl ?_
          refine wf_iast (n := 276) (i := (27 + 4 * row + 1)) (p := 137) dX12_womanLine_136 rfl (by decide) (in_nJ (by omega) (by decide)) (nI_cl (by omega)) rfl ?_
          refine we_aload_n (p := 138) dX12_womanLine_137 rfl rfl ?_
          refine we_getR (c := 11) (j := 16) (n := 37) (b := 99) (p := 141) dX12_womanLine_138 rfl rfl (by decide) (by decide) rfl (r_95_16 hF) rfl ?_
          refine we_iload_n (p := 142) dX12_womanLine_141 rfl rfl ?_
          refine we_iconst (v := 2) (p := 143) dX12_womanLine_142 (by decide) rfl ?_
          refine we_iadd (p := 144) dX12_womanLine_143 rfl ?_
          rw [show (nI (27 + 4 * row) + 2 : Int32) = nI (27 + 4 * row + 2) from nI_add (a := 27 + 4 * row) (b := 2)]
          refine we_aload_n (p := 145) dX12_womanLine_144 rfl rfl ?_
          refine we_ldcS (j := 19) (p := 147) dX12_womanLine_145 rfl rfl rfl ?_
          refine we_iconst (v := 0) (p := 148) dX12_womanLine_147 (by decide) rfl ?_
          refine we_bipush (v := 99) (p := 150) dX12_womanLine_148 (by decide) rfl ?_
          obtain ⟨_, _, e5, I5, rfl, f5, ⟨z5, rfl, t5⟩ | ⟨z5, rfl, g5⟩⟩ := y_afterW (S := (pAv T n (pSt 7 row (nI (zV (pFn T n 0 (pAv T n (pAv T n (pSt 6 row 0 (pNw T n 2 row S))))))) (pFn T n 0 (pAv T n (pAv T n (pSt 6 row 0 (pNw T n 2 row S)))))))) (j := 19) (w := 17) (lo := 0) (hi := 99) rfl hF ((lM.fa (S := (pAv T n (pAv T n (pSt 6 row 0 (pNw T n 2 row S))))) ((lM.nt (S := (pAv T n (pNw T n 2 row S))) (lM.nx (S := (pNw T n 2 row S)) (lM.nw hl f1 z1 t1) f2 r2) f3 t3).sr (j := 6) (v := 0) (by decide) (by decide) (show row < 8 by omega) (by intro x hx; simp at hx)) f4 z4 t4).sr (j := 7) (v := nI (zV (pFn T n 0 (pAv T n (pAv T n (pSt 6 row 0 (pNw T n 2 row S))))))) (by decide) (by decide) (show row < 8 by omega) (by intro x hx; simp at hx; subst hx; exact ⟨by decide, by decide, (show row < 8 by omega)⟩)).2.2.1 ((lM.fa (S := (pAv T n (pAv T n (pSt 6 row 0 (pNw T n 2 row S))))) ((lM.nt (S := (pAv T n (pNw T n 2 row S))) (lM.nx (S := (pNw T n 2 row S)) (lM.nw hl f1 z1 t1) f2 r2) f3 t3).sr (j := 6) (v := 0) (by decide) (by decide) (show row < 8 by omega) (by intro x hx; simp at hx)) f4 z4 t4).sr (j := 7) (v := nI (zV (pFn T n 0 (pAv T n (pAv T n (pSt 6 row 0 (pNw T n 2 row S))))))) (by decide) (by decide) (show row < 8 by omega) (by intro x hx; simp at hx; subst hx; exact ⟨by decide, by decide, (show row < 8 by omega)⟩)).2.1 (by decide) (by decide) (by decide) (by decide)
          · skip
            refine we_callV_int (p := 153) (k' := 5) (a := [.ref 95, .ref (sp_S + 19), .int 0, .int 99]) (rr := [.int (nI (27 + 4 * row + 2)), .ref 99]) dX12_womanLine_150 rfl rfl rfl rfl (rc_of rfl rfl (by decide) ⟨rfl, by decide⟩) (Nat.le_of_ble_eq_true rfl) (Nat.le_of_ble_eq_true rfl) (by decide) e5 (Or.inl rfl) rfl ?_
            refine wf_iast (n := 276) (i := (27 + 4 * row + 2)) (p := 154) dX12_womanLine_153 rfl (by decide) (in_nJ (by omega) (by decide)) (nI_cl (by omega)) rfl ?_
            refine we_aload_n (p := 155) dX12_womanLine_154 rfl rfl ?_
            refine we_getR (c := 11) (j := 16) (n := 37) (b := 99) (p := 158) dX12_womanLine_155 rfl rfl (by decide) (by decide) rfl (r_95_16 hF) rfl ?_
            refine we_iload_n (p := 159) dX12_womanLine_158 rfl rfl ?_
            refine we_iconst (v := 3) (p := 160) dX12_womanLine_159 (by decide) rfl ?_
            refine we_iadd (p := 161) dX12_womanLine_160 rfl ?_
            rw [show (nI (27 + 4 * row) + 3 : Int32) = nI (27 + 4 * row + 3) from nI_add (a := 27 + 4 * row) (b := 3)]
            refine we_aload_n (p := 162) dX12_womanLine_161 rfl rfl ?_
            refine we_ldcS (j := 20) (p := 164) dX12_womanLine_162 rfl rfl rfl ?_
            refine we_iconst (v := 0) (p := 165) dX12_womanLine_164 (by decide) rfl ?_
            refine we_bipush (v := 60) (p := 167) dX12_womanLine_165 (by decide) rfl ?_
            obtain ⟨_, _, e6, I6, rfl, f6, ⟨z6, rfl, t6⟩ | ⟨z6, rfl, g6⟩⟩ := y_afterW (S := (pSt 8 row (nI (zV (pTk T n 17 0 99 (pAv T n (pSt 7 row (nI (zV (pFn T n 0 (pAv T n (pAv T n (pSt 6 row 0 (pNw T n 2 row S))))))) (pFn T n 0 (pAv T n (pAv T n (pSt 6 row 0 (pNw T n 2 row S)))))))))) (pTk T n 17 0 99 (pAv T n (pSt 7 row (nI (zV (pFn T n 0 (pAv T n (pAv T n (pSt 6 row 0 (pNw T n 2 row S))))))) (pFn T n 0 (pAv T n (pAv T n (pSt 6 row 0 (pNw T n 2 row S)))))))))) (j := 20) (w := 18) (lo := 0) (hi := 60) rfl hF ((lM.tk (S := (pAv T n (pSt 7 row (nI (zV (pFn T n 0 (pAv T n (pAv T n (pSt 6 row 0 (pNw T n 2 row S))))))) (pFn T n 0 (pAv T n (pAv T n (pSt 6 row 0 (pNw T n 2 row S)))))))) ((lM.fa (S := (pAv T n (pAv T n (pSt 6 row 0 (pNw T n 2 row S))))) ((lM.nt (S := (pAv T n (pNw T n 2 row S))) (lM.nx (S := (pNw T n 2 row S)) (lM.nw hl f1 z1 t1) f2 r2) f3 t3).sr (j := 6) (v := 0) (by decide) (by decide) (show row < 8 by omega) (by intro x hx; simp at hx)) f4 z4 t4).sr (j := 7) (v := nI (zV (pFn T n 0 (pAv T n (pAv T n (pSt 6 row 0 (pNw T n 2 row S))))))) (by decide) (by decide) (show row < 8 by omega) (by intro x hx; simp at hx; subst hx; exact ⟨by decide, by decide, (show row < 8 by omega)⟩)) f5 z5 t5).sr (j := 8) (v := nI (zV (pTk T n 17 0 99 (pAv T n (pSt 7 row (nI (zV (pFn T n 0 (pAv T n (pAv T n (pSt 6 row 0 (pNw T n 2 row S))))))) (pFn T n 0 (pAv T n (pAv T n (pSt 6 row 0 (pNw T n 2 row S)))))))))) (by decide) (by decide) (show row < 8 by omega) (by intro x hx; simp at hx; rcases hx with rfl | rfl <;> exact ⟨by decide, by decide, (show row < 8 by omega)⟩)).2.2.1 ((lM.tk (S := (pAv T n (pSt 7 row (nI (zV (pFn T n 0 (pAv T n (pAv T n (pSt 6 row 0 (pNw T n 2 row S))))))) (pFn T n 0 (pAv T n (pAv T n (pSt 6 row 0 (pNw T n 2 row S)))))))) ((lM.fa (S := (pAv T n (pAv T n (pSt 6 row 0 (pNw T n 2 row S))))) ((lM.nt (S := (pAv T n (pNw T n 2 row S))) (lM.nx (S := (pNw T n 2 row S)) (lM.nw hl f1 z1 t1) f2 r2) f3 t3).sr (j := 6) (v := 0) (by decide) (by decide) (show row < 8 by omega) (by intro x hx; simp at hx)) f4 z4 t4).sr (j := 7) (v := nI (zV (pFn T n 0 (pAv T n (pAv T n (pSt 6 row 0 (pNw T n 2 row S))))))) (by decide) (by decide) (show row < 8 by omega) (by intro x hx; simp at hx; subst hx; exact ⟨by decide, by decide, (show row < 8 by omega)⟩)) f5 z5 t5).sr (j := 8) (v := nI (zV (pTk T n 17 0 99 (pAv T n (pSt 7 row (nI (zV (pFn T n 0 (pAv T n (pAv T n (pSt 6 row 0 (pNw T n 2 row S))))))) (pFn T n 0 (pAv T n (pAv T n (pSt 6 row 0 (pNw T n 2 row S)))))))))) (by decide) (by decide) (show row < 8 by omega) (by intro x hx; simp at hx; rcases hx with rfl | rfl <;> exact ⟨by decide, by decide, (show row < 8 by omega)⟩)).2.1 (by decide) (by decide) (by decide) (by decide)
            · skip
              refine we_callV_int (p := 170) (k' := 5) (a := [.ref 95, .ref (sp_S + 20), .int 0, .int 60]) (rr := [.int (nI (27 + 4 * row + 3)), .ref 99]) dX12_womanLine_167 rfl rfl rfl rfl (rc_of rfl rfl (by decide) ⟨rfl, by decide⟩) (Nat.le_of_ble_eq_true rfl) (Nat.le_of_ble_eq_true rfl) (by decide) e6 (Or.inl rfl) rfl ?_
              refine wf_iast (n := 276) (i := (27 + 4 * row + 3)) (p := 171) dX12_womanLine_170 rfl (by decide) (in_nJ (by omega) (by decide)) (nI_cl (by omega)) rfl ?_
              refine we_aload_n (p := 172) dX12_womanLine_171 rfl rfl ?_
              refine wf_getI (c := 11) (j := 13) (n := 37) (v := 0) (p := 175) dX12_womanLine_172 rfl rfl (by decide) (by decide) (Or.inr rfl) ((lM.tk (S := (pSt 8 row (nI (zV (pTk T n 17 0 99 (pAv T n (pSt 7 row (nI (zV (pFn T n 0 (pAv T n (pAv T n (pSt 6 row 0 (pNw T n 2 row S))))))) (pFn T n 0 (pAv T n (pAv T n (pSt 6 row 0 (pNw T n 2 row S)))))))))) (pTk T n 17 0 99 (pAv T n (pSt 7 row (nI (zV (pFn T n 0 (pAv T n (pAv T n (pSt 6 row 0 (pNw T n 2 row S))))))) (pFn T n 0 (pAv T n (pAv T n (pSt 6 row 0 (pNw T n 2 row S)))))))))) ((lM.tk (S := (pAv T n (pSt 7 row (nI (zV (pFn T n 0 (pAv T n (pAv T n (pSt 6 row 0 (pNw T n 2 row S))))))) (pFn T n 0 (pAv T n (pAv T n (pSt 6 row 0 (pNw T n 2 row S)))))))) ((lM.fa (S := (pAv T n (pAv T n (pSt 6 row 0 (pNw T n 2 row S))))) ((lM.nt (S := (pAv T n (pNw T n 2 row S))) (lM.nx (S := (pNw T n 2 row S)) (lM.nw hl f1 z1 t1) f2 r2) f3 t3).sr (j := 6) (v := 0) (by decide) (by decide) (show row < 8 by omega) (by intro x hx; simp at hx)) f4 z4 t4).sr (j := 7) (v := nI (zV (pFn T n 0 (pAv T n (pAv T n (pSt 6 row 0 (pNw T n 2 row S))))))) (by decide) (by decide) (show row < 8 by omega) (by intro x hx; simp at hx; subst hx; exact ⟨by decide, by decide, (show row < 8 by omega)⟩)) f5 z5 t5).sr (j := 8) (v := nI (zV (pTk T n 17 0 99 (pAv T n (pSt 7 row (nI (zV (pFn T n 0 (pAv T n (pAv T n (pSt 6 row 0 (pNw T n 2 row S))))))) (pFn T n 0 (pAv T n (pAv T n (pSt 6 row 0 (pNw T n 2 row S)))))))))) (by decide) (by decide) (show row < 8 by omega) (by intro x hx; simp at hx; rcases hx with rfl | rfl <;> exact ⟨by decide, by decide, (show row < 8 by omega)⟩)) f6 z6 t6).sr (j := 9) (v := nI (zV (pTk T n 18 0 60 (pSt 8 row (nI (zV (pTk T n 17 0 99 (pAv T n (pSt 7 row (nI (zV (pFn T n 0 (pAv T n (pAv T n (pSt 6 row 0 (pNw T n 2 row S))))))) (pFn T n 0 (pAv T n (pAv T n (pSt 6 row 0 (pNw T n 2 row S)))))))))) (pTk T n 17 0 99 (pAv T n (pSt 7 row (nI (zV (pFn T n 0 (pAv T n (pAv T n (pSt 6 row 0 (pNw T n 2 row S))))))) (pFn T n 0 (pAv T n (pAv T n (pSt 6 row 0 (pNw T n 2 row S)))))))))))) (by decide) (by decide) (show row < 8 by omega) (by intro x hx; simp at hx; rcases hx with rfl | rfl | rfl <;> exact ⟨by decide, by decide, (show row < 8 by omega)⟩)).2.2.1.2.2.2.1 rfl ?_
              refine we_if_ne (t := 188) (p := 178) dX12_womanLine_175 (by decide) rfl rfl (fun hc175 => absurd (by decide) hc175) (fun hc175 => ?_)
              refine we_aload_n (p := 179) dX12_womanLine_178 rfl rfl ?_
              refine we_getR (c := 11) (j := 16) (n := 37) (b := 99) (p := 182) dX12_womanLine_179 rfl rfl (by decide) (by decide) rfl (r_95_16 hF) rfl ?_
              refine we_iconst (v := 4) (p := 183) dX12_womanLine_182 (by decide) rfl ?_
              refine we_dup2 (p := 184) dX12_womanLine_183 rfl ?_
              refine wf_iald (n := 276) (i := 4) (v := nI row) (p := 185) dX12_womanLine_184 rfl (by decide) (by decide) (by decide) (((lM.tk (S := (pSt 8 row (nI (zV (pTk T n 17 0 99 (pAv T n (pSt 7 row (nI (zV (pFn T n 0 (pAv T n (pAv T n (pSt 6 row 0 (pNw T n 2 row S))))))) (pFn T n 0 (pAv T n (pAv T n (pSt 6 row 0 (pNw T n 2 row S)))))))))) (pTk T n 17 0 99 (pAv T n (pSt 7 row (nI (zV (pFn T n 0 (pAv T n (pAv T n (pSt 6 row 0 (pNw T n 2 row S))))))) (pFn T n 0 (pAv T n (pAv T n (pSt 6 row 0 (pNw T n 2 row S)))))))))) ((lM.tk (S := (pAv T n (pSt 7 row (nI (zV (pFn T n 0 (pAv T n (pAv T n (pSt 6 row 0 (pNw T n 2 row S))))))) (pFn T n 0 (pAv T n (pAv T n (pSt 6 row 0 (pNw T n 2 row S)))))))) ((lM.fa (S := (pAv T n (pAv T n (pSt 6 row 0 (pNw T n 2 row S))))) ((lM.nt (S := (pAv T n (pNw T n 2 row S))) (lM.nx (S := (pNw T n 2 row S)) (lM.nw hl f1 z1 t1) f2 r2) f3 t3).sr (j := 6) (v := 0) (by decide) (by decide) (show row < 8 by omega) (by intro x hx; simp at hx)) f4 z4 t4).sr (j := 7) (v := nI (zV (pFn T n 0 (pAv T n (pAv T n (pSt 6 row 0 (pNw T n 2 row S))))))) (by decide) (by decide) (show row < 8 by omega) (by intro x hx; simp at hx; subst hx; exact ⟨by decide, by decide, (show row < 8 by omega)⟩)) f5 z5 t5).sr (j := 8) (v := nI (zV (pTk T n 17 0 99 (pAv T n (pSt 7 row (nI (zV (pFn T n 0 (pAv T n (pAv T n (pSt 6 row 0 (pNw T n 2 row S))))))) (pFn T n 0 (pAv T n (pAv T n (pSt 6 row 0 (pNw T n 2 row S)))))))))) (by decide) (by decide) (show row < 8 by omega) (by intro x hx; simp at hx; rcases hx with rfl | rfl <;> exact ⟨by decide, by decide, (show row < 8 by omega)⟩)) f6 z6 t6).sr (j := 9) (v := nI (zV (pTk T n 18 0 60 (pSt 8 row (nI (zV (pTk T n 17 0 99 (pAv T n (pSt 7 row (nI (zV (pFn T n 0 (pAv T n (pAv T n (pSt 6 row 0 (pNw T n 2 row S))))))) (pFn T n 0 (pAv T n (pAv T n (pSt 6 row 0 (pNw T n 2 row S)))))))))) (pTk T n 17 0 99 (pAv T n (pSt 7 row (nI (zV (pFn T n 0 (pAv T n (pAv T n (pSt 6 row 0 (pNw T n 2 row S))))))) (pFn T n 0 (pAv T n (pAv T n (pSt 6 row 0 (pNw T n 2 row S)))))))))))) (by decide) (by decide) (show row < 8 by omega) (by intro x hx; simp at hx; rcases hx with rfl | rfl | rfl <;> exact ⟨by decide, by decide, (show row < 8 by omega)⟩)).cnt (by decide)) rfl ?_
              refine we_iconst (v := 1) (p := 186) dX12_womanLine_185 (by decide) rfl ?_
              refine we_iadd (p := 187) dX12_womanLine_186 rfl ?_
              rw [nI_1]
              refine wf_iast (n := 276) (i := 4) (p := 188) dX12_womanLine_187 rfl (by decide) (by decide) (by decide) rfl ?_
              exact wv_ret dX12_womanLine_188 rfl (RmL.ok (S := (pSt 9 row (nI (zV (pTk T n 18 0 60 (pSt 8 row (nI (zV (pTk T n 17 0 99 (pAv T n (pSt 7 row (nI (zV (pFn T n 0 (pAv T n (pAv T n (pSt 6 row 0 (pNw T n 2 row S))))))) (pFn T n 0 (pAv T n (pAv T n (pSt 6 row 0 (pNw T n 2 row S)))))))))) (pTk T n 17 0 99 (pAv T n (pSt 7 row (nI (zV (pFn T n 0 (pAv T n (pAv T n (pSt 6 row 0 (pNw T n 2 row S))))))) (pFn T n 0 (pAv T n (pAv T n (pSt 6 row 0 (pNw T n 2 row S)))))))))))) (pTk T n 18 0 60 (pSt 8 row (nI (zV (pTk T n 17 0 99 (pAv T n (pSt 7 row (nI (zV (pFn T n 0 (pAv T n (pAv T n (pSt 6 row 0 (pNw T n 2 row S))))))) (pFn T n 0 (pAv T n (pAv T n (pSt 6 row 0 (pNw T n 2 row S)))))))))) (pTk T n 17 0 99 (pAv T n (pSt 7 row (nI (zV (pFn T n 0 (pAv T n (pAv T n (pSt 6 row 0 (pNw T n 2 row S))))))) (pFn T n 0 (pAv T n (pAv T n (pSt 6 row 0 (pNw T n 2 row S)))))))))))) ((congrArg (fun z => pB z (pIn 2)) (show pWom T n row S = (pSt 9 row (nI (zV (pTk T n 18 0 60 (pSt 8 row (nI (zV (pTk T n 17 0 99 (pAv T n (pSt 7 row (nI (zV (pFn T n 0 (pAv T n (pAv T n (pSt 6 row 0 (pNw T n 2 row S))))))) (pFn T n 0 (pAv T n (pAv T n (pSt 6 row 0 (pNw T n 2 row S)))))))))) (pTk T n 17 0 99 (pAv T n (pSt 7 row (nI (zV (pFn T n 0 (pAv T n (pAv T n (pSt 6 row 0 (pNw T n 2 row S))))))) (pFn T n 0 (pAv T n (pAv T n (pSt 6 row 0 (pNw T n 2 row S)))))))))))) (pTk T n 18 0 60 (pSt 8 row (nI (zV (pTk T n 17 0 99 (pAv T n (pSt 7 row (nI (zV (pFn T n 0 (pAv T n (pAv T n (pSt 6 row 0 (pNw T n 2 row S))))))) (pFn T n 0 (pAv T n (pAv T n (pSt 6 row 0 (pNw T n 2 row S)))))))))) (pTk T n 17 0 99 (pAv T n (pSt 7 row (nI (zV (pFn T n 0 (pAv T n (pAv T n (pSt 6 row 0 (pNw T n 2 row S))))))) (pFn T n 0 (pAv T n (pAv T n (pSt 6 row 0 (pNw T n 2 row S))))))))))) from by
      unfold pWom
      rw [pB_y (S := (pNw T n 2 row S)) z1]
      refine (if_neg (by rw [hk8]; decide)).trans ((if_neg (by rw [hk8]; decide)).trans ?_)
      rw [hk8, show (nI 8 - 8 : Int32) = 0 from rfl]
      unfold pWom2
      rw [if_pos (show tQ T n (zP (pAv T n (pSt 6 row 0 (pNw T n 2 row S)))) = nI 16 from hin), pB_y (S := (pFn T n 0 (pAv T n (pAv T n (pSt 6 row 0 (pNw T n 2 row S)))))) z4, pB_y (S := (pTk T n 17 0 99 (pAv T n (pSt 7 row (nI (zV (pFn T n 0 (pAv T n (pAv T n (pSt 6 row 0 (pNw T n 2 row S))))))) (pFn T n 0 (pAv T n (pAv T n (pSt 6 row 0 (pNw T n 2 row S))))))))) z5, pB_y (S := (pTk T n 18 0 60 (pSt 8 row (nI (zV (pTk T n 17 0 99 (pAv T n (pSt 7 row (nI (zV (pFn T n 0 (pAv T n (pAv T n (pSt 6 row 0 (pNw T n 2 row S))))))) (pFn T n 0 (pAv T n (pAv T n (pSt 6 row 0 (pNw T n 2 row S)))))))))) (pTk T n 17 0 99 (pAv T n (pSt 7 row (nI (zV (pFn T n 0 (pAv T n (pAv T n (pSt 6 row 0 (pNw T n 2 row S))))))) (pFn T n 0 (pAv T n (pAv T n (pSt 6 row 0 (pNw T n 2 row S))))))))))) z6])).trans (pB_y ((lM.tk (S := (pSt 8 row (nI (zV (pTk T n 17 0 99 (pAv T n (pSt 7 row (nI (zV (pFn T n 0 (pAv T n (pAv T n (pSt 6 row 0 (pNw T n 2 row S))))))) (pFn T n 0 (pAv T n (pAv T n (pSt 6 row 0 (pNw T n 2 row S)))))))))) (pTk T n 17 0 99 (pAv T n (pSt 7 row (nI (zV (pFn T n 0 (pAv T n (pAv T n (pSt 6 row 0 (pNw T n 2 row S))))))) (pFn T n 0 (pAv T n (pAv T n (pSt 6 row 0 (pNw T n 2 row S)))))))))) ((lM.tk (S := (pAv T n (pSt 7 row (nI (zV (pFn T n 0 (pAv T n (pAv T n (pSt 6 row 0 (pNw T n 2 row S))))))) (pFn T n 0 (pAv T n (pAv T n (pSt 6 row 0 (pNw T n 2 row S)))))))) ((lM.fa (S := (pAv T n (pAv T n (pSt 6 row 0 (pNw T n 2 row S))))) ((lM.nt (S := (pAv T n (pNw T n 2 row S))) (lM.nx (S := (pNw T n 2 row S)) (lM.nw hl f1 z1 t1) f2 r2) f3 t3).sr (j := 6) (v := 0) (by decide) (by decide) (show row < 8 by omega) (by intro x hx; simp at hx)) f4 z4 t4).sr (j := 7) (v := nI (zV (pFn T n 0 (pAv T n (pAv T n (pSt 6 row 0 (pNw T n 2 row S))))))) (by decide) (by decide) (show row < 8 by omega) (by intro x hx; simp at hx; subst hx; exact ⟨by decide, by decide, (show row < 8 by omega)⟩)) f5 z5 t5).sr (j := 8) (v := nI (zV (pTk T n 17 0 99 (pAv T n (pSt 7 row (nI (zV (pFn T n 0 (pAv T n (pAv T n (pSt 6 row 0 (pNw T n 2 row S))))))) (pFn T n 0 (pAv T n (pAv T n (pSt 6 row 0 (pNw T n 2 row S)))))))))) (by decide) (by decide) (show row < 8 by omega) (by intro x hx; simp at hx; rcases hx with rfl | rfl <;> exact ⟨by decide, by decide, (show row < 8 by omega)⟩)) f6 z6 t6).sr (j := 9) (v := nI (zV (pTk T n 18 0 60 (pSt 8 row (nI (zV (pTk T n 17 0 99 (pAv T n (pSt 7 row (nI (zV (pFn T n 0 (pAv T n (pAv T n (pSt 6 row 0 (pNw T n 2 row S))))))) (pFn T n 0 (pAv T n (pAv T n (pSt 6 row 0 (pNw T n 2 row S)))))))))) (pTk T n 17 0 99 (pAv T n (pSt 7 row (nI (zV (pFn T n 0 (pAv T n (pAv T n (pSt 6 row 0 (pNw T n 2 row S))))))) (pFn T n 0 (pAv T n (pAv T n (pSt 6 row 0 (pNw T n 2 row S)))))))))))) (by decide) (by decide) (show row < 8 by omega) (by intro x hx; simp at hx; rcases hx with rfl | rfl | rfl <;> exact ⟨by decide, by decide, (show row < 8 by omega)⟩)).2.1)) ((lM.tk (S := (pSt 8 row (nI (zV (pTk T n 17 0 99 (pAv T n (pSt 7 row (nI (zV (pFn T n 0 (pAv T n (pAv T n (pSt 6 row 0 (pNw T n 2 row S))))))) (pFn T n 0 (pAv T n (pAv T n (pSt 6 row 0 (pNw T n 2 row S)))))))))) (pTk T n 17 0 99 (pAv T n (pSt 7 row (nI (zV (pFn T n 0 (pAv T n (pAv T n (pSt 6 row 0 (pNw T n 2 row S))))))) (pFn T n 0 (pAv T n (pAv T n (pSt 6 row 0 (pNw T n 2 row S)))))))))) ((lM.tk (S := (pAv T n (pSt 7 row (nI (zV (pFn T n 0 (pAv T n (pAv T n (pSt 6 row 0 (pNw T n 2 row S))))))) (pFn T n 0 (pAv T n (pAv T n (pSt 6 row 0 (pNw T n 2 row S)))))))) ((lM.fa (S := (pAv T n (pAv T n (pSt 6 row 0 (pNw T n 2 row S))))) ((lM.nt (S := (pAv T n (pNw T n 2 row S))) (lM.nx (S := (pNw T n 2 row S)) (lM.nw hl f1 z1 t1) f2 r2) f3 t3).sr (j := 6) (v := 0) (by decide) (by decide) (show row < 8 by omega) (by intro x hx; simp at hx)) f4 z4 t4).sr (j := 7) (v := nI (zV (pFn T n 0 (pAv T n (pAv T n (pSt 6 row 0 (pNw T n 2 row S))))))) (by decide) (by decide) (show row < 8 by omega) (by intro x hx; simp at hx; subst hx; exact ⟨by decide, by decide, (show row < 8 by omega)⟩)) f5 z5 t5).sr (j := 8) (v := nI (zV (pTk T n 17 0 99 (pAv T n (pSt 7 row (nI (zV (pFn T n 0 (pAv T n (pAv T n (pSt 6 row 0 (pNw T n 2 row S))))))) (pFn T n 0 (pAv T n (pAv T n (pSt 6 row 0 (pNw T n 2 row S)))))))))) (by decide) (by decide) (show row < 8 by omega) (by intro x hx; simp at hx; rcases hx with rfl | rfl <;> exact ⟨by decide, by decide, (show row < 8 by omega)⟩)) f6 z6 t6).sr (j := 9) (v := nI (zV (pTk T n 18 0 60 (pSt 8 row (nI (zV (pTk T n 17 0 99 (pAv T n (pSt 7 row (nI (zV (pFn T n 0 (pAv T n (pAv T n (pSt 6 row 0 (pNw T n 2 row S))))))) (pFn T n 0 (pAv T n (pAv T n (pSt 6 row 0 (pNw T n 2 row S)))))))))) (pTk T n 17 0 99 (pAv T n (pSt 7 row (nI (zV (pFn T n 0 (pAv T n (pAv T n (pSt 6 row 0 (pNw T n 2 row S))))))) (pFn T n 0 (pAv T n (pAv T n (pSt 6 row 0 (pNw T n 2 row S)))))))))))) (by decide) (by decide) (show row < 8 by omega) (by intro x hx; simp at hx; rcases hx with rfl | rfl | rfl <;> exact ⟨by decide, by decide, (show row < 8 by omega)⟩)) (by decide) (show row < 8 by omega) (by decide) rfl)
            · skip
              refine we_callV_int (p := 170) (k' := 5) (a := [.ref 95, .ref (sp_S + 20), .int 0, .int 60]) (rr := [.int (nI (27 + 4 * row + 3)), .ref 99]) dX12_womanLine_167 rfl rfl rfl rfl (rc_of rfl rfl (by decide) ⟨rfl, by decide⟩) (Nat.le_of_ble_eq_true rfl) (Nat.le_of_ble_eq_true rfl) (by decide) e6 (Or.inl rfl) rfl ?_
              refine wf_iast (n := 276) (i := (27 + 4 * row + 3)) (p := 171) dX12_womanLine_170 rfl (by decide) (in_nJ (by omega) (by decide)) (nI_cl (by omega)) rfl ?_
              refine we_aload_n (p := 172) dX12_womanLine_171 rfl rfl ?_
              refine wf_getI (c := 11) (j := 13) (n := 37) (v := 1) (p := 175) dX12_womanLine_172 rfl rfl (by decide) (by decide) (Or.inr rfl) (((((lM.tk (S := (pAv T n (pSt 7 row (nI (zV (pFn T n 0 (pAv T n (pAv T n (pSt 6 row 0 (pNw T n 2 row S))))))) (pFn T n 0 (pAv T n (pAv T n (pSt 6 row 0 (pNw T n 2 row S)))))))) ((lM.fa (S := (pAv T n (pAv T n (pSt 6 row 0 (pNw T n 2 row S))))) ((lM.nt (S := (pAv T n (pNw T n 2 row S))) (lM.nx (S := (pNw T n 2 row S)) (lM.nw hl f1 z1 t1) f2 r2) f3 t3).sr (j := 6) (v := 0) (by decide) (by decide) (show row < 8 by omega) (by intro x hx; simp at hx)) f4 z4 t4).sr (j := 7) (v := nI (zV (pFn T n 0 (pAv T n (pAv T n (pSt 6 row 0 (pNw T n 2 row S))))))) (by decide) (by decide) (show row < 8 by omega) (by intro x hx; simp at hx; subst hx; exact ⟨by decide, by decide, (show row < 8 by omega)⟩)) f5 z5 t5).sr (j := 8) (v := nI (zV (pTk T n 17 0 99 (pAv T n (pSt 7 row (nI (zV (pFn T n 0 (pAv T n (pAv T n (pSt 6 row 0 (pNw T n 2 row S))))))) (pFn T n 0 (pAv T n (pAv T n (pSt 6 row 0 (pNw T n 2 row S)))))))))) (by decide) (by decide) (show row < 8 by omega) (by intro x hx; simp at hx; rcases hx with rfl | rfl <;> exact ⟨by decide, by decide, (show row < 8 by omega)⟩)).no f6 z6 g6).u)).2.2.1 rfl ?_
              refine we_if_ne (t := 188) (p := 178) dX12_womanLine_175 (by decide) rfl rfl (fun hc175 => ?_) (fun hc175 => absurd hc175 (by decide))
              exact wv_ret dX12_womanLine_188 rfl (RmL.no (X := (pTk T n 18 0 60 (pSt 8 row (nI (zV (pTk T n 17 0 99 (pAv T n (pSt 7 row (nI (zV (pFn T n 0 (pAv T n (pAv T n (pSt 6 row 0 (pNw T n 2 row S))))))) (pFn T n 0 (pAv T n (pAv T n (pSt 6 row 0 (pNw T n 2 row S)))))))))) (pTk T n 17 0 99 (pAv T n (pSt 7 row (nI (zV (pFn T n 0 (pAv T n (pAv T n (pSt 6 row 0 (pNw T n 2 row S))))))) (pFn T n 0 (pAv T n (pAv T n (pSt 6 row 0 (pNw T n 2 row S))))))))))) ((congrArg (fun z => pB z (pIn 2)) (show pWom T n row S = (pTk T n 18 0 60 (pSt 8 row (nI (zV (pTk T n 17 0 99 (pAv T n (pSt 7 row (nI (zV (pFn T n 0 (pAv T n (pAv T n (pSt 6 row 0 (pNw T n 2 row S))))))) (pFn T n 0 (pAv T n (pAv T n (pSt 6 row 0 (pNw T n 2 row S)))))))))) (pTk T n 17 0 99 (pAv T n (pSt 7 row (nI (zV (pFn T n 0 (pAv T n (pAv T n (pSt 6 row 0 (pNw T n 2 row S))))))) (pFn T n 0 (pAv T n (pAv T n (pSt 6 row 0 (pNw T n 2 row S)))))))))) from by
      unfold pWom
      rw [pB_y (S := (pNw T n 2 row S)) z1]
      refine (if_neg (by rw [hk8]; decide)).trans ((if_neg (by rw [hk8]; decide)).trans ?_)
      rw [hk8, show (nI 8 - 8 : Int32) = 0 from rfl]
      unfold pWom2
      rw [if_pos (show tQ T n (zP (pAv T n (pSt 6 row 0 (pNw T n 2 row S)))) = nI 16 from hin), pB_y (S := (pFn T n 0 (pAv T n (pAv T n (pSt 6 row 0 (pNw T n 2 row S)))))) z4, pB_y (S := (pTk T n 17 0 99 (pAv T n (pSt 7 row (nI (zV (pFn T n 0 (pAv T n (pAv T n (pSt 6 row 0 (pNw T n 2 row S))))))) (pFn T n 0 (pAv T n (pAv T n (pSt 6 row 0 (pNw T n 2 row S))))))))) z5, pB_n (S := (pTk T n 18 0 60 (pSt 8 row (nI (zV (pTk T n 17 0 99 (pAv T n (pSt 7 row (nI (zV (pFn T n 0 (pAv T n (pAv T n (pSt 6 row 0 (pNw T n 2 row S))))))) (pFn T n 0 (pAv T n (pAv T n (pSt 6 row 0 (pNw T n 2 row S)))))))))) (pTk T n 17 0 99 (pAv T n (pSt 7 row (nI (zV (pFn T n 0 (pAv T n (pAv T n (pSt 6 row 0 (pNw T n 2 row S))))))) (pFn T n 0 (pAv T n (pAv T n (pSt 6 row 0 (pNw T n 2 row S))))))))))) z6])).trans (pB_n (S := (pTk T n 18 0 60 (pSt 8 row (nI (zV (pTk T n 17 0 99 (pAv T n (pSt 7 row (nI (zV (pFn T n 0 (pAv T n (pAv T n (pSt 6 row 0 (pNw T n 2 row S))))))) (pFn T n 0 (pAv T n (pAv T n (pSt 6 row 0 (pNw T n 2 row S)))))))))) (pTk T n 17 0 99 (pAv T n (pSt 7 row (nI (zV (pFn T n 0 (pAv T n (pAv T n (pSt 6 row 0 (pNw T n 2 row S))))))) (pFn T n 0 (pAv T n (pAv T n (pSt 6 row 0 (pNw T n 2 row S))))))))))) z6)) ((((lM.tk (S := (pAv T n (pSt 7 row (nI (zV (pFn T n 0 (pAv T n (pAv T n (pSt 6 row 0 (pNw T n 2 row S))))))) (pFn T n 0 (pAv T n (pAv T n (pSt 6 row 0 (pNw T n 2 row S)))))))) ((lM.fa (S := (pAv T n (pAv T n (pSt 6 row 0 (pNw T n 2 row S))))) ((lM.nt (S := (pAv T n (pNw T n 2 row S))) (lM.nx (S := (pNw T n 2 row S)) (lM.nw hl f1 z1 t1) f2 r2) f3 t3).sr (j := 6) (v := 0) (by decide) (by decide) (show row < 8 by omega) (by intro x hx; simp at hx)) f4 z4 t4).sr (j := 7) (v := nI (zV (pFn T n 0 (pAv T n (pAv T n (pSt 6 row 0 (pNw T n 2 row S))))))) (by decide) (by decide) (show row < 8 by omega) (by intro x hx; simp at hx; subst hx; exact ⟨by decide, by decide, (show row < 8 by omega)⟩)) f5 z5 t5).sr (j := 8) (v := nI (zV (pTk T n 17 0 99 (pAv T n (pSt 7 row (nI (zV (pFn T n 0 (pAv T n (pAv T n (pSt 6 row 0 (pNw T n 2 row S))))))) (pFn T n 0 (pAv T n (pAv T n (pSt 6 row 0 (pNw T n 2 row S)))))))))) (by decide) (by decide) (show row < 8 by omega) (by intro x hx; simp at hx; rcases hx with rfl | rfl <;> exact ⟨by decide, by decide, (show row < 8 by omega)⟩)).no f6 z6 g6).u))
          · skip
            refine we_callV_int (p := 153) (k' := 5) (a := [.ref 95, .ref (sp_S + 19), .int 0, .int 99]) (rr := [.int (nI (27 + 4 * row + 2)), .ref 99]) dX12_womanLine_150 rfl rfl rfl rfl (rc_of rfl rfl (by decide) ⟨rfl, by decide⟩) (Nat.le_of_ble_eq_true rfl) (Nat.le_of_ble_eq_true rfl) (by decide) e5 (Or.inl rfl) rfl ?_
            refine wf_iast (n := 276) (i := (27 + 4 * row + 2)) (p := 154) dX12_womanLine_153 rfl (by decide) (in_nJ (by omega) (by decide)) (nI_cl (by omega)) rfl ?_
            refine we_aload_n (p := 155) dX12_womanLine_154 rfl rfl ?_
            refine we_getR (c := 11) (j := 16) (n := 37) (b := 99) (p := 158) dX12_womanLine_155 rfl rfl (by decide) (by decide) rfl (r_95_16 hF) rfl ?_
            refine we_iload_n (p := 159) dX12_womanLine_158 rfl rfl ?_
            refine we_iconst (v := 3) (p := 160) dX12_womanLine_159 (by decide) rfl ?_
            refine we_iadd (p := 161) dX12_womanLine_160 rfl ?_
            rw [show (nI (27 + 4 * row) + 3 : Int32) = nI (27 + 4 * row + 3) from nI_add (a := 27 + 4 * row) (b := 3)]
            refine we_aload_n (p := 162) dX12_womanLine_161 rfl rfl ?_
            refine we_ldcS (j := 20) (p := 164) dX12_womanLine_162 rfl rfl rfl ?_
            refine we_iconst (v := 0) (p := 165) dX12_womanLine_164 (by decide) rfl ?_
            refine we_bipush (v := 60) (p := 167) dX12_womanLine_165 (by decide) rfl ?_
            refine we_callV_int (p := 170) (k' := 5) (a := [.ref 95, .ref (sp_S + 20), .int 0, .int 60]) (rr := [.int (nI (27 + 4 * row + 3)), .ref 99]) dX12_womanLine_167 rfl rfl rfl rfl (rc_of rfl rfl (by decide) ⟨rfl, by decide⟩) (Nat.le_of_ble_eq_true rfl) (Nat.le_of_ble_eq_true rfl) (by decide) (y_after_f hF (((((lM.fa (S := (pAv T n (pAv T n (pSt 6 row 0 (pNw T n 2 row S))))) ((lM.nt (S := (pAv T n (pNw T n 2 row S))) (lM.nx (S := (pNw T n 2 row S)) (lM.nw hl f1 z1 t1) f2 r2) f3 t3).sr (j := 6) (v := 0) (by decide) (by decide) (show row < 8 by omega) (by intro x hx; simp at hx)) f4 z4 t4).sr (j := 7) (v := nI (zV (pFn T n 0 (pAv T n (pAv T n (pSt 6 row 0 (pNw T n 2 row S))))))) (by decide) (by decide) (show row < 8 by omega) (by intro x hx; simp at hx; subst hx; exact ⟨by decide, by decide, (show row < 8 by omega)⟩)).no f5 z5 g5).u)).2.2.1) (Or.inl rfl) rfl ?_
            refine wf_iast (n := 276) (i := (27 + 4 * row + 3)) (p := 171) dX12_womanLine_170 rfl (by decide) (in_nJ (by omega) (by decide)) (nI_cl (by omega)) rfl ?_
            refine we_aload_n (p := 172) dX12_womanLine_171 rfl rfl ?_
            refine wf_getI (c := 11) (j := 13) (n := 37) (v := 1) (p := 175) dX12_womanLine_172 rfl rfl (by decide) (by decide) (Or.inr rfl) ((((((lM.fa (S := (pAv T n (pAv T n (pSt 6 row 0 (pNw T n 2 row S))))) ((lM.nt (S := (pAv T n (pNw T n 2 row S))) (lM.nx (S := (pNw T n 2 row S)) (lM.nw hl f1 z1 t1) f2 r2) f3 t3).sr (j := 6) (v := 0) (by decide) (by decide) (show row < 8 by omega) (by intro x hx; simp at hx)) f4 z4 t4).sr (j := 7) (v := nI (zV (pFn T n 0 (pAv T n (pAv T n (pSt 6 row 0 (pNw T n 2 row S))))))) (by decide) (by decide) (show row < 8 by omega) (by intro x hx; simp at hx; subst hx; exact ⟨by decide, by decide, (show row < 8 by omega)⟩)).no f5 z5 g5).u).u)).2.2.1 rfl ?_
            refine we_if_ne (t := 188) (p := 178) dX12_womanLine_175 (by decide) rfl rfl (fun hc175 => ?_) (fun hc175 => absurd hc175 (by decide))
            exact wv_ret dX12_womanLine_188 rfl (RmL.no (X := (pTk T n 17 0 99 (pAv T n (pSt 7 row (nI (zV (pFn T n 0 (pAv T n (pAv T n (pSt 6 row 0 (pNw T n 2 row S))))))) (pFn T n 0 (pAv T n (pAv T n (pSt 6 row 0 (pNw T n 2 row S))))))))) ((congrArg (fun z => pB z (pIn 2)) (show pWom T n row S = (pTk T n 17 0 99 (pAv T n (pSt 7 row (nI (zV (pFn T n 0 (pAv T n (pAv T n (pSt 6 row 0 (pNw T n 2 row S))))))) (pFn T n 0 (pAv T n (pAv T n (pSt 6 row 0 (pNw T n 2 row S)))))))) from by
      unfold pWom
      rw [pB_y (S := (pNw T n 2 row S)) z1]
      refine (if_neg (by rw [hk8]; decide)).trans ((if_neg (by rw [hk8]; decide)).trans ?_)
      rw [hk8, show (nI 8 - 8 : Int32) = 0 from rfl]
      unfold pWom2
      rw [if_pos (show tQ T n (zP (pAv T n (pSt 6 row 0 (pNw T n 2 row S)))) = nI 16 from hin), pB_y (S := (pFn T n 0 (pAv T n (pAv T n (pSt 6 row 0 (pNw T n 2 row S)))))) z4, pB_n (S := (pTk T n 17 0 99 (pAv T n (pSt 7 row (nI (zV (pFn T n 0 (pAv T n (pAv T n (pSt 6 row 0 (pNw T n 2 row S))))))) (pFn T n 0 (pAv T n (pAv T n (pSt 6 row 0 (pNw T n 2 row S))))))))) z5])).trans (pB_n (S := (pTk T n 17 0 99 (pAv T n (pSt 7 row (nI (zV (pFn T n 0 (pAv T n (pAv T n (pSt 6 row 0 (pNw T n 2 row S))))))) (pFn T n 0 (pAv T n (pAv T n (pSt 6 row 0 (pNw T n 2 row S))))))))) z5)) (((((lM.fa (S := (pAv T n (pAv T n (pSt 6 row 0 (pNw T n 2 row S))))) ((lM.nt (S := (pAv T n (pNw T n 2 row S))) (lM.nx (S := (pNw T n 2 row S)) (lM.nw hl f1 z1 t1) f2 r2) f3 t3).sr (j := 6) (v := 0) (by decide) (by decide) (show row < 8 by omega) (by intro x hx; simp at hx)) f4 z4 t4).sr (j := 7) (v := nI (zV (pFn T n 0 (pAv T n (pAv T n (pSt 6 row 0 (pNw T n 2 row S))))))) (by decide) (by decide) (show row < 8 by omega) (by intro x hx; simp at hx; subst hx; exact ⟨by decide, by decide, (show row < 8 by omega)⟩)).no f5 z5 g5).u).u))
        · skip
          refine we_callV_int (p := 136) (k' := 6) (a := [.ref 95]) (rr := [.int (nI (27 + 4 * row + 1)), .ref 99]) dX12_womanLine_133 rfl rfl rfl rfl (rc_of rfl rfl (by decide) ⟨rfl, by decide⟩) (Nat.le_of_ble_eq_true rfl) (Nat.le_of_ble_eq_true rfl) (by decide) e4 (Or.inl rfl) rfl ?_
          refine wf_iast (n := 276) (i := (27 + 4 * row + 1)) (p := 137) dX12_womanLine_136 rfl (by decide) (in_nJ (by omega) (by decide)) (nI_cl (by omega)) rfl ?_
          refine we_aload_n (p := 138) dX12_womanLine_137 rfl rfl ?_
          refine we_getR (c := 11) (j := 16) (n := 37) (b := 99) (p := 141) dX12_womanLine_138 rfl rfl (by decide) (by decide) rfl (r_95_16 hF) rfl ?_
          refine we_iload_n (p := 142) dX12_womanLine_141 rfl rfl ?_
          refine we_iconst (v := 2) (p := 143) dX12_womanLine_142 (by decide) rfl ?_
          refine we_iadd (p := 144) dX12_womanLine_143 rfl ?_
          rw [show (nI (27 + 4 * row) + 2 : Int32) = nI (27 + 4 * row + 2) from nI_add (a := 27 + 4 * row) (b := 2)]
          refine we_aload_n (p := 145) dX12_womanLine_144 rfl rfl ?_
          refine we_ldcS (j := 19) (p := 147) dX12_womanLine_145 rfl rfl rfl ?_
          refine we_iconst (v := 0) (p := 148) dX12_womanLine_147 (by decide) rfl ?_
          refine we_bipush (v := 99) (p := 150) dX12_womanLine_148 (by decide) rfl ?_
          refine we_callV_int (p := 153) (k' := 5) (a := [.ref 95, .ref (sp_S + 19), .int 0, .int 99]) (rr := [.int (nI (27 + 4 * row + 2)), .ref 99]) dX12_womanLine_150 rfl rfl rfl rfl (rc_of rfl rfl (by decide) ⟨rfl, by decide⟩) (Nat.le_of_ble_eq_true rfl) (Nat.le_of_ble_eq_true rfl) (by decide) (y_after_f hF (((((lM.nt (S := (pAv T n (pNw T n 2 row S))) (lM.nx (S := (pNw T n 2 row S)) (lM.nw hl f1 z1 t1) f2 r2) f3 t3).sr (j := 6) (v := 0) (by decide) (by decide) (show row < 8 by omega) (by intro x hx; simp at hx)).no f4 z4 g4).u)).2.2.1) (Or.inl rfl) rfl ?_
          refine wf_iast (n := 276) (i := (27 + 4 * row + 2)) (p := 154) dX12_womanLine_153 rfl (by decide) (in_nJ (by omega) (by decide)) (nI_cl (by omega)) rfl ?_
          refine we_aload_n (p := 155) dX12_womanLine_154 rfl rfl ?_
          refine we_getR (c := 11) (j := 16) (n := 37) (b := 99) (p := 158) dX12_womanLine_155 rfl rfl (by decide) (by decide) rfl (r_95_16 hF) rfl ?_
          refine we_iload_n (p := 159) dX12_womanLine_158 rfl rfl ?_
          refine we_iconst (v := 3) (p := 160) dX12_womanLine_159 (by decide) rfl ?_
          refine we_iadd (p := 161) dX12_womanLine_160 rfl ?_
          rw [show (nI (27 + 4 * row) + 3 : Int32) = nI (27 + 4 * row + 3) from nI_add (a := 27 + 4 * row) (b := 3)]
          refine we_aload_n (p := 162) dX12_womanLine_161 rfl rfl ?_
          refine we_ldcS (j := 20) (p := 164) dX12_womanLine_162 rfl rfl rfl ?_
          refine we_iconst (v := 0) (p := 165) dX12_womanLine_164 (by decide) rfl ?_
          refine we_bipush (v := 60) (p := 167) dX12_womanLine_165 (by decide) rfl ?_
          refine we_callV_int (p := 170) (k' := 5) (a := [.ref 95, .ref (sp_S + 20), .int 0, .int 60]) (rr := [.int (nI (27 + 4 * row + 3)), .ref 99]) dX12_womanLine_167 rfl rfl rfl rfl (rc_of rfl rfl (by decide) ⟨rfl, by decide⟩) (Nat.le_of_ble_eq_true rfl) (Nat.le_of_ble_eq_true rfl) (by decide) (y_after_f hF ((((((lM.nt (S := (pAv T n (pNw T n 2 row S))) (lM.nx (S := (pNw T n 2 row S)) (lM.nw hl f1 z1 t1) f2 r2) f3 t3).sr (j := 6) (v := 0) (by decide) (by decide) (show row < 8 by omega) (by intro x hx; simp at hx)).no f4 z4 g4).u).u)).2.2.1) (Or.inl rfl) rfl ?_
          refine wf_iast (n := 276) (i := (27 + 4 * row + 3)) (p := 171) dX12_womanLine_170 rfl (by decide) (in_nJ (by omega) (by decide)) (nI_cl (by omega)) rfl ?_
          refine we_aload_n (p := 172) dX12_womanLine_171 rfl rfl ?_
          refine wf_getI (c := 11) (j := 13) (n := 37) (v := 1) (p := 175) dX12_womanLine_172 rfl rfl (by decide) (by decide) (Or.inr rfl) (((((((lM.nt (S := (pAv T n (pNw T n 2 row S))) (lM.nx (S := (pNw T n 2 row S)) (lM.nw hl f1 z1 t1) f2 r2) f3 t3).sr (j := 6) (v := 0) (by decide) (by decide) (show row < 8 by omega) (by intro x hx; simp at hx)).no f4 z4 g4).u).u).u)).2.2.1 rfl ?_
          refine we_if_ne (t := 188) (p := 178) dX12_womanLine_175 (by decide) rfl rfl (fun hc175 => ?_) (fun hc175 => absurd hc175 (by decide))
          exact wv_ret dX12_womanLine_188 rfl (RmL.no (X := (pFn T n 0 (pAv T n (pAv T n (pSt 6 row 0 (pNw T n 2 row S)))))) ((congrArg (fun z => pB z (pIn 2)) (show pWom T n row S = (pFn T n 0 (pAv T n (pAv T n (pSt 6 row 0 (pNw T n 2 row S))))) from by
      unfold pWom
      rw [pB_y (S := (pNw T n 2 row S)) z1]
      refine (if_neg (by rw [hk8]; decide)).trans ((if_neg (by rw [hk8]; decide)).trans ?_)
      rw [hk8, show (nI 8 - 8 : Int32) = 0 from rfl]
      unfold pWom2
      rw [if_pos (show tQ T n (zP (pAv T n (pSt 6 row 0 (pNw T n 2 row S)))) = nI 16 from hin), pB_n (S := (pFn T n 0 (pAv T n (pAv T n (pSt 6 row 0 (pNw T n 2 row S)))))) z4])).trans (pB_n (S := (pFn T n 0 (pAv T n (pAv T n (pSt 6 row 0 (pNw T n 2 row S)))))) z4)) ((((((lM.nt (S := (pAv T n (pNw T n 2 row S))) (lM.nx (S := (pNw T n 2 row S)) (lM.nw hl f1 z1 t1) f2 r2) f3 t3).sr (j := 6) (v := 0) (by decide) (by decide) (show row < 8 by omega) (by intro x hx; simp at hx)).no f4 z4 g4).u).u).u))
      · skip
        refine we_callV_v (p := 118) (k' := 4) (a := [.ref 95, .ref (sp_S + 18)]) (rr := []) dX12_womanLine_115 rfl rfl rfl rfl (rc_of rfl rfl (by decide) ⟨rfl, by decide⟩) (Nat.le_of_ble_eq_true rfl) (Nat.le_of_ble_eq_true rfl) (by decide) (y_must_n (j := 18) hF (lM.nx (S := (pNw T n 2 row S)) (lM.nw hl f1 z1 t1) f2 r2).2.2.1 (by decide) (by decide) hin) (Or.inl rfl) rfl ?_
        refine we_aload_n (p := 119) dX12_womanLine_118 rfl rfl ?_
        refine we_getR (c := 11) (j := 16) (n := 37) (b := 99) (p := 122) dX12_womanLine_119 rfl rfl (by decide) (by decide) rfl (r_95_16 hF) rfl ?_
        refine we_iload_n (p := 123) dX12_womanLine_122 rfl rfl ?_
        refine we_iload_n (p := 124) dX12_womanLine_123 rfl rfl ?_
        refine wf_iast (n := 276) (i := (27 + 4 * row)) (p := 125) dX12_womanLine_124 rfl (by decide) (in_nJ (by omega) (by decide)) (nI_cl (by omega)) rfl ?_
        refine we_aload_n (p := 126) dX12_womanLine_125 rfl rfl ?_
        refine we_getR (c := 11) (j := 16) (n := 37) (b := 99) (p := 129) dX12_womanLine_126 rfl rfl (by decide) (by decide) rfl (r_95_16 hF) rfl ?_
        refine we_iload_n (p := 130) dX12_womanLine_129 rfl rfl ?_
        refine we_iconst (v := 1) (p := 131) dX12_womanLine_130 (by decide) rfl ?_
        refine we_iadd (p := 132) dX12_womanLine_131 rfl ?_
        rw [show (nI (27 + 4 * row) + 1 : Int32) = nI (27 + 4 * row + 1) from nI_add (a := 27 + 4 * row) (b := 1)]
        refine we_aload_n (p := 133) dX12_womanLine_132 rfl rfl ?_
        refine we_callV_int (p := 136) (k' := 6) (a := [.ref 95]) (rr := [.int (nI (27 + 4 * row + 1)), .ref 99]) dX12_womanLine_133 rfl rfl rfl rfl (rc_of rfl rfl (by decide) ⟨rfl, by decide⟩) (Nat.le_of_ble_eq_true rfl) (Nat.le_of_ble_eq_true rfl) (by decide) (y_harbourPassed_f hF (((fM.eq (X := pFl 1 (pAv T n (pNw T n 2 row S))) (lM.wr (S := (pAv T n (pNw T n 2 row S))) (q := 1) (lM.nx (S := (pNw T n 2 row S)) (lM.nw hl f1 z1 t1) f2 r2) (by decide)) (show zF (pFl 1 (pAv T n (pSt 6 row 0 (pNw T n 2 row S)))) = _ from rfl) rfl).u)).2.2.1) (Or.inl rfl) rfl ?_
        refine wf_iast (n := 276) (i := (27 + 4 * row + 1)) (p := 137) dX12_womanLine_136 rfl (by decide) (in_nJ (by omega) (by decide)) (nI_cl (by omega)) rfl ?_
        refine we_aload_n (p := 138) dX12_womanLine_137 rfl rfl ?_
        refine we_getR (c := 11) (j := 16) (n := 37) (b := 99) (p := 141) dX12_womanLine_138 rfl rfl (by decide) (by decide) rfl (r_95_16 hF) rfl ?_
        refine we_iload_n (p := 142) dX12_womanLine_141 rfl rfl ?_
        refine we_iconst (v := 2) (p := 143) dX12_womanLine_142 (by decide) rfl ?_
        refine we_iadd (p := 144) dX12_womanLine_143 rfl ?_
        rw [show (nI (27 + 4 * row) + 2 : Int32) = nI (27 + 4 * row + 2) from nI_add (a := 27 + 4 * row) (b := 2)]
        refine we_aload_n (p := 145) dX12_womanLine_144 rfl rfl ?_
        refine we_ldcS (j := 19) (p := 147) dX12_womanLine_145 rfl rfl rfl ?_
        refine we_iconst (v := 0) (p := 148) dX12_womanLine_147 (by decide) rfl ?_
        refine we_bipush (v := 99) (p := 150) dX12_womanLine_148 (by decide) rfl ?_
        refine we_callV_int (p := 153) (k' := 5) (a := [.ref 95, .ref (sp_S + 19), .int 0, .int 99]) (rr := [.int (nI (27 + 4 * row + 2)), .ref 99]) dX12_womanLine_150 rfl rfl rfl rfl (rc_of rfl rfl (by decide) ⟨rfl, by decide⟩) (Nat.le_of_ble_eq_true rfl) (Nat.le_of_ble_eq_true rfl) (by decide) (y_after_f hF ((((fM.eq (X := pFl 1 (pAv T n (pNw T n 2 row S))) (lM.wr (S := (pAv T n (pNw T n 2 row S))) (q := 1) (lM.nx (S := (pNw T n 2 row S)) (lM.nw hl f1 z1 t1) f2 r2) (by decide)) (show zF (pFl 1 (pAv T n (pSt 6 row 0 (pNw T n 2 row S)))) = _ from rfl) rfl).u).u)).2.2.1) (Or.inl rfl) rfl ?_
        refine wf_iast (n := 276) (i := (27 + 4 * row + 2)) (p := 154) dX12_womanLine_153 rfl (by decide) (in_nJ (by omega) (by decide)) (nI_cl (by omega)) rfl ?_
        refine we_aload_n (p := 155) dX12_womanLine_154 rfl rfl ?_
        refine we_getR (c := 11) (j := 16) (n := 37) (b := 99) (p := 158) dX12_womanLine_155 rfl rfl (by decide) (by decide) rfl (r_95_16 hF) rfl ?_
        refine we_iload_n (p := 159) dX12_womanLine_158 rfl rfl ?_
        refine we_iconst (v := 3) (p := 160) dX12_womanLine_159 (by decide) rfl ?_
        refine we_iadd (p := 161) dX12_womanLine_160 rfl ?_
        rw [show (nI (27 + 4 * row) + 3 : Int32) = nI (27 + 4 * row + 3) from nI_add (a := 27 + 4 * row) (b := 3)]
        refine we_aload_n (p := 162) dX12_womanLine_161 rfl rfl ?_
        refine we_ldcS (j := 20) (p := 164) dX12_womanLine_162 rfl rfl rfl ?_
        refine we_iconst (v := 0) (p := 165) dX12_womanLine_164 (by decide) rfl ?_
        refine we_bipush (v := 60) (p := 167) dX12_womanLine_165 (by decide) rfl ?_
        refine we_callV_int (p := 170) (k' := 5) (a := [.ref 95, .ref (sp_S + 20), .int 0, .int 60]) (rr := [.int (nI (27 + 4 * row + 3)), .ref 99]) dX12_womanLine_167 rfl rfl rfl rfl (rc_of rfl rfl (by decide) ⟨rfl, by decide⟩) (Nat.le_of_ble_eq_true rfl) (Nat.le_of_ble_eq_true rfl) (by decide) (y_after_f hF (((((fM.eq (X := pFl 1 (pAv T n (pNw T n 2 row S))) (lM.wr (S := (pAv T n (pNw T n 2 row S))) (q := 1) (lM.nx (S := (pNw T n 2 row S)) (lM.nw hl f1 z1 t1) f2 r2) (by decide)) (show zF (pFl 1 (pAv T n (pSt 6 row 0 (pNw T n 2 row S)))) = _ from rfl) rfl).u).u).u)).2.2.1) (Or.inl rfl) rfl ?_
        refine wf_iast (n := 276) (i := (27 + 4 * row + 3)) (p := 171) dX12_womanLine_170 rfl (by decide) (in_nJ (by omega) (by decide)) (nI_cl (by omega)) rfl ?_
        refine we_aload_n (p := 172) dX12_womanLine_171 rfl rfl ?_
        refine wf_getI (c := 11) (j := 13) (n := 37) (v := 1) (p := 175) dX12_womanLine_172 rfl rfl (by decide) (by decide) (Or.inr rfl) ((((((fM.eq (X := pFl 1 (pAv T n (pNw T n 2 row S))) (lM.wr (S := (pAv T n (pNw T n 2 row S))) (q := 1) (lM.nx (S := (pNw T n 2 row S)) (lM.nw hl f1 z1 t1) f2 r2) (by decide)) (show zF (pFl 1 (pAv T n (pSt 6 row 0 (pNw T n 2 row S)))) = _ from rfl) rfl).u).u).u).u)).2.2.1 rfl ?_
        refine we_if_ne (t := 188) (p := 178) dX12_womanLine_175 (by decide) rfl rfl (fun hc175 => ?_) (fun hc175 => absurd hc175 (by decide))
        exact wv_ret dX12_womanLine_188 rfl (RmL.no (X := (pFl 1 (pAv T n (pSt 6 row 0 (pNw T n 2 row S))))) ((congrArg (fun z => pB z (pIn 2)) (show pWom T n row S = (pFl 1 (pAv T n (pSt 6 row 0 (pNw T n 2 row S)))) from by
      unfold pWom
      rw [pB_y (S := (pNw T n 2 row S)) z1]
      refine (if_neg (by rw [hk8]; decide)).trans ((if_neg (by rw [hk8]; decide)).trans ?_)
      rw [hk8, show (nI 8 - 8 : Int32) = 0 from rfl]
      unfold pWom2
      rw [if_neg (show ¬ tQ T n (zP (pAv T n (pSt 6 row 0 (pNw T n 2 row S)))) = nI 16 from hin)])).trans (pB_n (S := (pFl 1 (pAv T n (pSt 6 row 0 (pNw T n 2 row S))))) (show ¬ (1 : Nat) = 0 by decide))) (((((fM.eq (X := pFl 1 (pAv T n (pNw T n 2 row S))) (lM.wr (S := (pAv T n (pNw T n 2 row S))) (q := 1) (lM.nx (S := (pNw T n 2 row S)) (lM.nw hl f1 z1 t1) f2 r2) (by decide)) (show zF (pFl 1 (pAv T n (pSt 6 row 0 (pNw T n 2 row S)))) = _ from rfl) rfl).u).u).u).u))
    by_cases hk9 : tQ T n (zP (pNw T n 2 row S)) = nI 9
    · skip
      refine we_aload_n (p := 34) dX12_womanLine_33 rfl rfl ?_
      refine we_ldcS (j := 14) (p := 36) dX12_womanLine_34 rfl rfl rfl ?_
      refine we_callV_int (p := 39) (k' := 2) (a := [.ref 95, .ref (sp_S + 14)]) (rr := []) dX12_womanLine_36 rfl rfl rfl rfl (rc_of rfl rfl (by decide) ⟨rfl, by decide⟩) (Nat.le_of_ble_eq_true rfl) (Nat.le_of_ble_eq_true rfl) (by decide) (Ev.i (if_neg (by rw [hk9]; decide)) (y_isWord (j := 14) hF (lM.nw hl f1 z1 t1).2.2.1 (by decide) (by decide))) (Or.inl rfl) rfl ?_
      refine we_if_eq (t := 46) (p := 42) dX12_womanLine_39 (by decide) rfl rfl (fun hc39 => ?_) (fun hc39 => absurd (by decide) hc39)
      refine we_aload_n (p := 47) dX12_womanLine_46 rfl rfl ?_
      refine we_ldcS (j := 15) (p := 49) dX12_womanLine_47 rfl rfl rfl ?_
      refine we_callV_int (p := 52) (k' := 2) (a := [.ref 95, .ref (sp_S + 15)]) (rr := []) dX12_womanLine_49 rfl rfl rfl rfl (rc_of rfl rfl (by decide) ⟨rfl, by decide⟩) (Nat.le_of_ble_eq_true rfl) (Nat.le_of_ble_eq_true rfl) (by decide) (Ev.i (if_pos hk9) (y_isWord (j := 15) hF (lM.nw hl f1 z1 t1).2.2.1 (by decide) (by decide))) (Or.inl rfl) rfl ?_
      refine we_if_eq (t := 59) (p := 55) dX12_womanLine_52 (by decide) rfl rfl (fun hc52 => absurd hc52 (by decide)) (fun hc52 => ?_)
      refine we_iconst (v := 1) (p := 56) dX12_womanLine_55 (by decide) rfl ?_
      refine we_goto (p := 86) dX12_womanLine_56 (by decide) rfl ?_
      refine we_istore_n (ls1 := [.ref 95, .int (nI (27 + 4 * row)), .int 1]) (p := 87) dX12_womanLine_86 rfl rfl ?_
      refine we_iload_n (p := 88) dX12_womanLine_87 rfl rfl ?_
      refine we_if_ge (t := 100) (p := 91) dX12_womanLine_88 (by decide) rfl rfl (fun hc88 => ?_) (fun hc88 => absurd (by decide) hc88)
      refine we_aload_n (p := 101) dX12_womanLine_100 rfl rfl ?_
      refine wf_getI (c := 11) (j := 13) (n := 37) (v := 0) (p := 104) dX12_womanLine_101 rfl rfl (by decide) (by decide) (Or.inr rfl) (lM.nw hl f1 z1 t1).2.2.1.2.2.2.1 rfl ?_
      refine we_if_eq (t := 108) (p := 107) dX12_womanLine_104 (by decide) rfl rfl (fun hc104 => ?_) (fun hc104 => absurd (by decide) hc104)
      refine we_aload_n (p := 109) dX12_womanLine_108 rfl rfl ?_
      obtain ⟨_, _, e7, rfl, I7, J7, F7, rfl, rfl, rfl, f7, r7⟩ := y_next hF (lM.nw hl f1 z1 t1).2.2.1.1 (tE_le (lM.nw hl f1 z1 t1).2.2.1.2.1).1 (lM.nw hl f1 z1 t1).2.2.1.2.2.1.2.1
      refine we_callV_v (p := 112) (k' := 1) (a := [.ref 95]) (rr := []) dX12_womanLine_109 rfl rfl rfl rfl (rc_of rfl rfl (by decide) ⟨rfl, by decide⟩) (Nat.le_of_ble_eq_true rfl) (Nat.le_of_ble_eq_true rfl) (by decide) e7 (Or.inl rfl) rfl ?_
      refine we_aload_n (p := 113) dX12_womanLine_112 rfl rfl ?_
      refine we_ldcS (j := 18) (p := 115) dX12_womanLine_113 rfl rfl rfl ?_
      by_cases hin : tQ T n (zP (pAv T n (pNw T n 2 row S))) = nI 16
      · skip
        obtain ⟨_, _, e8, rfl, I8, J8, F8, rfl, rfl, rfl, f8, t8⟩ := y_must (j := 18) hF (lM.nx (S := (pNw T n 2 row S)) (lM.nw hl f1 z1 t1) f7 r7).2.2.1 (by decide) (by decide) hin
        refine we_callV_v (p := 118) (k' := 4) (a := [.ref 95, .ref (sp_S + 18)]) (rr := []) dX12_womanLine_115 rfl rfl rfl rfl (rc_of rfl rfl (by decide) ⟨rfl, by decide⟩) (Nat.le_of_ble_eq_true rfl) (Nat.le_of_ble_eq_true rfl) (by decide) e8 (Or.inl rfl) rfl ?_
        refine we_aload_n (p := 119) dX12_womanLine_118 rfl rfl ?_
        refine we_getR (c := 11) (j := 16) (n := 37) (b := 99) (p := 122) dX12_womanLine_119 rfl rfl (by decide) (by decide) rfl (r_95_16 hF) rfl ?_
        refine we_iload_n (p := 123) dX12_womanLine_122 rfl rfl ?_
        refine we_iload_n (p := 124) dX12_womanLine_123 rfl rfl ?_
        refine wf_iast (n := 276) (i := (27 + 4 * row)) (p := 125) dX12_womanLine_124 rfl (by decide) (in_nJ (by omega) (by decide)) (nI_cl (by omega)) rfl ?_
        refine we_aload_n (p := 126) dX12_womanLine_125 rfl rfl ?_
        refine we_getR (c := 11) (j := 16) (n := 37) (b := 99) (p := 129) dX12_womanLine_126 rfl rfl (by decide) (by decide) rfl (r_95_16 hF) rfl ?_
        refine we_iload_n (p := 130) dX12_womanLine_129 rfl rfl ?_
        refine we_iconst (v := 1) (p := 131) dX12_womanLine_130 (by decide) rfl ?_
        refine we_iadd (p := 132) dX12_womanLine_131 rfl ?_
        rw [show (nI (27 + 4 * row) + 1 : Int32) = nI (27 + 4 * row + 1) from nI_add (a := 27 + 4 * row) (b := 1)]
        refine we_aload_n (p := 133) dX12_womanLine_132 rfl rfl ?_
        obtain ⟨_, _, e9, I9, rfl, f9, ⟨z9, rfl, t9⟩ | ⟨z9, rfl, g9⟩⟩ := y_harbourPassed (S := (pAv T n (pAv T n (pSt 6 row 1 (pNw T n 2 row S))))) hF ((lM.nt (S := (pAv T n (pNw T n 2 row S))) (lM.nx (S := (pNw T n 2 row S)) (lM.nw hl f1 z1 t1) f7 r7) f8 t8).sr (j := 6) (v := 1) (by decide) (by decide) (show row < 8 by omega) (by intro x hx; simp at hx)).2.2.1 ((lM.nt (S := (pAv T n (pNw T n 2 row S))) (lM.nx (S := (pNw T n 2 row S)) (lM.nw hl f1 z1 t1) f7 r7) f8 t8).sr (j := 6) (v := 1) (by decide) (by decide) (show row < 8 by omega) (by intro x hx; simp at hx)).2.1 ((lM.nt (S := (pAv T n (pNw T n 2 row S))) (lM.nx (S := (pNw T n 2 row S)) (lM.nw hl f1 z1 t1) f7 r7) f8 t8).sr (j := 6) (v := 1) (by decide) (by decide) (show row < 8 by omega) (by intro x hx; simp at hx)).2.2.2.1
        · skip
          refine we_callV_int (p := 136) (k' := 6) (a := [.ref 95]) (rr := [.int (nI (27 + 4 * row + 1)), .ref 99]) dX12_womanLine_133 rfl rfl rfl rfl (rc_of rfl rfl (by decide) ⟨rfl, by decide⟩) (Nat.le_of_ble_eq_true rfl) (Nat.le_of_ble_eq_true rfl) (by decide) e9 (Or.inl rfl) rfl ?_
          refine wf_iast (n := 276) (i := (27 + 4 * row + 1)) (p := 137) dX12_womanLine_136 rfl (by decide) (in_nJ (by omega) (by decide)) (nI_cl (by omega)) rfl ?_
          refine we_aload_n (p := 138) dX12_womanLine_137 rfl rfl ?_
          refine we_getR (c := 11) (j := 16) (n := 37) (b := 99) (p := 141) dX12_womanLine_138 rfl rfl (by decide) (by decide) rfl (r_95_16 hF) rfl ?_
          refine we_iload_n (p := 142) dX12_womanLine_141 rfl rfl ?_
          refine we_iconst (v := 2) (p := 143) dX12_womanLine_142 (by decide) rfl ?_
          refine we_iadd (p := 144) dX12_womanLine_143 rfl ?_
          rw [show (nI (27 + 4 * row) + 2 : Int32) = nI (27 + 4 * row + 2) from nI_add (a := 27 + 4 * row) (b := 2)]
          refine we_aload_n (p := 145) dX12_womanLine_144 rfl rfl ?_
          refine we_ldcS (j := 19) (p := 147) dX12_womanLine_145 rfl rfl rfl ?_
          refine we_iconst (v := 0) (p := 148) dX12_womanLine_147 (by decide) rfl ?_
          refine we_bipush (v := 99) (p := 150) dX12_womanLine_148 (by decide) rfl ?_
          obtain ⟨_, _, e10, I10, rfl, f10, ⟨z10, rfl, t10⟩ | ⟨z10, rfl, g10⟩⟩ := y_afterW (S := (pAv T n (pSt 7 row (nI (zV (pFn T n 0 (pAv T n (pAv T n (pSt 6 row 1 (pNw T n 2 row S))))))) (pFn T n 0 (pAv T n (pAv T n (pSt 6 row 1 (pNw T n 2 row S)))))))) (j := 19) (w := 17) (lo := 0) (hi := 99) rfl hF ((lM.fa (S := (pAv T n (pAv T n (pSt 6 row 1 (pNw T n 2 row S))))) ((lM.nt (S := (pAv T n (pNw T n 2 row S))) (lM.nx (S := (pNw T n 2 row S)) (lM.nw hl f1 z1 t1) f7 r7) f8 t8).sr (j := 6) (v := 1) (by decide) (by decide) (show row < 8 by omega) (by intro x hx; simp at hx)) f9 z9 t9).sr (j := 7) (v := nI (zV (pFn T n 0 (pAv T n (pAv T n (pSt 6 row 1 (pNw T n 2 row S))))))) (by decide) (by decide) (show row < 8 by omega) (by intro x hx; simp at hx; subst hx; exact ⟨by decide, by decide, (show row < 8 by omega)⟩)).2.2.1 ((lM.fa (S := (pAv T n (pAv T n (pSt 6 row 1 (pNw T n 2 row S))))) ((lM.nt (S := (pAv T n (pNw T n 2 row S))) (lM.nx (S := (pNw T n 2 row S)) (lM.nw hl f1 z1 t1) f7 r7) f8 t8).sr (j := 6) (v := 1) (by decide) (by decide) (show row < 8 by omega) (by intro x hx; simp at hx)) f9 z9 t9).sr (j := 7) (v := nI (zV (pFn T n 0 (pAv T n (pAv T n (pSt 6 row 1 (pNw T n 2 row S))))))) (by decide) (by decide) (show row < 8 by omega) (by intro x hx; simp at hx; subst hx; exact ⟨by decide, by decide, (show row < 8 by omega)⟩)).2.1 (by decide) (by decide) (by decide) (by decide)
          · skip
            refine we_callV_int (p := 153) (k' := 5) (a := [.ref 95, .ref (sp_S + 19), .int 0, .int 99]) (rr := [.int (nI (27 + 4 * row + 2)), .ref 99]) dX12_womanLine_150 rfl rfl rfl rfl (rc_of rfl rfl (by decide) ⟨rfl, by decide⟩) (Nat.le_of_ble_eq_true rfl) (Nat.le_of_ble_eq_true rfl) (by decide) e10 (Or.inl rfl) rfl ?_
            refine wf_iast (n := 276) (i := (27 + 4 * row + 2)) (p := 154) dX12_womanLine_153 rfl (by decide) (in_nJ (by omega) (by decide)) (nI_cl (by omega)) rfl ?_
            refine we_aload_n (p := 155) dX12_womanLine_154 rfl rfl ?_
            refine we_getR (c := 11) (j := 16) (n := 37) (b := 99) (p := 158) dX12_womanLine_155 rfl rfl (by decide) (by decide) rfl (r_95_16 hF) rfl ?_
            refine we_iload_n (p := 159) dX12_womanLine_158 rfl rfl ?_
            refine we_iconst (v := 3) (p := 160) dX12_womanLine_159 (by decide) rfl ?_
            refine we_iadd (p := 161) dX12_womanLine_160 rfl ?_
            rw [show (nI (27 + 4 * row) + 3 : Int32) = nI (27 + 4 * row + 3) from nI_add (a := 27 + 4 * row) (b := 3)]
            refine we_aload_n (p := 162) dX12_womanLine_161 rfl rfl ?_
            refine we_ldcS (j := 20) (p := 164) dX12_womanLine_162 rfl rfl rfl ?_
            refine we_iconst (v := 0) (p := 165) dX12_womanLine_164 (by decide) rfl ?_
            refine we_bipush (v := 60) (p := 167) dX12_womanLine_165 (by decide) rfl ?_
            obtain ⟨_, _, e11, I11, rfl, f11, ⟨z11, rfl, t11⟩ | ⟨z11, rfl, g11⟩⟩ := y_afterW (S := (pSt 8 row (nI (zV (pTk T n 17 0 99 (pAv T n (pSt 7 row (nI (zV (pFn T n 0 (pAv T n (pAv T n (pSt 6 row 1 (pNw T n 2 row S))))))) (pFn T n 0 (pAv T n (pAv T n (pSt 6 row 1 (pNw T n 2 row S)))))))))) (pTk T n 17 0 99 (pAv T n (pSt 7 row (nI (zV (pFn T n 0 (pAv T n (pAv T n (pSt 6 row 1 (pNw T n 2 row S))))))) (pFn T n 0 (pAv T n (pAv T n (pSt 6 row 1 (pNw T n 2 row S)))))))))) (j := 20) (w := 18) (lo := 0) (hi := 60) rfl hF ((lM.tk (S := (pAv T n (pSt 7 row (nI (zV (pFn T n 0 (pAv T n (pAv T n (pSt 6 row 1 (pNw T n 2 row S))))))) (pFn T n 0 (pAv T n (pAv T n (pSt 6 row 1 (pNw T n 2 row S)))))))) ((lM.fa (S := (pAv T n (pAv T n (pSt 6 row 1 (pNw T n 2 row S))))) ((lM.nt (S := (pAv T n (pNw T n 2 row S))) (lM.nx (S := (pNw T n 2 row S)) (lM.nw hl f1 z1 t1) f7 r7) f8 t8).sr (j := 6) (v := 1) (by decide) (by decide) (show row < 8 by omega) (by intro x hx; simp at hx)) f9 z9 t9).sr (j := 7) (v := nI (zV (pFn T n 0 (pAv T n (pAv T n (pSt 6 row 1 (pNw T n 2 row S))))))) (by decide) (by decide) (show row < 8 by omega) (by intro x hx; simp at hx; subst hx; exact ⟨by decide, by decide, (show row < 8 by omega)⟩)) f10 z10 t10).sr (j := 8) (v := nI (zV (pTk T n 17 0 99 (pAv T n (pSt 7 row (nI (zV (pFn T n 0 (pAv T n (pAv T n (pSt 6 row 1 (pNw T n 2 row S))))))) (pFn T n 0 (pAv T n (pAv T n (pSt 6 row 1 (pNw T n 2 row S)))))))))) (by decide) (by decide) (show row < 8 by omega) (by intro x hx; simp at hx; rcases hx with rfl | rfl <;> exact ⟨by decide, by decide, (show row < 8 by omega)⟩)).2.2.1 ((lM.tk (S := (pAv T n (pSt 7 row (nI (zV (pFn T n 0 (pAv T n (pAv T n (pSt 6 row 1 (pNw T n 2 row S))))))) (pFn T n 0 (pAv T n (pAv T n (pSt 6 row 1 (pNw T n 2 row S)))))))) ((lM.fa (S := (pAv T n (pAv T n (pSt 6 row 1 (pNw T n 2 row S))))) ((lM.nt (S := (pAv T n (pNw T n 2 row S))) (lM.nx (S := (pNw T n 2 row S)) (lM.nw hl f1 z1 t1) f7 r7) f8 t8).sr (j := 6) (v := 1) (by decide) (by decide) (show row < 8 by omega) (by intro x hx; simp at hx)) f9 z9 t9).sr (j := 7) (v := nI (zV (pFn T n 0 (pAv T n (pAv T n (pSt 6 row 1 (pNw T n 2 row S))))))) (by decide) (by decide) (show row < 8 by omega) (by intro x hx; simp at hx; subst hx; exact ⟨by decide, by decide, (show row < 8 by omega)⟩)) f10 z10 t10).sr (j := 8) (v := nI (zV (pTk T n 17 0 99 (pAv T n (pSt 7 row (nI (zV (pFn T n 0 (pAv T n (pAv T n (pSt 6 row 1 (pNw T n 2 row S))))))) (pFn T n 0 (pAv T n (pAv T n (pSt 6 row 1 (pNw T n 2 row S)))))))))) (by decide) (by decide) (show row < 8 by omega) (by intro x hx; simp at hx; rcases hx with rfl | rfl <;> exact ⟨by decide, by decide, (show row < 8 by omega)⟩)).2.1 (by decide) (by decide) (by decide) (by decide)
            · skip
              refine we_callV_int (p := 170) (k' := 5) (a := [.ref 95, .ref (sp_S + 20), .int 0, .int 60]) (rr := [.int (nI (27 + 4 * row + 3)), .ref 99]) dX12_womanLine_167 rfl rfl rfl rfl (rc_of rfl rfl (by decide) ⟨rfl, by decide⟩) (Nat.le_of_ble_eq_true rfl) (Nat.le_of_ble_eq_true rfl) (by decide) e11 (Or.inl rfl) rfl ?_
              refine wf_iast (n := 276) (i := (27 + 4 * row + 3)) (p := 171) dX12_womanLine_170 rfl (by decide) (in_nJ (by omega) (by decide)) (nI_cl (by omega)) rfl ?_
              refine we_aload_n (p := 172) dX12_womanLine_171 rfl rfl ?_
              refine wf_getI (c := 11) (j := 13) (n := 37) (v := 0) (p := 175) dX12_womanLine_172 rfl rfl (by decide) (by decide) (Or.inr rfl) ((lM.tk (S := (pSt 8 row (nI (zV (pTk T n 17 0 99 (pAv T n (pSt 7 row (nI (zV (pFn T n 0 (pAv T n (pAv T n (pSt 6 row 1 (pNw T n 2 row S))))))) (pFn T n 0 (pAv T n (pAv T n (pSt 6 row 1 (pNw T n 2 row S)))))))))) (pTk T n 17 0 99 (pAv T n (pSt 7 row (nI (zV (pFn T n 0 (pAv T n (pAv T n (pSt 6 row 1 (pNw T n 2 row S))))))) (pFn T n 0 (pAv T n (pAv T n (pSt 6 row 1 (pNw T n 2 row S)))))))))) ((lM.tk (S := (pAv T n (pSt 7 row (nI (zV (pFn T n 0 (pAv T n (pAv T n (pSt 6 row 1 (pNw T n 2 row S))))))) (pFn T n 0 (pAv T n (pAv T n (pSt 6 row 1 (pNw T n 2 row S)))))))) ((lM.fa (S := (pAv T n (pAv T n (pSt 6 row 1 (pNw T n 2 row S))))) ((lM.nt (S := (pAv T n (pNw T n 2 row S))) (lM.nx (S := (pNw T n 2 row S)) (lM.nw hl f1 z1 t1) f7 r7) f8 t8).sr (j := 6) (v := 1) (by decide) (by decide) (show row < 8 by omega) (by intro x hx; simp at hx)) f9 z9 t9).sr (j := 7) (v := nI (zV (pFn T n 0 (pAv T n (pAv T n (pSt 6 row 1 (pNw T n 2 row S))))))) (by decide) (by decide) (show row < 8 by omega) (by intro x hx; simp at hx; subst hx; exact ⟨by decide, by decide, (show row < 8 by omega)⟩)) f10 z10 t10).sr (j := 8) (v := nI (zV (pTk T n 17 0 99 (pAv T n (pSt 7 row (nI (zV (pFn T n 0 (pAv T n (pAv T n (pSt 6 row 1 (pNw T n 2 row S))))))) (pFn T n 0 (pAv T n (pAv T n (pSt 6 row 1 (pNw T n 2 row S)))))))))) (by decide) (by decide) (show row < 8 by omega) (by intro x hx; simp at hx; rcases hx with rfl | rfl <;> exact ⟨by decide, by decide, (show row < 8 by omega)⟩)) f11 z11 t11).sr (j := 9) (v := nI (zV (pTk T n 18 0 60 (pSt 8 row (nI (zV (pTk T n 17 0 99 (pAv T n (pSt 7 row (nI (zV (pFn T n 0 (pAv T n (pAv T n (pSt 6 row 1 (pNw T n 2 row S))))))) (pFn T n 0 (pAv T n (pAv T n (pSt 6 row 1 (pNw T n 2 row S)))))))))) (pTk T n 17 0 99 (pAv T n (pSt 7 row (nI (zV (pFn T n 0 (pAv T n (pAv T n (pSt 6 row 1 (pNw T n 2 row S))))))) (pFn T n 0 (pAv T n (pAv T n (pSt 6 row 1 (pNw T n 2 row S)))))))))))) (by decide) (by decide) (show row < 8 by omega) (by intro x hx; simp at hx; rcases hx with rfl | rfl | rfl <;> exact ⟨by decide, by decide, (show row < 8 by omega)⟩)).2.2.1.2.2.2.1 rfl ?_
              refine we_if_ne (t := 188) (p := 178) dX12_womanLine_175 (by decide) rfl rfl (fun hc175 => absurd (by decide) hc175) (fun hc175 => ?_)
              refine we_aload_n (p := 179) dX12_womanLine_178 rfl rfl ?_
              refine we_getR (c := 11) (j := 16) (n := 37) (b := 99) (p := 182) dX12_womanLine_179 rfl rfl (by decide) (by decide) rfl (r_95_16 hF) rfl ?_
              refine we_iconst (v := 4) (p := 183) dX12_womanLine_182 (by decide) rfl ?_
              refine we_dup2 (p := 184) dX12_womanLine_183 rfl ?_
              refine wf_iald (n := 276) (i := 4) (v := nI row) (p := 185) dX12_womanLine_184 rfl (by decide) (by decide) (by decide) (((lM.tk (S := (pSt 8 row (nI (zV (pTk T n 17 0 99 (pAv T n (pSt 7 row (nI (zV (pFn T n 0 (pAv T n (pAv T n (pSt 6 row 1 (pNw T n 2 row S))))))) (pFn T n 0 (pAv T n (pAv T n (pSt 6 row 1 (pNw T n 2 row S)))))))))) (pTk T n 17 0 99 (pAv T n (pSt 7 row (nI (zV (pFn T n 0 (pAv T n (pAv T n (pSt 6 row 1 (pNw T n 2 row S))))))) (pFn T n 0 (pAv T n (pAv T n (pSt 6 row 1 (pNw T n 2 row S)))))))))) ((lM.tk (S := (pAv T n (pSt 7 row (nI (zV (pFn T n 0 (pAv T n (pAv T n (pSt 6 row 1 (pNw T n 2 row S))))))) (pFn T n 0 (pAv T n (pAv T n (pSt 6 row 1 (pNw T n 2 row S)))))))) ((lM.fa (S := (pAv T n (pAv T n (pSt 6 row 1 (pNw T n 2 row S))))) ((lM.nt (S := (pAv T n (pNw T n 2 row S))) (lM.nx (S := (pNw T n 2 row S)) (lM.nw hl f1 z1 t1) f7 r7) f8 t8).sr (j := 6) (v := 1) (by decide) (by decide) (show row < 8 by omega) (by intro x hx; simp at hx)) f9 z9 t9).sr (j := 7) (v := nI (zV (pFn T n 0 (pAv T n (pAv T n (pSt 6 row 1 (pNw T n 2 row S))))))) (by decide) (by decide) (show row < 8 by omega) (by intro x hx; simp at hx; subst hx; exact ⟨by decide, by decide, (show row < 8 by omega)⟩)) f10 z10 t10).sr (j := 8) (v := nI (zV (pTk T n 17 0 99 (pAv T n (pSt 7 row (nI (zV (pFn T n 0 (pAv T n (pAv T n (pSt 6 row 1 (pNw T n 2 row S))))))) (pFn T n 0 (pAv T n (pAv T n (pSt 6 row 1 (pNw T n 2 row S)))))))))) (by decide) (by decide) (show row < 8 by omega) (by intro x hx; simp at hx; rcases hx with rfl | rfl <;> exact ⟨by decide, by decide, (show row < 8 by omega)⟩)) f11 z11 t11).sr (j := 9) (v := nI (zV (pTk T n 18 0 60 (pSt 8 row (nI (zV (pTk T n 17 0 99 (pAv T n (pSt 7 row (nI (zV (pFn T n 0 (pAv T n (pAv T n (pSt 6 row 1 (pNw T n 2 row S))))))) (pFn T n 0 (pAv T n (pAv T n (pSt 6 row 1 (pNw T n 2 row S)))))))))) (pTk T n 17 0 99 (pAv T n (pSt 7 row (nI (zV (pFn T n 0 (pAv T n (pAv T n (pSt 6 row 1 (pNw T n 2 row S))))))) (pFn T n 0 (pAv T n (pAv T n (pSt 6 row 1 (pNw T n 2 row S)))))))))))) (by decide) (by decide) (show row < 8 by omega) (by intro x hx; simp at hx; rcases hx with rfl | rfl | rfl <;> exact ⟨by decide, by decide, (show row < 8 by omega)⟩)).cnt (by decide)) rfl ?_
              refine we_iconst (v := 1) (p := 186) dX12_womanLine_185 (by decide) rfl ?_
              refine we_iadd (p := 187) dX12_womanLine_186 rfl ?_
              rw [nI_1]
              refine wf_iast (n := 276) (i := 4) (p := 188) dX12_womanLine_187 rfl (by decide) (by decide) (by decide) rfl ?_
              exact wv_ret dX12_womanLine_188 rfl (RmL.ok (S := (pSt 9 row (nI (zV (pTk T n 18 0 60 (pSt 8 row (nI (zV (pTk T n 17 0 99 (pAv T n (pSt 7 row (nI (zV (pFn T n 0 (pAv T n (pAv T n (pSt 6 row 1 (pNw T n 2 row S))))))) (pFn T n 0 (pAv T n (pAv T n (pSt 6 row 1 (pNw T n 2 row S)))))))))) (pTk T n 17 0 99 (pAv T n (pSt 7 row (nI (zV (pFn T n 0 (pAv T n (pAv T n (pSt 6 row 1 (pNw T n 2 row S))))))) (pFn T n 0 (pAv T n (pAv T n (pSt 6 row 1 (pNw T n 2 row S)))))))))))) (pTk T n 18 0 60 (pSt 8 row (nI (zV (pTk T n 17 0 99 (pAv T n (pSt 7 row (nI (zV (pFn T n 0 (pAv T n (pAv T n (pSt 6 row 1 (pNw T n 2 row S))))))) (pFn T n 0 (pAv T n (pAv T n (pSt 6 row 1 (pNw T n 2 row S)))))))))) (pTk T n 17 0 99 (pAv T n (pSt 7 row (nI (zV (pFn T n 0 (pAv T n (pAv T n (pSt 6 row 1 (pNw T n 2 row S))))))) (pFn T n 0 (pAv T n (pAv T n (pSt 6 row 1 (pNw T n 2 row S)))))))))))) ((congrArg (fun z => pB z (pIn 2)) (show pWom T n row S = (pSt 9 row (nI (zV (pTk T n 18 0 60 (pSt 8 row (nI (zV (pTk T n 17 0 99 (pAv T n (pSt 7 row (nI (zV (pFn T n 0 (pAv T n (pAv T n (pSt 6 row 1 (pNw T n 2 row S))))))) (pFn T n 0 (pAv T n (pAv T n (pSt 6 row 1 (pNw T n 2 row S)))))))))) (pTk T n 17 0 99 (pAv T n (pSt 7 row (nI (zV (pFn T n 0 (pAv T n (pAv T n (pSt 6 row 1 (pNw T n 2 row S))))))) (pFn T n 0 (pAv T n (pAv T n (pSt 6 row 1 (pNw T n 2 row S)))))))))))) (pTk T n 18 0 60 (pSt 8 row (nI (zV (pTk T n 17 0 99 (pAv T n (pSt 7 row (nI (zV (pFn T n 0 (pAv T n (pAv T n (pSt 6 row 1 (pNw T n 2 row S))))))) (pFn T n 0 (pAv T n (pAv T n (pSt 6 row 1 (pNw T n 2 row S)))))))))) (pTk T n 17 0 99 (pAv T n (pSt 7 row (nI (zV (pFn T n 0 (pAv T n (pAv T n (pSt 6 row 1 (pNw T n 2 row S))))))) (pFn T n 0 (pAv T n (pAv T n (pSt 6 row 1 (pNw T n 2 row S))))))))))) from by
      unfold pWom
      rw [pB_y (S := (pNw T n 2 row S)) z1]
      refine (if_neg (by rw [hk9]; decide)).trans ((if_neg (by rw [hk9]; decide)).trans ?_)
      rw [hk9, show (nI 9 - 8 : Int32) = 1 from rfl]
      unfold pWom2
      rw [if_pos (show tQ T n (zP (pAv T n (pSt 6 row 1 (pNw T n 2 row S)))) = nI 16 from hin), pB_y (S := (pFn T n 0 (pAv T n (pAv T n (pSt 6 row 1 (pNw T n 2 row S)))))) z9, pB_y (S := (pTk T n 17 0 99 (pAv T n (pSt 7 row (nI (zV (pFn T n 0 (pAv T n (pAv T n (pSt 6 row 1 (pNw T n 2 row S))))))) (pFn T n 0 (pAv T n (pAv T n (pSt 6 row 1 (pNw T n 2 row S))))))))) z10, pB_y (S := (pTk T n 18 0 60 (pSt 8 row (nI (zV (pTk T n 17 0 99 (pAv T n (pSt 7 row (nI (zV (pFn T n 0 (pAv T n (pAv T n (pSt 6 row 1 (pNw T n 2 row S))))))) (pFn T n 0 (pAv T n (pAv T n (pSt 6 row 1 (pNw T n 2 row S)))))))))) (pTk T n 17 0 99 (pAv T n (pSt 7 row (nI (zV (pFn T n 0 (pAv T n (pAv T n (pSt 6 row 1 (pNw T n 2 row S))))))) (pFn T n 0 (pAv T n (pAv T n (pSt 6 row 1 (pNw T n 2 row S))))))))))) z11])).trans (pB_y ((lM.tk (S := (pSt 8 row (nI (zV (pTk T n 17 0 99 (pAv T n (pSt 7 row (nI (zV (pFn T n 0 (pAv T n (pAv T n (pSt 6 row 1 (pNw T n 2 row S))))))) (pFn T n 0 (pAv T n (pAv T n (pSt 6 row 1 (pNw T n 2 row S)))))))))) (pTk T n 17 0 99 (pAv T n (pSt 7 row (nI (zV (pFn T n 0 (pAv T n (pAv T n (pSt 6 row 1 (pNw T n 2 row S))))))) (pFn T n 0 (pAv T n (pAv T n (pSt 6 row 1 (pNw T n 2 row S)))))))))) ((lM.tk (S := (pAv T n (pSt 7 row (nI (zV (pFn T n 0 (pAv T n (pAv T n (pSt 6 row 1 (pNw T n 2 row S))))))) (pFn T n 0 (pAv T n (pAv T n (pSt 6 row 1 (pNw T n 2 row S)))))))) ((lM.fa (S := (pAv T n (pAv T n (pSt 6 row 1 (pNw T n 2 row S))))) ((lM.nt (S := (pAv T n (pNw T n 2 row S))) (lM.nx (S := (pNw T n 2 row S)) (lM.nw hl f1 z1 t1) f7 r7) f8 t8).sr (j := 6) (v := 1) (by decide) (by decide) (show row < 8 by omega) (by intro x hx; simp at hx)) f9 z9 t9).sr (j := 7) (v := nI (zV (pFn T n 0 (pAv T n (pAv T n (pSt 6 row 1 (pNw T n 2 row S))))))) (by decide) (by decide) (show row < 8 by omega) (by intro x hx; simp at hx; subst hx; exact ⟨by decide, by decide, (show row < 8 by omega)⟩)) f10 z10 t10).sr (j := 8) (v := nI (zV (pTk T n 17 0 99 (pAv T n (pSt 7 row (nI (zV (pFn T n 0 (pAv T n (pAv T n (pSt 6 row 1 (pNw T n 2 row S))))))) (pFn T n 0 (pAv T n (pAv T n (pSt 6 row 1 (pNw T n 2 row S)))))))))) (by decide) (by decide) (show row < 8 by omega) (by intro x hx; simp at hx; rcases hx with rfl | rfl <;> exact ⟨by decide, by decide, (show row < 8 by omega)⟩)) f11 z11 t11).sr (j := 9) (v := nI (zV (pTk T n 18 0 60 (pSt 8 row (nI (zV (pTk T n 17 0 99 (pAv T n (pSt 7 row (nI (zV (pFn T n 0 (pAv T n (pAv T n (pSt 6 row 1 (pNw T n 2 row S))))))) (pFn T n 0 (pAv T n (pAv T n (pSt 6 row 1 (pNw T n 2 row S)))))))))) (pTk T n 17 0 99 (pAv T n (pSt 7 row (nI (zV (pFn T n 0 (pAv T n (pAv T n (pSt 6 row 1 (pNw T n 2 row S))))))) (pFn T n 0 (pAv T n (pAv T n (pSt 6 row 1 (pNw T n 2 row S)))))))))))) (by decide) (by decide) (show row < 8 by omega) (by intro x hx; simp at hx; rcases hx with rfl | rfl | rfl <;> exact ⟨by decide, by decide, (show row < 8 by omega)⟩)).2.1)) ((lM.tk (S := (pSt 8 row (nI (zV (pTk T n 17 0 99 (pAv T n (pSt 7 row (nI (zV (pFn T n 0 (pAv T n (pAv T n (pSt 6 row 1 (pNw T n 2 row S))))))) (pFn T n 0 (pAv T n (pAv T n (pSt 6 row 1 (pNw T n 2 row S)))))))))) (pTk T n 17 0 99 (pAv T n (pSt 7 row (nI (zV (pFn T n 0 (pAv T n (pAv T n (pSt 6 row 1 (pNw T n 2 row S))))))) (pFn T n 0 (pAv T n (pAv T n (pSt 6 row 1 (pNw T n 2 row S)))))))))) ((lM.tk (S := (pAv T n (pSt 7 row (nI (zV (pFn T n 0 (pAv T n (pAv T n (pSt 6 row 1 (pNw T n 2 row S))))))) (pFn T n 0 (pAv T n (pAv T n (pSt 6 row 1 (pNw T n 2 row S)))))))) ((lM.fa (S := (pAv T n (pAv T n (pSt 6 row 1 (pNw T n 2 row S))))) ((lM.nt (S := (pAv T n (pNw T n 2 row S))) (lM.nx (S := (pNw T n 2 row S)) (lM.nw hl f1 z1 t1) f7 r7) f8 t8).sr (j := 6) (v := 1) (by decide) (by decide) (show row < 8 by omega) (by intro x hx; simp at hx)) f9 z9 t9).sr (j := 7) (v := nI (zV (pFn T n 0 (pAv T n (pAv T n (pSt 6 row 1 (pNw T n 2 row S))))))) (by decide) (by decide) (show row < 8 by omega) (by intro x hx; simp at hx; subst hx; exact ⟨by decide, by decide, (show row < 8 by omega)⟩)) f10 z10 t10).sr (j := 8) (v := nI (zV (pTk T n 17 0 99 (pAv T n (pSt 7 row (nI (zV (pFn T n 0 (pAv T n (pAv T n (pSt 6 row 1 (pNw T n 2 row S))))))) (pFn T n 0 (pAv T n (pAv T n (pSt 6 row 1 (pNw T n 2 row S)))))))))) (by decide) (by decide) (show row < 8 by omega) (by intro x hx; simp at hx; rcases hx with rfl | rfl <;> exact ⟨by decide, by decide, (show row < 8 by omega)⟩)) f11 z11 t11).sr (j := 9) (v := nI (zV (pTk T n 18 0 60 (pSt 8 row (nI (zV (pTk T n 17 0 99 (pAv T n (pSt 7 row (nI (zV (pFn T n 0 (pAv T n (pAv T n (pSt 6 row 1 (pNw T n 2 row S))))))) (pFn T n 0 (pAv T n (pAv T n (pSt 6 row 1 (pNw T n 2 row S)))))))))) (pTk T n 17 0 99 (pAv T n (pSt 7 row (nI (zV (pFn T n 0 (pAv T n (pAv T n (pSt 6 row 1 (pNw T n 2 row S))))))) (pFn T n 0 (pAv T n (pAv T n (pSt 6 row 1 (pNw T n 2 row S)))))))))))) (by decide) (by decide) (show row < 8 by omega) (by intro x hx; simp at hx; rcases hx with rfl | rfl | rfl <;> exact ⟨by decide, by decide, (show row < 8 by omega)⟩)) (by decide) (show row < 8 by omega) (by decide) rfl)
            · skip
              refine we_callV_int (p := 170) (k' := 5) (a := [.ref 95, .ref (sp_S + 20), .int 0, .int 60]) (rr := [.int (nI (27 + 4 * row + 3)), .ref 99]) dX12_womanLine_167 rfl rfl rfl rfl (rc_of rfl rfl (by decide) ⟨rfl, by decide⟩) (Nat.le_of_ble_eq_true rfl) (Nat.le_of_ble_eq_true rfl) (by decide) e11 (Or.inl rfl) rfl ?_
              refine wf_iast (n := 276) (i := (27 + 4 * row + 3)) (p := 171) dX12_womanLine_170 rfl (by decide) (in_nJ (by omega) (by decide)) (nI_cl (by omega)) rfl ?_
              refine we_aload_n (p := 172) dX12_womanLine_171 rfl rfl ?_
              refine wf_getI (c := 11) (j := 13) (n := 37) (v := 1) (p := 175) dX12_womanLine_172 rfl rfl (by decide) (by decide) (Or.inr rfl) (((((lM.tk (S := (pAv T n (pSt 7 row (nI (zV (pFn T n 0 (pAv T n (pAv T n (pSt 6 row 1 (pNw T n 2 row S))))))) (pFn T n 0 (pAv T n (pAv T n (pSt 6 row 1 (pNw T n 2 row S)))))))) ((lM.fa (S := (pAv T n (pAv T n (pSt 6 row 1 (pNw T n 2 row S))))) ((lM.nt (S := (pAv T n (pNw T n 2 row S))) (lM.nx (S := (pNw T n 2 row S)) (lM.nw hl f1 z1 t1) f7 r7) f8 t8).sr (j := 6) (v := 1) (by decide) (by decide) (show row < 8 by omega) (by intro x hx; simp at hx)) f9 z9 t9).sr (j := 7) (v := nI (zV (pFn T n 0 (pAv T n (pAv T n (pSt 6 row 1 (pNw T n 2 row S))))))) (by decide) (by decide) (show row < 8 by omega) (by intro x hx; simp at hx; subst hx; exact ⟨by decide, by decide, (show row < 8 by omega)⟩)) f10 z10 t10).sr (j := 8) (v := nI (zV (pTk T n 17 0 99 (pAv T n (pSt 7 row (nI (zV (pFn T n 0 (pAv T n (pAv T n (pSt 6 row 1 (pNw T n 2 row S))))))) (pFn T n 0 (pAv T n (pAv T n (pSt 6 row 1 (pNw T n 2 row S)))))))))) (by decide) (by decide) (show row < 8 by omega) (by intro x hx; simp at hx; rcases hx with rfl | rfl <;> exact ⟨by decide, by decide, (show row < 8 by omega)⟩)).no f11 z11 g11).u)).2.2.1 rfl ?_
              refine we_if_ne (t := 188) (p := 178) dX12_womanLine_175 (by decide) rfl rfl (fun hc175 => ?_) (fun hc175 => absurd hc175 (by decide))
              exact wv_ret dX12_womanLine_188 rfl (RmL.no (X := (pTk T n 18 0 60 (pSt 8 row (nI (zV (pTk T n 17 0 99 (pAv T n (pSt 7 row (nI (zV (pFn T n 0 (pAv T n (pAv T n (pSt 6 row 1 (pNw T n 2 row S))))))) (pFn T n 0 (pAv T n (pAv T n (pSt 6 row 1 (pNw T n 2 row S)))))))))) (pTk T n 17 0 99 (pAv T n (pSt 7 row (nI (zV (pFn T n 0 (pAv T n (pAv T n (pSt 6 row 1 (pNw T n 2 row S))))))) (pFn T n 0 (pAv T n (pAv T n (pSt 6 row 1 (pNw T n 2 row S))))))))))) ((congrArg (fun z => pB z (pIn 2)) (show pWom T n row S = (pTk T n 18 0 60 (pSt 8 row (nI (zV (pTk T n 17 0 99 (pAv T n (pSt 7 row (nI (zV (pFn T n 0 (pAv T n (pAv T n (pSt 6 row 1 (pNw T n 2 row S))))))) (pFn T n 0 (pAv T n (pAv T n (pSt 6 row 1 (pNw T n 2 row S)))))))))) (pTk T n 17 0 99 (pAv T n (pSt 7 row (nI (zV (pFn T n 0 (pAv T n (pAv T n (pSt 6 row 1 (pNw T n 2 row S))))))) (pFn T n 0 (pAv T n (pAv T n (pSt 6 row 1 (pNw T n 2 row S)))))))))) from by
      unfold pWom
      rw [pB_y (S := (pNw T n 2 row S)) z1]
      refine (if_neg (by rw [hk9]; decide)).trans ((if_neg (by rw [hk9]; decide)).trans ?_)
      rw [hk9, show (nI 9 - 8 : Int32) = 1 from rfl]
      unfold pWom2
      rw [if_pos (show tQ T n (zP (pAv T n (pSt 6 row 1 (pNw T n 2 row S)))) = nI 16 from hin), pB_y (S := (pFn T n 0 (pAv T n (pAv T n (pSt 6 row 1 (pNw T n 2 row S)))))) z9, pB_y (S := (pTk T n 17 0 99 (pAv T n (pSt 7 row (nI (zV (pFn T n 0 (pAv T n (pAv T n (pSt 6 row 1 (pNw T n 2 row S))))))) (pFn T n 0 (pAv T n (pAv T n (pSt 6 row 1 (pNw T n 2 row S))))))))) z10, pB_n (S := (pTk T n 18 0 60 (pSt 8 row (nI (zV (pTk T n 17 0 99 (pAv T n (pSt 7 row (nI (zV (pFn T n 0 (pAv T n (pAv T n (pSt 6 row 1 (pNw T n 2 row S))))))) (pFn T n 0 (pAv T n (pAv T n (pSt 6 row 1 (pNw T n 2 row S)))))))))) (pTk T n 17 0 99 (pAv T n (pSt 7 row (nI (zV (pFn T n 0 (pAv T n (pAv T n (pSt 6 row 1 (pNw T n 2 row S))))))) (pFn T n 0 (pAv T n (pAv T n (pSt 6 row 1 (pNw T n 2 row S))))))))))) z11])).trans (pB_n (S := (pTk T n 18 0 60 (pSt 8 row (nI (zV (pTk T n 17 0 99 (pAv T n (pSt 7 row (nI (zV (pFn T n 0 (pAv T n (pAv T n (pSt 6 row 1 (pNw T n 2 row S))))))) (pFn T n 0 (pAv T n (pAv T n (pSt 6 row 1 (pNw T n 2 row S)))))))))) (pTk T n 17 0 99 (pAv T n (pSt 7 row (nI (zV (pFn T n 0 (pAv T n (pAv T n (pSt 6 row 1 (pNw T n 2 row S))))))) (pFn T n 0 (pAv T n (pAv T n (pSt 6 row 1 (pNw T n 2 row S))))))))))) z11)) ((((lM.tk (S := (pAv T n (pSt 7 row (nI (zV (pFn T n 0 (pAv T n (pAv T n (pSt 6 row 1 (pNw T n 2 row S))))))) (pFn T n 0 (pAv T n (pAv T n (pSt 6 row 1 (pNw T n 2 row S)))))))) ((lM.fa (S := (pAv T n (pAv T n (pSt 6 row 1 (pNw T n 2 row S))))) ((lM.nt (S := (pAv T n (pNw T n 2 row S))) (lM.nx (S := (pNw T n 2 row S)) (lM.nw hl f1 z1 t1) f7 r7) f8 t8).sr (j := 6) (v := 1) (by decide) (by decide) (show row < 8 by omega) (by intro x hx; simp at hx)) f9 z9 t9).sr (j := 7) (v := nI (zV (pFn T n 0 (pAv T n (pAv T n (pSt 6 row 1 (pNw T n 2 row S))))))) (by decide) (by decide) (show row < 8 by omega) (by intro x hx; simp at hx; subst hx; exact ⟨by decide, by decide, (show row < 8 by omega)⟩)) f10 z10 t10).sr (j := 8) (v := nI (zV (pTk T n 17 0 99 (pAv T n (pSt 7 row (nI (zV (pFn T n 0 (pAv T n (pAv T n (pSt 6 row 1 (pNw T n 2 row S))))))) (pFn T n 0 (pAv T n (pAv T n (pSt 6 row 1 (pNw T n 2 row S)))))))))) (by decide) (by decide) (show row < 8 by omega) (by intro x hx; simp at hx; rcases hx with rfl | rfl <;> exact ⟨by decide, by decide, (show row < 8 by omega)⟩)).no f11 z11 g11).u))
          · skip
            refine we_callV_int (p := 153) (k' := 5) (a := [.ref 95, .ref (sp_S + 19), .int 0, .int 99]) (rr := [.int (nI (27 + 4 * row + 2)), .ref 99]) dX12_womanLine_150 rfl rfl rfl rfl (rc_of rfl rfl (by decide) ⟨rfl, by decide⟩) (Nat.le_of_ble_eq_true rfl) (Nat.le_of_ble_eq_true rfl) (by decide) e10 (Or.inl rfl) rfl ?_
            refine wf_iast (n := 276) (i := (27 + 4 * row + 2)) (p := 154) dX12_womanLine_153 rfl (by decide) (in_nJ (by omega) (by decide)) (nI_cl (by omega)) rfl ?_
            refine we_aload_n (p := 155) dX12_womanLine_154 rfl rfl ?_
            refine we_getR (c := 11) (j := 16) (n := 37) (b := 99) (p := 158) dX12_womanLine_155 rfl rfl (by decide) (by decide) rfl (r_95_16 hF) rfl ?_
            refine we_iload_n (p := 159) dX12_womanLine_158 rfl rfl ?_
            refine we_iconst (v := 3) (p := 160) dX12_womanLine_159 (by decide) rfl ?_
            refine we_iadd (p := 161) dX12_womanLine_160 rfl ?_
            rw [show (nI (27 + 4 * row) + 3 : Int32) = nI (27 + 4 * row + 3) from nI_add (a := 27 + 4 * row) (b := 3)]
            refine we_aload_n (p := 162) dX12_womanLine_161 rfl rfl ?_
            refine we_ldcS (j := 20) (p := 164) dX12_womanLine_162 rfl rfl rfl ?_
            refine we_iconst (v := 0) (p := 165) dX12_womanLine_164 (by decide) rfl ?_
            refine we_bipush (v := 60) (p := 167) dX12_womanLine_165 (by decide) rfl ?_
            refine we_callV_int (p := 170) (k' := 5) (a := [.ref 95, .ref (sp_S + 20), .int 0, .int 60]) (rr := [.int (nI (27 + 4 * row + 3)), .ref 99]) dX12_womanLine_167 rfl rfl rfl rfl (rc_of rfl rfl (by decide) ⟨rfl, by decide⟩) (Nat.le_of_ble_eq_true rfl) (Nat.le_of_ble_eq_true rfl) (by decide) (y_after_f hF (((((lM.fa (S := (pAv T n (pAv T n (pSt 6 row 1 (pNw T n 2 row S))))) ((lM.nt (S := (pAv T n (pNw T n 2 row S))) (lM.nx (S := (pNw T n 2 row S)) (lM.nw hl f1 z1 t1) f7 r7) f8 t8).sr (j := 6) (v := 1) (by decide) (by decide) (show row < 8 by omega) (by intro x hx; simp at hx)) f9 z9 t9).sr (j := 7) (v := nI (zV (pFn T n 0 (pAv T n (pAv T n (pSt 6 row 1 (pNw T n 2 row S))))))) (by decide) (by decide) (show row < 8 by omega) (by intro x hx; simp at hx; subst hx; exact ⟨by decide, by decide, (show row < 8 by omega)⟩)).no f10 z10 g10).u)).2.2.1) (Or.inl rfl) rfl ?_
            refine wf_iast (n := 276) (i := (27 + 4 * row + 3)) (p := 171) dX12_womanLine_170 rfl (by decide) (in_nJ (by omega) (by decide)) (nI_cl (by omega)) rfl ?_
            refine we_aload_n (p := 172) dX12_womanLine_171 rfl rfl ?_
            refine wf_getI (c := 11) (j := 13) (n := 37) (v := 1) (p := 175) dX12_womanLine_172 rfl rfl (by decide) (by decide) (Or.inr rfl) ((((((lM.fa (S := (pAv T n (pAv T n (pSt 6 row 1 (pNw T n 2 row S))))) ((lM.nt (S := (pAv T n (pNw T n 2 row S))) (lM.nx (S := (pNw T n 2 row S)) (lM.nw hl f1 z1 t1) f7 r7) f8 t8).sr (j := 6) (v := 1) (by decide) (by decide) (show row < 8 by omega) (by intro x hx; simp at hx)) f9 z9 t9).sr (j := 7) (v := nI (zV (pFn T n 0 (pAv T n (pAv T n (pSt 6 row 1 (pNw T n 2 row S))))))) (by decide) (by decide) (show row < 8 by omega) (by intro x hx; simp at hx; subst hx; exact ⟨by decide, by decide, (show row < 8 by omega)⟩)).no f10 z10 g10).u).u)).2.2.1 rfl ?_
            refine we_if_ne (t := 188) (p := 178) dX12_womanLine_175 (by decide) rfl rfl (fun hc175 => ?_) (fun hc175 => absurd hc175 (by decide))
            exact wv_ret dX12_womanLine_188 rfl (RmL.no (X := (pTk T n 17 0 99 (pAv T n (pSt 7 row (nI (zV (pFn T n 0 (pAv T n (pAv T n (pSt 6 row 1 (pNw T n 2 row S))))))) (pFn T n 0 (pAv T n (pAv T n (pSt 6 row 1 (pNw T n 2 row S))))))))) ((congrArg (fun z => pB z (pIn 2)) (show pWom T n row S = (pTk T n 17 0 99 (pAv T n (pSt 7 row (nI (zV (pFn T n 0 (pAv T n (pAv T n (pSt 6 row 1 (pNw T n 2 row S))))))) (pFn T n 0 (pAv T n (pAv T n (pSt 6 row 1 (pNw T n 2 row S)))))))) from by
      unfold pWom
      rw [pB_y (S := (pNw T n 2 row S)) z1]
      refine (if_neg (by rw [hk9]; decide)).trans ((if_neg (by rw [hk9]; decide)).trans ?_)
      rw [hk9, show (nI 9 - 8 : Int32) = 1 from rfl]
      unfold pWom2
      rw [if_pos (show tQ T n (zP (pAv T n (pSt 6 row 1 (pNw T n 2 row S)))) = nI 16 from hin), pB_y (S := (pFn T n 0 (pAv T n (pAv T n (pSt 6 row 1 (pNw T n 2 row S)))))) z9, pB_n (S := (pTk T n 17 0 99 (pAv T n (pSt 7 row (nI (zV (pFn T n 0 (pAv T n (pAv T n (pSt 6 row 1 (pNw T n 2 row S))))))) (pFn T n 0 (pAv T n (pAv T n (pSt 6 row 1 (pNw T n 2 row S))))))))) z10])).trans (pB_n (S := (pTk T n 17 0 99 (pAv T n (pSt 7 row (nI (zV (pFn T n 0 (pAv T n (pAv T n (pSt 6 row 1 (pNw T n 2 row S))))))) (pFn T n 0 (pAv T n (pAv T n (pSt 6 row 1 (pNw T n 2 row S))))))))) z10)) (((((lM.fa (S := (pAv T n (pAv T n (pSt 6 row 1 (pNw T n 2 row S))))) ((lM.nt (S := (pAv T n (pNw T n 2 row S))) (lM.nx (S := (pNw T n 2 row S)) (lM.nw hl f1 z1 t1) f7 r7) f8 t8).sr (j := 6) (v := 1) (by decide) (by decide) (show row < 8 by omega) (by intro x hx; simp at hx)) f9 z9 t9).sr (j := 7) (v := nI (zV (pFn T n 0 (pAv T n (pAv T n (pSt 6 row 1 (pNw T n 2 row S))))))) (by decide) (by decide) (show row < 8 by omega) (by intro x hx; simp at hx; subst hx; exact ⟨by decide, by decide, (show row < 8 by omega)⟩)).no f10 z10 g10).u).u))
        · skip
          refine we_callV_int (p := 136) (k' := 6) (a := [.ref 95]) (rr := [.int (nI (27 + 4 * row + 1)), .ref 99]) dX12_womanLine_133 rfl rfl rfl rfl (rc_of rfl rfl (by decide) ⟨rfl, by decide⟩) (Nat.le_of_ble_eq_true rfl) (Nat.le_of_ble_eq_true rfl) (by decide) e9 (Or.inl rfl) rfl ?_
          refine wf_iast (n := 276) (i := (27 + 4 * row + 1)) (p := 137) dX12_womanLine_136 rfl (by decide) (in_nJ (by omega) (by decide)) (nI_cl (by omega)) rfl ?_
          refine we_aload_n (p := 138) dX12_womanLine_137 rfl rfl ?_
          refine we_getR (c := 11) (j := 16) (n := 37) (b := 99) (p := 141) dX12_womanLine_138 rfl rfl (by decide) (by decide) rfl (r_95_16 hF) rfl ?_
          refine we_iload_n (p := 142) dX12_womanLine_141 rfl rfl ?_
          refine we_iconst (v := 2) (p := 143) dX12_womanLine_142 (by decide) rfl ?_
          refine we_iadd (p := 144) dX12_womanLine_143 rfl ?_
          rw [show (nI (27 + 4 * row) + 2 : Int32) = nI (27 + 4 * row + 2) from nI_add (a := 27 + 4 * row) (b := 2)]
          refine we_aload_n (p := 145) dX12_womanLine_144 rfl rfl ?_
          refine we_ldcS (j := 19) (p := 147) dX12_womanLine_145 rfl rfl rfl ?_
          refine we_iconst (v := 0) (p := 148) dX12_womanLine_147 (by decide) rfl ?_
          refine we_bipush (v := 99) (p := 150) dX12_womanLine_148 (by decide) rfl ?_
          refine we_callV_int (p := 153) (k' := 5) (a := [.ref 95, .ref (sp_S + 19), .int 0, .int 99]) (rr := [.int (nI (27 + 4 * row + 2)), .ref 99]) dX12_womanLine_150 rfl rfl rfl rfl (rc_of rfl rfl (by decide) ⟨rfl, by decide⟩) (Nat.le_of_ble_eq_true rfl) (Nat.le_of_ble_eq_true rfl) (by decide) (y_after_f hF (((((lM.nt (S := (pAv T n (pNw T n 2 row S))) (lM.nx (S := (pNw T n 2 row S)) (lM.nw hl f1 z1 t1) f7 r7) f8 t8).sr (j := 6) (v := 1) (by decide) (by decide) (show row < 8 by omega) (by intro x hx; simp at hx)).no f9 z9 g9).u)).2.2.1) (Or.inl rfl) rfl ?_
          refine wf_iast (n := 276) (i := (27 + 4 * row + 2)) (p := 154) dX12_womanLine_153 rfl (by decide) (in_nJ (by omega) (by decide)) (nI_cl (by omega)) rfl ?_
          refine we_aload_n (p := 155) dX12_womanLine_154 rfl rfl ?_
          refine we_getR (c := 11) (j := 16) (n := 37) (b := 99) (p := 158) dX12_womanLine_155 rfl rfl (by decide) (by decide) rfl (r_95_16 hF) rfl ?_
          refine we_iload_n (p := 159) dX12_womanLine_158 rfl rfl ?_
          refine we_iconst (v := 3) (p := 160) dX12_womanLine_159 (by decide) rfl ?_
          refine we_iadd (p := 161) dX12_womanLine_160 rfl ?_
          rw [show (nI (27 + 4 * row) + 3 : Int32) = nI (27 + 4 * row + 3) from nI_add (a := 27 + 4 * row) (b := 3)]
          refine we_aload_n (p := 162) dX12_womanLine_161 rfl rfl ?_
          refine we_ldcS (j := 20) (p := 164) dX12_womanLine_162 rfl rfl rfl ?_
          refine we_iconst (v := 0) (p := 165) dX12_womanLine_164 (by decide) rfl ?_
          refine we_bipush (v := 60) (p := 167) dX12_womanLine_165 (by decide) rfl ?_
          refine we_callV_int (p := 170) (k' := 5) (a := [.ref 95, .ref (sp_S + 20), .int 0, .int 60]) (rr := [.int (nI (27 + 4 * row + 3)), .ref 99]) dX12_womanLine_167 rfl rfl rfl rfl (rc_of rfl rfl (by decide) ⟨rfl, by decide⟩) (Nat.le_of_ble_eq_true rfl) (Nat.le_of_ble_eq_true rfl) (by decide) (y_after_f hF ((((((lM.nt (S := (pAv T n (pNw T n 2 row S))) (lM.nx (S := (pNw T n 2 row S)) (lM.nw hl f1 z1 t1) f7 r7) f8 t8).sr (j := 6) (v := 1) (by decide) (by decide) (show row < 8 by omega) (by intro x hx; simp at hx)).no f9 z9 g9).u).u)).2.2.1) (Or.inl rfl) rfl ?_
          refine wf_iast (n := 276) (i := (27 + 4 * row + 3)) (p := 171) dX12_womanLine_170 rfl (by decide) (in_nJ (by omega) (by decide)) (nI_cl (by omega)) rfl ?_
          refine we_aload_n (p := 172) dX12_womanLine_171 rfl rfl ?_
          refine wf_getI (c := 11) (j := 13) (n := 37) (v := 1) (p := 175) dX12_womanLine_172 rfl rfl (by decide) (by decide) (Or.inr rfl) (((((((lM.nt (S := (pAv T n (pNw T n 2 row S))) (lM.nx (S := (pNw T n 2 row S)) (lM.nw hl f1 z1 t1) f7 r7) f8 t8).sr (j := 6) (v := 1) (by decide) (by decide) (show row < 8 by omega) (by intro x hx; simp at hx)).no f9 z9 g9).u).u).u)).2.2.1 rfl ?_
          refine we_if_ne (t := 188) (p := 178) dX12_womanLine_175 (by decide) rfl rfl (fun hc175 => ?_) (fun hc175 => absurd hc175 (by decide))
          exact wv_ret dX12_womanLine_188 rfl (RmL.no (X := (pFn T n 0 (pAv T n (pAv T n (pSt 6 row 1 (pNw T n 2 row S)))))) ((congrArg (fun z => pB z (pIn 2)) (show pWom T n row S = (pFn T n 0 (pAv T n (pAv T n (pSt 6 row 1 (pNw T n 2 row S))))) from by
      unfold pWom
      rw [pB_y (S := (pNw T n 2 row S)) z1]
      refine (if_neg (by rw [hk9]; decide)).trans ((if_neg (by rw [hk9]; decide)).trans ?_)
      rw [hk9, show (nI 9 - 8 : Int32) = 1 from rfl]
      unfold pWom2
      rw [if_pos (show tQ T n (zP (pAv T n (pSt 6 row 1 (pNw T n 2 row S)))) = nI 16 from hin), pB_n (S := (pFn T n 0 (pAv T n (pAv T n (pSt 6 row 1 (pNw T n 2 row S)))))) z9])).trans (pB_n (S := (pFn T n 0 (pAv T n (pAv T n (pSt 6 row 1 (pNw T n 2 row S)))))) z9)) ((((((lM.nt (S := (pAv T n (pNw T n 2 row S))) (lM.nx (S := (pNw T n 2 row S)) (lM.nw hl f1 z1 t1) f7 r7) f8 t8).sr (j := 6) (v := 1) (by decide) (by decide) (show row < 8 by omega) (by intro x hx; simp at hx)).no f9 z9 g9).u).u).u))
      · skip
        refine we_callV_v (p := 118) (k' := 4) (a := [.ref 95, .ref (sp_S + 18)]) (rr := []) dX12_womanLine_115 rfl rfl rfl rfl (rc_of rfl rfl (by decide) ⟨rfl, by decide⟩) (Nat.le_of_ble_eq_true rfl) (Nat.le_of_ble_eq_true rfl) (by decide) (y_must_n (j := 18) hF (lM.nx (S := (pNw T n 2 row S)) (lM.nw hl f1 z1 t1) f7 r7).2.2.1 (by decide) (by decide) hin) (Or.inl rfl) rfl ?_
        refine we_aload_n (p := 119) dX12_womanLine_118 rfl rfl ?_
        refine we_getR (c := 11) (j := 16) (n := 37) (b := 99) (p := 122) dX12_womanLine_119 rfl rfl (by decide) (by decide) rfl (r_95_16 hF) rfl ?_
        refine we_iload_n (p := 123) dX12_womanLine_122 rfl rfl ?_
        refine we_iload_n (p := 124) dX12_womanLine_123 rfl rfl ?_
        refine wf_iast (n := 276) (i := (27 + 4 * row)) (p := 125) dX12_womanLine_124 rfl (by decide) (in_nJ (by omega) (by decide)) (nI_cl (by omega)) rfl ?_
        refine we_aload_n (p := 126) dX12_womanLine_125 rfl rfl ?_
        refine we_getR (c := 11) (j := 16) (n := 37) (b := 99) (p := 129) dX12_womanLine_126 rfl rfl (by decide) (by decide) rfl (r_95_16 hF) rfl ?_
        refine we_iload_n (p := 130) dX12_womanLine_129 rfl rfl ?_
        refine we_iconst (v := 1) (p := 131) dX12_womanLine_130 (by decide) rfl ?_
        refine we_iadd (p := 132) dX12_womanLine_131 rfl ?_
        rw [show (nI (27 + 4 * row) + 1 : Int32) = nI (27 + 4 * row + 1) from nI_add (a := 27 + 4 * row) (b := 1)]
        refine we_aload_n (p := 133) dX12_womanLine_132 rfl rfl ?_
        refine we_callV_int (p := 136) (k' := 6) (a := [.ref 95]) (rr := [.int (nI (27 + 4 * row + 1)), .ref 99]) dX12_womanLine_133 rfl rfl rfl rfl (rc_of rfl rfl (by decide) ⟨rfl, by decide⟩) (Nat.le_of_ble_eq_true rfl) (Nat.le_of_ble_eq_true rfl) (by decide) (y_harbourPassed_f hF (((fM.eq (X := pFl 1 (pAv T n (pNw T n 2 row S))) (lM.wr (S := (pAv T n (pNw T n 2 row S))) (q := 1) (lM.nx (S := (pNw T n 2 row S)) (lM.nw hl f1 z1 t1) f7 r7) (by decide)) (show zF (pFl 1 (pAv T n (pSt 6 row 1 (pNw T n 2 row S)))) = _ from rfl) rfl).u)).2.2.1) (Or.inl rfl) rfl ?_
        refine wf_iast (n := 276) (i := (27 + 4 * row + 1)) (p := 137) dX12_womanLine_136 rfl (by decide) (in_nJ (by omega) (by decide)) (nI_cl (by omega)) rfl ?_
        refine we_aload_n (p := 138) dX12_womanLine_137 rfl rfl ?_
        refine we_getR (c := 11) (j := 16) (n := 37) (b := 99) (p := 141) dX12_womanLine_138 rfl rfl (by decide) (by decide) rfl (r_95_16 hF) rfl ?_
        refine we_iload_n (p := 142) dX12_womanLine_141 rfl rfl ?_
        refine we_iconst (v := 2) (p := 143) dX12_womanLine_142 (by decide) rfl ?_
        refine we_iadd (p := 144) dX12_womanLine_143 rfl ?_
        rw [show (nI (27 + 4 * row) + 2 : Int32) = nI (27 + 4 * row + 2) from nI_add (a := 27 + 4 * row) (b := 2)]
        refine we_aload_n (p := 145) dX12_womanLine_144 rfl rfl ?_
        refine we_ldcS (j := 19) (p := 147) dX12_womanLine_145 rfl rfl rfl ?_
        refine we_iconst (v := 0) (p := 148) dX12_womanLine_147 (by decide) rfl ?_
        refine we_bipush (v := 99) (p := 150) dX12_womanLine_148 (by decide) rfl ?_
        refine we_callV_int (p := 153) (k' := 5) (a := [.ref 95, .ref (sp_S + 19), .int 0, .int 99]) (rr := [.int (nI (27 + 4 * row + 2)), .ref 99]) dX12_womanLine_150 rfl rfl rfl rfl (rc_of rfl rfl (by decide) ⟨rfl, by decide⟩) (Nat.le_of_ble_eq_true rfl) (Nat.le_of_ble_eq_true rfl) (by decide) (y_after_f hF ((((fM.eq (X := pFl 1 (pAv T n (pNw T n 2 row S))) (lM.wr (S := (pAv T n (pNw T n 2 row S))) (q := 1) (lM.nx (S := (pNw T n 2 row S)) (lM.nw hl f1 z1 t1) f7 r7) (by decide)) (show zF (pFl 1 (pAv T n (pSt 6 row 1 (pNw T n 2 row S)))) = _ from rfl) rfl).u).u)).2.2.1) (Or.inl rfl) rfl ?_
        refine wf_iast (n := 276) (i := (27 + 4 * row + 2)) (p := 154) dX12_womanLine_153 rfl (by decide) (in_nJ (by omega) (by decide)) (nI_cl (by omega)) rfl ?_
        refine we_aload_n (p := 155) dX12_womanLine_154 rfl rfl ?_
        refine we_getR (c := 11) (j := 16) (n := 37) (b := 99) (p := 158) dX12_womanLine_155 rfl rfl (by decide) (by decide) rfl (r_95_16 hF) rfl ?_
        refine we_iload_n (p := 159) dX12_womanLine_158 rfl rfl ?_
        refine we_iconst (v := 3) (p := 160) dX12_womanLine_159 (by decide) rfl ?_
        refine we_iadd (p := 161) dX12_womanLine_160 rfl ?_
        rw [show (nI (27 + 4 * row) + 3 : Int32) = nI (27 + 4 * row + 3) from nI_add (a := 27 + 4 * row) (b := 3)]
        refine we_aload_n (p := 162) dX12_womanLine_161 rfl rfl ?_
        refine we_ldcS (j := 20) (p := 164) dX12_womanLine_162 rfl rfl rfl ?_
        refine we_iconst (v := 0) (p := 165) dX12_womanLine_164 (by decide) rfl ?_
        refine we_bipush (v := 60) (p := 167) dX12_womanLine_165 (by decide) rfl ?_
        refine we_callV_int (p := 170) (k' := 5) (a := [.ref 95, .ref (sp_S + 20), .int 0, .int 60]) (rr := [.int (nI (27 + 4 * row + 3)), .ref 99]) dX12_womanLine_167 rfl rfl rfl rfl (rc_of rfl rfl (by decide) ⟨rfl, by decide⟩) (Nat.le_of_ble_eq_true rfl) (Nat.le_of_ble_eq_true rfl) (by decide) (y_after_f hF (((((fM.eq (X := pFl 1 (pAv T n (pNw T n 2 row S))) (lM.wr (S := (pAv T n (pNw T n 2 row S))) (q := 1) (lM.nx (S := (pNw T n 2 row S)) (lM.nw hl f1 z1 t1) f7 r7) (by decide)) (show zF (pFl 1 (pAv T n (pSt 6 row 1 (pNw T n 2 row S)))) = _ from rfl) rfl).u).u).u)).2.2.1) (Or.inl rfl) rfl ?_
        refine wf_iast (n := 276) (i := (27 + 4 * row + 3)) (p := 171) dX12_womanLine_170 rfl (by decide) (in_nJ (by omega) (by decide)) (nI_cl (by omega)) rfl ?_
        refine we_aload_n (p := 172) dX12_womanLine_171 rfl rfl ?_
        refine wf_getI (c := 11) (j := 13) (n := 37) (v := 1) (p := 175) dX12_womanLine_172 rfl rfl (by decide) (by decide) (Or.inr rfl) ((((((fM.eq (X := pFl 1 (pAv T n (pNw T n 2 row S))) (lM.wr (S := (pAv T n (pNw T n 2 row S))) (q := 1) (lM.nx (S := (pNw T n 2 row S)) (lM.nw hl f1 z1 t1) f7 r7) (by decide)) (show zF (pFl 1 (pAv T n (pSt 6 row 1 (pNw T n 2 row S)))) = _ from rfl) rfl).u).u).u).u)).2.2.1 rfl ?_
        refine we_if_ne (t := 188) (p := 178) dX12_womanLine_175 (by decide) rfl rfl (fun hc175 => ?_) (fun hc175 => absurd hc175 (by decide))
        exact wv_ret dX12_womanLine_188 rfl (RmL.no (X := (pFl 1 (pAv T n (pSt 6 row 1 (pNw T n 2 row S))))) ((congrArg (fun z => pB z (pIn 2)) (show pWom T n row S = (pFl 1 (pAv T n (pSt 6 row 1 (pNw T n 2 row S)))) from by
      unfold pWom
      rw [pB_y (S := (pNw T n 2 row S)) z1]
      refine (if_neg (by rw [hk9]; decide)).trans ((if_neg (by rw [hk9]; decide)).trans ?_)
      rw [hk9, show (nI 9 - 8 : Int32) = 1 from rfl]
      unfold pWom2
      rw [if_neg (show ¬ tQ T n (zP (pAv T n (pSt 6 row 1 (pNw T n 2 row S)))) = nI 16 from hin)])).trans (pB_n (S := (pFl 1 (pAv T n (pSt 6 row 1 (pNw T n 2 row S))))) (show ¬ (1 : Nat) = 0 by decide))) (((((fM.eq (X := pFl 1 (pAv T n (pNw T n 2 row S))) (lM.wr (S := (pAv T n (pNw T n 2 row S))) (q := 1) (lM.nx (S := (pNw T n 2 row S)) (lM.nw hl f1 z1 t1) f7 r7) (by decide)) (show zF (pFl 1 (pAv T n (pSt 6 row 1 (pNw T n 2 row S)))) = _ from rfl) rfl).u).u).u).u))
    by_cases hk10 : tQ T n (zP (pNw T n 2 row S)) = nI 10
    · skip
      refine we_aload_n (p := 34) dX12_womanLine_33 rfl rfl ?_
      refine we_ldcS (j := 14) (p := 36) dX12_womanLine_34 rfl rfl rfl ?_
      refine we_callV_int (p := 39) (k' := 2) (a := [.ref 95, .ref (sp_S + 14)]) (rr := []) dX12_womanLine_36 rfl rfl rfl rfl (rc_of rfl rfl (by decide) ⟨rfl, by decide⟩) (Nat.le_of_ble_eq_true rfl) (Nat.le_of_ble_eq_true rfl) (by decide) (Ev.i (if_neg (by rw [hk10]; decide)) (y_isWord (j := 14) hF (lM.nw hl f1 z1 t1).2.2.1 (by decide) (by decide))) (Or.inl rfl) rfl ?_
      refine we_if_eq (t := 46) (p := 42) dX12_womanLine_39 (by decide) rfl rfl (fun hc39 => ?_) (fun hc39 => absurd (by decide) hc39)
      refine we_aload_n (p := 47) dX12_womanLine_46 rfl rfl ?_
      refine we_ldcS (j := 15) (p := 49) dX12_womanLine_47 rfl rfl rfl ?_
      refine we_callV_int (p := 52) (k' := 2) (a := [.ref 95, .ref (sp_S + 15)]) (rr := []) dX12_womanLine_49 rfl rfl rfl rfl (rc_of rfl rfl (by decide) ⟨rfl, by decide⟩) (Nat.le_of_ble_eq_true rfl) (Nat.le_of_ble_eq_true rfl) (by decide) (Ev.i (if_neg (by rw [hk10]; decide)) (y_isWord (j := 15) hF (lM.nw hl f1 z1 t1).2.2.1 (by decide) (by decide))) (Or.inl rfl) rfl ?_
      refine we_if_eq (t := 59) (p := 55) dX12_womanLine_52 (by decide) rfl rfl (fun hc52 => ?_) (fun hc52 => absurd (by decide) hc52)
      refine we_aload_n (p := 60) dX12_womanLine_59 rfl rfl ?_
      refine we_ldcS (j := 16) (p := 62) dX12_womanLine_60 rfl rfl rfl ?_
      refine we_callV_int (p := 65) (k' := 2) (a := [.ref 95, .ref (sp_S + 16)]) (rr := []) dX12_womanLine_62 rfl rfl rfl rfl (rc_of rfl rfl (by decide) ⟨rfl, by decide⟩) (Nat.le_of_ble_eq_true rfl) (Nat.le_of_ble_eq_true rfl) (by decide) (Ev.i (if_pos hk10) (y_isWord (j := 16) hF (lM.nw hl f1 z1 t1).2.2.1 (by decide) (by decide))) (Or.inl rfl) rfl ?_
      refine we_if_eq (t := 72) (p := 68) dX12_womanLine_65 (by decide) rfl rfl (fun hc65 => absurd hc65 (by decide)) (fun hc65 => ?_)
      refine we_iconst (v := 2) (p := 69) dX12_womanLine_68 (by decide) rfl ?_
      refine we_goto (p := 86) dX12_womanLine_69 (by decide) rfl ?_
      refine we_istore_n (ls1 := [.ref 95, .int (nI (27 + 4 * row)), .int 2]) (p := 87) dX12_womanLine_86 rfl rfl ?_
      refine we_iload_n (p := 88) dX12_womanLine_87 rfl rfl ?_
      refine we_if_ge (t := 100) (p := 91) dX12_womanLine_88 (by decide) rfl rfl (fun hc88 => ?_) (fun hc88 => absurd (by decide) hc88)
      refine we_aload_n (p := 101) dX12_womanLine_100 rfl rfl ?_
      refine wf_getI (c := 11) (j := 13) (n := 37) (v := 0) (p := 104) dX12_womanLine_101 rfl rfl (by decide) (by decide) (Or.inr rfl) (lM.nw hl f1 z1 t1).2.2.1.2.2.2.1 rfl ?_
      refine we_if_eq (t := 108) (p := 107) dX12_womanLine_104 (by decide) rfl rfl (fun hc104 => ?_) (fun hc104 => absurd (by decide) hc104)
      refine we_aload_n (p := 109) dX12_womanLine_108 rfl rfl ?_
      obtain ⟨_, _, e12, rfl, I12, J12, F12, rfl, rfl, rfl, f12, r12⟩ := y_next hF (lM.nw hl f1 z1 t1).2.2.1.1 (tE_le (lM.nw hl f1 z1 t1).2.2.1.2.1).1 (lM.nw hl f1 z1 t1).2.2.1.2.2.1.2.1
      refine we_callV_v (p := 112) (k' := 1) (a := [.ref 95]) (rr := []) dX12_womanLine_109 rfl rfl rfl rfl (rc_of rfl rfl (by decide) ⟨rfl, by decide⟩) (Nat.le_of_ble_eq_true rfl) (Nat.le_of_ble_eq_true rfl) (by decide) e12 (Or.inl rfl) rfl ?_
      refine we_aload_n (p := 113) dX12_womanLine_112 rfl rfl ?_
      refine we_ldcS (j := 18) (p := 115) dX12_womanLine_113 rfl rfl rfl ?_
      by_cases hin : tQ T n (zP (pAv T n (pNw T n 2 row S))) = nI 16
      · skip
        obtain ⟨_, _, e13, rfl, I13, J13, F13, rfl, rfl, rfl, f13, t13⟩ := y_must (j := 18) hF (lM.nx (S := (pNw T n 2 row S)) (lM.nw hl f1 z1 t1) f12 r12).2.2.1 (by decide) (by decide) hin
        refine we_callV_v (p := 118) (k' := 4) (a := [.ref 95, .ref (sp_S + 18)]) (rr := []) dX12_womanLine_115 rfl rfl rfl rfl (rc_of rfl rfl (by decide) ⟨rfl, by decide⟩) (Nat.le_of_ble_eq_true rfl) (Nat.le_of_ble_eq_true rfl) (by decide) e13 (Or.inl rfl) rfl ?_
        refine we_aload_n (p := 119) dX12_womanLine_118 rfl rfl ?_
        refine we_getR (c := 11) (j := 16) (n := 37) (b := 99) (p := 122) dX12_womanLine_119 rfl rfl (by decide) (by decide) rfl (r_95_16 hF) rfl ?_
        refine we_iload_n (p := 123) dX12_womanLine_122 rfl rfl ?_
        refine we_iload_n (p := 124) dX12_womanLine_123 rfl rfl ?_
        refine wf_iast (n := 276) (i := (27 + 4 * row)) (p := 125) dX12_womanLine_124 rfl (by decide) (in_nJ (by omega) (by decide)) (nI_cl (by omega)) rfl ?_
        refine we_aload_n (p := 126) dX12_womanLine_125 rfl rfl ?_
        refine we_getR (c := 11) (j := 16) (n := 37) (b := 99) (p := 129) dX12_womanLine_126 rfl rfl (by decide) (by decide) rfl (r_95_16 hF) rfl ?_
        refine we_iload_n (p := 130) dX12_womanLine_129 rfl rfl ?_
        refine we_iconst (v := 1) (p := 131) dX12_womanLine_130 (by decide) rfl ?_
        refine we_iadd (p := 132) dX12_womanLine_131 rfl ?_
        rw [show (nI (27 + 4 * row) + 1 : Int32) = nI (27 + 4 * row + 1) from nI_add (a := 27 + 4 * row) (b := 1)]
        refine we_aload_n (p := 133) dX12_womanLine_132 rfl rfl ?_
        obtain ⟨_, _, e14, I14, rfl, f14, ⟨z14, rfl, t14⟩ | ⟨z14, rfl, g14⟩⟩ := y_harbourPassed (S := (pAv T n (pAv T n (pSt 6 row 2 (pNw T n 2 row S))))) hF ((lM.nt (S := (pAv T n (pNw T n 2 row S))) (lM.nx (S := (pNw T n 2 row S)) (lM.nw hl f1 z1 t1) f12 r12) f13 t13).sr (j := 6) (v := 2) (by decide) (by decide) (show row < 8 by omega) (by intro x hx; simp at hx)).2.2.1 ((lM.nt (S := (pAv T n (pNw T n 2 row S))) (lM.nx (S := (pNw T n 2 row S)) (lM.nw hl f1 z1 t1) f12 r12) f13 t13).sr (j := 6) (v := 2) (by decide) (by decide) (show row < 8 by omega) (by intro x hx; simp at hx)).2.1 ((lM.nt (S := (pAv T n (pNw T n 2 row S))) (lM.nx (S := (pNw T n 2 row S)) (lM.nw hl f1 z1 t1) f12 r12) f13 t13).sr (j := 6) (v := 2) (by decide) (by decide) (show row < 8 by omega) (by intro x hx; simp at hx)).2.2.2.1
        · skip
          refine we_callV_int (p := 136) (k' := 6) (a := [.ref 95]) (rr := [.int (nI (27 + 4 * row + 1)), .ref 99]) dX12_womanLine_133 rfl rfl rfl rfl (rc_of rfl rfl (by decide) ⟨rfl, by decide⟩) (Nat.le_of_ble_eq_true rfl) (Nat.le_of_ble_eq_true rfl) (by decide) e14 (Or.inl rfl) rfl ?_
          refine wf_iast (n := 276) (i := (27 + 4 * row + 1)) (p := 137) dX12_womanLine_136 rfl (by decide) (in_nJ (by omega) (by decide)) (nI_cl (by omega)) rfl ?_
          refine we_aload_n (p := 138) dX12_womanLine_137 rfl rfl ?_
          refine we_getR (c := 11) (j := 16) (n := 37) (b := 99) (p := 141) dX12_womanLine_138 rfl rfl (by decide) (by decide) rfl (r_95_16 hF) rfl ?_
          refine we_iload_n (p := 142) dX12_womanLine_141 rfl rfl ?_
          refine we_iconst (v := 2) (p := 143) dX12_womanLine_142 (by decide) rfl ?_
          refine we_iadd (p := 144) dX12_womanLine_143 rfl ?_
          rw [show (nI (27 + 4 * row) + 2 : Int32) = nI (27 + 4 * row + 2) from nI_add (a := 27 + 4 * row) (b := 2)]
          refine we_aload_n (p := 145) dX12_womanLine_144 rfl rfl ?_
          refine we_ldcS (j := 19) (p := 147) dX12_womanLine_145 rfl rfl rfl ?_
          refine we_iconst (v := 0) (p := 148) dX12_womanLine_147 (by decide) rfl ?_
          refine we_bipush (v := 99) (p := 150) dX12_womanLine_148 (by decide) rfl ?_
          obtain ⟨_, _, e15, I15, rfl, f15, ⟨z15, rfl, t15⟩ | ⟨z15, rfl, g15⟩⟩ := y_afterW (S := (pAv T n (pSt 7 row (nI (zV (pFn T n 0 (pAv T n (pAv T n (pSt 6 row 2 (pNw T n 2 row S))))))) (pFn T n 0 (pAv T n (pAv T n (pSt 6 row 2 (pNw T n 2 row S)))))))) (j := 19) (w := 17) (lo := 0) (hi := 99) rfl hF ((lM.fa (S := (pAv T n (pAv T n (pSt 6 row 2 (pNw T n 2 row S))))) ((lM.nt (S := (pAv T n (pNw T n 2 row S))) (lM.nx (S := (pNw T n 2 row S)) (lM.nw hl f1 z1 t1) f12 r12) f13 t13).sr (j := 6) (v := 2) (by decide) (by decide) (show row < 8 by omega) (by intro x hx; simp at hx)) f14 z14 t14).sr (j := 7) (v := nI (zV (pFn T n 0 (pAv T n (pAv T n (pSt 6 row 2 (pNw T n 2 row S))))))) (by decide) (by decide) (show row < 8 by omega) (by intro x hx; simp at hx; subst hx; exact ⟨by decide, by decide, (show row < 8 by omega)⟩)).2.2.1 ((lM.fa (S := (pAv T n (pAv T n (pSt 6 row 2 (pNw T n 2 row S))))) ((lM.nt (S := (pAv T n (pNw T n 2 row S))) (lM.nx (S := (pNw T n 2 row S)) (lM.nw hl f1 z1 t1) f12 r12) f13 t13).sr (j := 6) (v := 2) (by decide) (by decide) (show row < 8 by omega) (by intro x hx; simp at hx)) f14 z14 t14).sr (j := 7) (v := nI (zV (pFn T n 0 (pAv T n (pAv T n (pSt 6 row 2 (pNw T n 2 row S))))))) (by decide) (by decide) (show row < 8 by omega) (by intro x hx; simp at hx; subst hx; exact ⟨by decide, by decide, (show row < 8 by omega)⟩)).2.1 (by decide) (by decide) (by decide) (by decide)
          · skip
            refine we_callV_int (p := 153) (k' := 5) (a := [.ref 95, .ref (sp_S + 19), .int 0, .int 99]) (rr := [.int (nI (27 + 4 * row + 2)), .ref 99]) dX12_womanLine_150 rfl rfl rfl rfl (rc_of rfl rfl (by decide) ⟨rfl, by decide⟩) (Nat.le_of_ble_eq_true rfl) (Nat.le_of_ble_eq_true rfl) (by decide) e15 (Or.inl rfl) rfl ?_
            refine wf_iast (n := 276) (i := (27 + 4 * row + 2)) (p := 154) dX12_womanLine_153 rfl (by decide) (in_nJ (by omega) (by decide)) (nI_cl (by omega)) rfl ?_
            refine we_aload_n (p := 155) dX12_womanLine_154 rfl rfl ?_
            refine we_getR (c := 11) (j := 16) (n := 37) (b := 99) (p := 158) dX12_womanLine_155 rfl rfl (by decide) (by decide) rfl (r_95_16 hF) rfl ?_
            refine we_iload_n (p := 159) dX12_womanLine_158 rfl rfl ?_
            refine we_iconst (v := 3) (p := 160) dX12_womanLine_159 (by decide) rfl ?_
            refine we_iadd (p := 161) dX12_womanLine_160 rfl ?_
            rw [show (nI (27 + 4 * row) + 3 : Int32) = nI (27 + 4 * row + 3) from nI_add (a := 27 + 4 * row) (b := 3)]
            refine we_aload_n (p := 162) dX12_womanLine_161 rfl rfl ?_
            refine we_ldcS (j := 20) (p := 164) dX12_womanLine_162 rfl rfl rfl ?_
            refine we_iconst (v := 0) (p := 165) dX12_womanLine_164 (by decide) rfl ?_
            refine we_bipush (v := 60) (p := 167) dX12_womanLine_165 (by decide) rfl ?_
            obtain ⟨_, _, e16, I16, rfl, f16, ⟨z16, rfl, t16⟩ | ⟨z16, rfl, g16⟩⟩ := y_afterW (S := (pSt 8 row (nI (zV (pTk T n 17 0 99 (pAv T n (pSt 7 row (nI (zV (pFn T n 0 (pAv T n (pAv T n (pSt 6 row 2 (pNw T n 2 row S))))))) (pFn T n 0 (pAv T n (pAv T n (pSt 6 row 2 (pNw T n 2 row S)))))))))) (pTk T n 17 0 99 (pAv T n (pSt 7 row (nI (zV (pFn T n 0 (pAv T n (pAv T n (pSt 6 row 2 (pNw T n 2 row S))))))) (pFn T n 0 (pAv T n (pAv T n (pSt 6 row 2 (pNw T n 2 row S)))))))))) (j := 20) (w := 18) (lo := 0) (hi := 60) rfl hF ((lM.tk (S := (pAv T n (pSt 7 row (nI (zV (pFn T n 0 (pAv T n (pAv T n (pSt 6 row 2 (pNw T n 2 row S))))))) (pFn T n 0 (pAv T n (pAv T n (pSt 6 row 2 (pNw T n 2 row S)))))))) ((lM.fa (S := (pAv T n (pAv T n (pSt 6 row 2 (pNw T n 2 row S))))) ((lM.nt (S := (pAv T n (pNw T n 2 row S))) (lM.nx (S := (pNw T n 2 row S)) (lM.nw hl f1 z1 t1) f12 r12) f13 t13).sr (j := 6) (v := 2) (by decide) (by decide) (show row < 8 by omega) (by intro x hx; simp at hx)) f14 z14 t14).sr (j := 7) (v := nI (zV (pFn T n 0 (pAv T n (pAv T n (pSt 6 row 2 (pNw T n 2 row S))))))) (by decide) (by decide) (show row < 8 by omega) (by intro x hx; simp at hx; subst hx; exact ⟨by decide, by decide, (show row < 8 by omega)⟩)) f15 z15 t15).sr (j := 8) (v := nI (zV (pTk T n 17 0 99 (pAv T n (pSt 7 row (nI (zV (pFn T n 0 (pAv T n (pAv T n (pSt 6 row 2 (pNw T n 2 row S))))))) (pFn T n 0 (pAv T n (pAv T n (pSt 6 row 2 (pNw T n 2 row S)))))))))) (by decide) (by decide) (show row < 8 by omega) (by intro x hx; simp at hx; rcases hx with rfl | rfl <;> exact ⟨by decide, by decide, (show row < 8 by omega)⟩)).2.2.1 ((lM.tk (S := (pAv T n (pSt 7 row (nI (zV (pFn T n 0 (pAv T n (pAv T n (pSt 6 row 2 (pNw T n 2 row S))))))) (pFn T n 0 (pAv T n (pAv T n (pSt 6 row 2 (pNw T n 2 row S)))))))) ((lM.fa (S := (pAv T n (pAv T n (pSt 6 row 2 (pNw T n 2 row S))))) ((lM.nt (S := (pAv T n (pNw T n 2 row S))) (lM.nx (S := (pNw T n 2 row S)) (lM.nw hl f1 z1 t1) f12 r12) f13 t13).sr (j := 6) (v := 2) (by decide) (by decide) (show row < 8 by omega) (by intro x hx; simp at hx)) f14 z14 t14).sr (j := 7) (v := nI (zV (pFn T n 0 (pAv T n (pAv T n (pSt 6 row 2 (pNw T n 2 row S))))))) (by decide) (by decide) (show row < 8 by omega) (by intro x hx; simp at hx; subst hx; exact ⟨by decide, by decide, (show row < 8 by omega)⟩)) f15 z15 t15).sr (j := 8) (v := nI (zV (pTk T n 17 0 99 (pAv T n (pSt 7 row (nI (zV (pFn T n 0 (pAv T n (pAv T n (pSt 6 row 2 (pNw T n 2 row S))))))) (pFn T n 0 (pAv T n (pAv T n (pSt 6 row 2 (pNw T n 2 row S)))))))))) (by decide) (by decide) (show row < 8 by omega) (by intro x hx; simp at hx; rcases hx with rfl | rfl <;> exact ⟨by decide, by decide, (show row < 8 by omega)⟩)).2.1 (by decide) (by decide) (by decide) (by decide)
            · skip
              refine we_callV_int (p := 170) (k' := 5) (a := [.ref 95, .ref (sp_S + 20), .int 0, .int 60]) (rr := [.int (nI (27 + 4 * row + 3)), .ref 99]) dX12_womanLine_167 rfl rfl rfl rfl (rc_of rfl rfl (by decide) ⟨rfl, by decide⟩) (Nat.le_of_ble_eq_true rfl) (Nat.le_of_ble_eq_true rfl) (by decide) e16 (Or.inl rfl) rfl ?_
              refine wf_iast (n := 276) (i := (27 + 4 * row + 3)) (p := 171) dX12_womanLine_170 rfl (by decide) (in_nJ (by omega) (by decide)) (nI_cl (by omega)) rfl ?_
              refine we_aload_n (p := 172) dX12_womanLine_171 rfl rfl ?_
              refine wf_getI (c := 11) (j := 13) (n := 37) (v := 0) (p := 175) dX12_womanLine_172 rfl rfl (by decide) (by decide) (Or.inr rfl) ((lM.tk (S := (pSt 8 row (nI (zV (pTk T n 17 0 99 (pAv T n (pSt 7 row (nI (zV (pFn T n 0 (pAv T n (pAv T n (pSt 6 row 2 (pNw T n 2 row S))))))) (pFn T n 0 (pAv T n (pAv T n (pSt 6 row 2 (pNw T n 2 row S)))))))))) (pTk T n 17 0 99 (pAv T n (pSt 7 row (nI (zV (pFn T n 0 (pAv T n (pAv T n (pSt 6 row 2 (pNw T n 2 row S))))))) (pFn T n 0 (pAv T n (pAv T n (pSt 6 row 2 (pNw T n 2 row S)))))))))) ((lM.tk (S := (pAv T n (pSt 7 row (nI (zV (pFn T n 0 (pAv T n (pAv T n (pSt 6 row 2 (pNw T n 2 row S))))))) (pFn T n 0 (pAv T n (pAv T n (pSt 6 row 2 (pNw T n 2 row S)))))))) ((lM.fa (S := (pAv T n (pAv T n (pSt 6 row 2 (pNw T n 2 row S))))) ((lM.nt (S := (pAv T n (pNw T n 2 row S))) (lM.nx (S := (pNw T n 2 row S)) (lM.nw hl f1 z1 t1) f12 r12) f13 t13).sr (j := 6) (v := 2) (by decide) (by decide) (show row < 8 by omega) (by intro x hx; simp at hx)) f14 z14 t14).sr (j := 7) (v := nI (zV (pFn T n 0 (pAv T n (pAv T n (pSt 6 row 2 (pNw T n 2 row S))))))) (by decide) (by decide) (show row < 8 by omega) (by intro x hx; simp at hx; subst hx; exact ⟨by decide, by decide, (show row < 8 by omega)⟩)) f15 z15 t15).sr (j := 8) (v := nI (zV (pTk T n 17 0 99 (pAv T n (pSt 7 row (nI (zV (pFn T n 0 (pAv T n (pAv T n (pSt 6 row 2 (pNw T n 2 row S))))))) (pFn T n 0 (pAv T n (pAv T n (pSt 6 row 2 (pNw T n 2 row S)))))))))) (by decide) (by decide) (show row < 8 by omega) (by intro x hx; simp at hx; rcases hx with rfl | rfl <;> exact ⟨by decide, by decide, (show row < 8 by omega)⟩)) f16 z16 t16).sr (j := 9) (v := nI (zV (pTk T n 18 0 60 (pSt 8 row (nI (zV (pTk T n 17 0 99 (pAv T n (pSt 7 row (nI (zV (pFn T n 0 (pAv T n (pAv T n (pSt 6 row 2 (pNw T n 2 row S))))))) (pFn T n 0 (pAv T n (pAv T n (pSt 6 row 2 (pNw T n 2 row S)))))))))) (pTk T n 17 0 99 (pAv T n (pSt 7 row (nI (zV (pFn T n 0 (pAv T n (pAv T n (pSt 6 row 2 (pNw T n 2 row S))))))) (pFn T n 0 (pAv T n (pAv T n (pSt 6 row 2 (pNw T n 2 row S)))))))))))) (by decide) (by decide) (show row < 8 by omega) (by intro x hx; simp at hx; rcases hx with rfl | rfl | rfl <;> exact ⟨by decide, by decide, (show row < 8 by omega)⟩)).2.2.1.2.2.2.1 rfl ?_
              refine we_if_ne (t := 188) (p := 178) dX12_womanLine_175 (by decide) rfl rfl (fun hc175 => absurd (by decide) hc175) (fun hc175 => ?_)
              refine we_aload_n (p := 179) dX12_womanLine_178 rfl rfl ?_
              refine we_getR (c := 11) (j := 16) (n := 37) (b := 99) (p := 182) dX12_womanLine_179 rfl rfl (by decide) (by decide) rfl (r_95_16 hF) rfl ?_
              refine we_iconst (v := 4) (p := 183) dX12_womanLine_182 (by decide) rfl ?_
              refine we_dup2 (p := 184) dX12_womanLine_183 rfl ?_
              refine wf_iald (n := 276) (i := 4) (v := nI row) (p := 185) dX12_womanLine_184 rfl (by decide) (by decide) (by decide) (((lM.tk (S := (pSt 8 row (nI (zV (pTk T n 17 0 99 (pAv T n (pSt 7 row (nI (zV (pFn T n 0 (pAv T n (pAv T n (pSt 6 row 2 (pNw T n 2 row S))))))) (pFn T n 0 (pAv T n (pAv T n (pSt 6 row 2 (pNw T n 2 row S)))))))))) (pTk T n 17 0 99 (pAv T n (pSt 7 row (nI (zV (pFn T n 0 (pAv T n (pAv T n (pSt 6 row 2 (pNw T n 2 row S))))))) (pFn T n 0 (pAv T n (pAv T n (pSt 6 row 2 (pNw T n 2 row S)))))))))) ((lM.tk (S := (pAv T n (pSt 7 row (nI (zV (pFn T n 0 (pAv T n (pAv T n (pSt 6 row 2 (pNw T n 2 row S))))))) (pFn T n 0 (pAv T n (pAv T n (pSt 6 row 2 (pNw T n 2 row S)))))))) ((lM.fa (S := (pAv T n (pAv T n (pSt 6 row 2 (pNw T n 2 row S))))) ((lM.nt (S := (pAv T n (pNw T n 2 row S))) (lM.nx (S := (pNw T n 2 row S)) (lM.nw hl f1 z1 t1) f12 r12) f13 t13).sr (j := 6) (v := 2) (by decide) (by decide) (show row < 8 by omega) (by intro x hx; simp at hx)) f14 z14 t14).sr (j := 7) (v := nI (zV (pFn T n 0 (pAv T n (pAv T n (pSt 6 row 2 (pNw T n 2 row S))))))) (by decide) (by decide) (show row < 8 by omega) (by intro x hx; simp at hx; subst hx; exact ⟨by decide, by decide, (show row < 8 by omega)⟩)) f15 z15 t15).sr (j := 8) (v := nI (zV (pTk T n 17 0 99 (pAv T n (pSt 7 row (nI (zV (pFn T n 0 (pAv T n (pAv T n (pSt 6 row 2 (pNw T n 2 row S))))))) (pFn T n 0 (pAv T n (pAv T n (pSt 6 row 2 (pNw T n 2 row S)))))))))) (by decide) (by decide) (show row < 8 by omega) (by intro x hx; simp at hx; rcases hx with rfl | rfl <;> exact ⟨by decide, by decide, (show row < 8 by omega)⟩)) f16 z16 t16).sr (j := 9) (v := nI (zV (pTk T n 18 0 60 (pSt 8 row (nI (zV (pTk T n 17 0 99 (pAv T n (pSt 7 row (nI (zV (pFn T n 0 (pAv T n (pAv T n (pSt 6 row 2 (pNw T n 2 row S))))))) (pFn T n 0 (pAv T n (pAv T n (pSt 6 row 2 (pNw T n 2 row S)))))))))) (pTk T n 17 0 99 (pAv T n (pSt 7 row (nI (zV (pFn T n 0 (pAv T n (pAv T n (pSt 6 row 2 (pNw T n 2 row S))))))) (pFn T n 0 (pAv T n (pAv T n (pSt 6 row 2 (pNw T n 2 row S)))))))))))) (by decide) (by decide) (show row < 8 by omega) (by intro x hx; simp at hx; rcases hx with rfl | rfl | rfl <;> exact ⟨by decide, by decide, (show row < 8 by omega)⟩)).cnt (by decide)) rfl ?_
              refine we_iconst (v := 1) (p := 186) dX12_womanLine_185 (by decide) rfl ?_
              refine we_iadd (p := 187) dX12_womanLine_186 rfl ?_
              rw [nI_1]
              refine wf_iast (n := 276) (i := 4) (p := 188) dX12_womanLine_187 rfl (by decide) (by decide) (by decide) rfl ?_
              exact wv_ret dX12_womanLine_188 rfl (RmL.ok (S := (pSt 9 row (nI (zV (pTk T n 18 0 60 (pSt 8 row (nI (zV (pTk T n 17 0 99 (pAv T n (pSt 7 row (nI (zV (pFn T n 0 (pAv T n (pAv T n (pSt 6 row 2 (pNw T n 2 row S))))))) (pFn T n 0 (pAv T n (pAv T n (pSt 6 row 2 (pNw T n 2 row S)))))))))) (pTk T n 17 0 99 (pAv T n (pSt 7 row (nI (zV (pFn T n 0 (pAv T n (pAv T n (pSt 6 row 2 (pNw T n 2 row S))))))) (pFn T n 0 (pAv T n (pAv T n (pSt 6 row 2 (pNw T n 2 row S)))))))))))) (pTk T n 18 0 60 (pSt 8 row (nI (zV (pTk T n 17 0 99 (pAv T n (pSt 7 row (nI (zV (pFn T n 0 (pAv T n (pAv T n (pSt 6 row 2 (pNw T n 2 row S))))))) (pFn T n 0 (pAv T n (pAv T n (pSt 6 row 2 (pNw T n 2 row S)))))))))) (pTk T n 17 0 99 (pAv T n (pSt 7 row (nI (zV (pFn T n 0 (pAv T n (pAv T n (pSt 6 row 2 (pNw T n 2 row S))))))) (pFn T n 0 (pAv T n (pAv T n (pSt 6 row 2 (pNw T n 2 row S)))))))))))) ((congrArg (fun z => pB z (pIn 2)) (show pWom T n row S = (pSt 9 row (nI (zV (pTk T n 18 0 60 (pSt 8 row (nI (zV (pTk T n 17 0 99 (pAv T n (pSt 7 row (nI (zV (pFn T n 0 (pAv T n (pAv T n (pSt 6 row 2 (pNw T n 2 row S))))))) (pFn T n 0 (pAv T n (pAv T n (pSt 6 row 2 (pNw T n 2 row S)))))))))) (pTk T n 17 0 99 (pAv T n (pSt 7 row (nI (zV (pFn T n 0 (pAv T n (pAv T n (pSt 6 row 2 (pNw T n 2 row S))))))) (pFn T n 0 (pAv T n (pAv T n (pSt 6 row 2 (pNw T n 2 row S)))))))))))) (pTk T n 18 0 60 (pSt 8 row (nI (zV (pTk T n 17 0 99 (pAv T n (pSt 7 row (nI (zV (pFn T n 0 (pAv T n (pAv T n (pSt 6 row 2 (pNw T n 2 row S))))))) (pFn T n 0 (pAv T n (pAv T n (pSt 6 row 2 (pNw T n 2 row S)))))))))) (pTk T n 17 0 99 (pAv T n (pSt 7 row (nI (zV (pFn T n 0 (pAv T n (pAv T n (pSt 6 row 2 (pNw T n 2 row S))))))) (pFn T n 0 (pAv T n (pAv T n (pSt 6 row 2 (pNw T n 2 row S))))))))))) from by
      unfold pWom
      rw [pB_y (S := (pNw T n 2 row S)) z1]
      refine (if_neg (by rw [hk10]; decide)).trans ((if_neg (by rw [hk10]; decide)).trans ?_)
      rw [hk10, show (nI 10 - 8 : Int32) = 2 from rfl]
      unfold pWom2
      rw [if_pos (show tQ T n (zP (pAv T n (pSt 6 row 2 (pNw T n 2 row S)))) = nI 16 from hin), pB_y (S := (pFn T n 0 (pAv T n (pAv T n (pSt 6 row 2 (pNw T n 2 row S)))))) z14, pB_y (S := (pTk T n 17 0 99 (pAv T n (pSt 7 row (nI (zV (pFn T n 0 (pAv T n (pAv T n (pSt 6 row 2 (pNw T n 2 row S))))))) (pFn T n 0 (pAv T n (pAv T n (pSt 6 row 2 (pNw T n 2 row S))))))))) z15, pB_y (S := (pTk T n 18 0 60 (pSt 8 row (nI (zV (pTk T n 17 0 99 (pAv T n (pSt 7 row (nI (zV (pFn T n 0 (pAv T n (pAv T n (pSt 6 row 2 (pNw T n 2 row S))))))) (pFn T n 0 (pAv T n (pAv T n (pSt 6 row 2 (pNw T n 2 row S)))))))))) (pTk T n 17 0 99 (pAv T n (pSt 7 row (nI (zV (pFn T n 0 (pAv T n (pAv T n (pSt 6 row 2 (pNw T n 2 row S))))))) (pFn T n 0 (pAv T n (pAv T n (pSt 6 row 2 (pNw T n 2 row S))))))))))) z16])).trans (pB_y ((lM.tk (S := (pSt 8 row (nI (zV (pTk T n 17 0 99 (pAv T n (pSt 7 row (nI (zV (pFn T n 0 (pAv T n (pAv T n (pSt 6 row 2 (pNw T n 2 row S))))))) (pFn T n 0 (pAv T n (pAv T n (pSt 6 row 2 (pNw T n 2 row S)))))))))) (pTk T n 17 0 99 (pAv T n (pSt 7 row (nI (zV (pFn T n 0 (pAv T n (pAv T n (pSt 6 row 2 (pNw T n 2 row S))))))) (pFn T n 0 (pAv T n (pAv T n (pSt 6 row 2 (pNw T n 2 row S)))))))))) ((lM.tk (S := (pAv T n (pSt 7 row (nI (zV (pFn T n 0 (pAv T n (pAv T n (pSt 6 row 2 (pNw T n 2 row S))))))) (pFn T n 0 (pAv T n (pAv T n (pSt 6 row 2 (pNw T n 2 row S)))))))) ((lM.fa (S := (pAv T n (pAv T n (pSt 6 row 2 (pNw T n 2 row S))))) ((lM.nt (S := (pAv T n (pNw T n 2 row S))) (lM.nx (S := (pNw T n 2 row S)) (lM.nw hl f1 z1 t1) f12 r12) f13 t13).sr (j := 6) (v := 2) (by decide) (by decide) (show row < 8 by omega) (by intro x hx; simp at hx)) f14 z14 t14).sr (j := 7) (v := nI (zV (pFn T n 0 (pAv T n (pAv T n (pSt 6 row 2 (pNw T n 2 row S))))))) (by decide) (by decide) (show row < 8 by omega) (by intro x hx; simp at hx; subst hx; exact ⟨by decide, by decide, (show row < 8 by omega)⟩)) f15 z15 t15).sr (j := 8) (v := nI (zV (pTk T n 17 0 99 (pAv T n (pSt 7 row (nI (zV (pFn T n 0 (pAv T n (pAv T n (pSt 6 row 2 (pNw T n 2 row S))))))) (pFn T n 0 (pAv T n (pAv T n (pSt 6 row 2 (pNw T n 2 row S)))))))))) (by decide) (by decide) (show row < 8 by omega) (by intro x hx; simp at hx; rcases hx with rfl | rfl <;> exact ⟨by decide, by decide, (show row < 8 by omega)⟩)) f16 z16 t16).sr (j := 9) (v := nI (zV (pTk T n 18 0 60 (pSt 8 row (nI (zV (pTk T n 17 0 99 (pAv T n (pSt 7 row (nI (zV (pFn T n 0 (pAv T n (pAv T n (pSt 6 row 2 (pNw T n 2 row S))))))) (pFn T n 0 (pAv T n (pAv T n (pSt 6 row 2 (pNw T n 2 row S)))))))))) (pTk T n 17 0 99 (pAv T n (pSt 7 row (nI (zV (pFn T n 0 (pAv T n (pAv T n (pSt 6 row 2 (pNw T n 2 row S))))))) (pFn T n 0 (pAv T n (pAv T n (pSt 6 row 2 (pNw T n 2 row S)))))))))))) (by decide) (by decide) (show row < 8 by omega) (by intro x hx; simp at hx; rcases hx with rfl | rfl | rfl <;> exact ⟨by decide, by decide, (show row < 8 by omega)⟩)).2.1)) ((lM.tk (S := (pSt 8 row (nI (zV (pTk T n 17 0 99 (pAv T n (pSt 7 row (nI (zV (pFn T n 0 (pAv T n (pAv T n (pSt 6 row 2 (pNw T n 2 row S))))))) (pFn T n 0 (pAv T n (pAv T n (pSt 6 row 2 (pNw T n 2 row S)))))))))) (pTk T n 17 0 99 (pAv T n (pSt 7 row (nI (zV (pFn T n 0 (pAv T n (pAv T n (pSt 6 row 2 (pNw T n 2 row S))))))) (pFn T n 0 (pAv T n (pAv T n (pSt 6 row 2 (pNw T n 2 row S)))))))))) ((lM.tk (S := (pAv T n (pSt 7 row (nI (zV (pFn T n 0 (pAv T n (pAv T n (pSt 6 row 2 (pNw T n 2 row S))))))) (pFn T n 0 (pAv T n (pAv T n (pSt 6 row 2 (pNw T n 2 row S)))))))) ((lM.fa (S := (pAv T n (pAv T n (pSt 6 row 2 (pNw T n 2 row S))))) ((lM.nt (S := (pAv T n (pNw T n 2 row S))) (lM.nx (S := (pNw T n 2 row S)) (lM.nw hl f1 z1 t1) f12 r12) f13 t13).sr (j := 6) (v := 2) (by decide) (by decide) (show row < 8 by omega) (by intro x hx; simp at hx)) f14 z14 t14).sr (j := 7) (v := nI (zV (pFn T n 0 (pAv T n (pAv T n (pSt 6 row 2 (pNw T n 2 row S))))))) (by decide) (by decide) (show row < 8 by omega) (by intro x hx; simp at hx; subst hx; exact ⟨by decide, by decide, (show row < 8 by omega)⟩)) f15 z15 t15).sr (j := 8) (v := nI (zV (pTk T n 17 0 99 (pAv T n (pSt 7 row (nI (zV (pFn T n 0 (pAv T n (pAv T n (pSt 6 row 2 (pNw T n 2 row S))))))) (pFn T n 0 (pAv T n (pAv T n (pSt 6 row 2 (pNw T n 2 row S)))))))))) (by decide) (by decide) (show row < 8 by omega) (by intro x hx; simp at hx; rcases hx with rfl | rfl <;> exact ⟨by decide, by decide, (show row < 8 by omega)⟩)) f16 z16 t16).sr (j := 9) (v := nI (zV (pTk T n 18 0 60 (pSt 8 row (nI (zV (pTk T n 17 0 99 (pAv T n (pSt 7 row (nI (zV (pFn T n 0 (pAv T n (pAv T n (pSt 6 row 2 (pNw T n 2 row S))))))) (pFn T n 0 (pAv T n (pAv T n (pSt 6 row 2 (pNw T n 2 row S)))))))))) (pTk T n 17 0 99 (pAv T n (pSt 7 row (nI (zV (pFn T n 0 (pAv T n (pAv T n (pSt 6 row 2 (pNw T n 2 row S))))))) (pFn T n 0 (pAv T n (pAv T n (pSt 6 row 2 (pNw T n 2 row S)))))))))))) (by decide) (by decide) (show row < 8 by omega) (by intro x hx; simp at hx; rcases hx with rfl | rfl | rfl <;> exact ⟨by decide, by decide, (show row < 8 by omega)⟩)) (by decide) (show row < 8 by omega) (by decide) rfl)
            · skip
              refine we_callV_int (p := 170) (k' := 5) (a := [.ref 95, .ref (sp_S + 20), .int 0, .int 60]) (rr := [.int (nI (27 + 4 * row + 3)), .ref 99]) dX12_womanLine_167 rfl rfl rfl rfl (rc_of rfl rfl (by decide) ⟨rfl, by decide⟩) (Nat.le_of_ble_eq_true rfl) (Nat.le_of_ble_eq_true rfl) (by decide) e16 (Or.inl rfl) rfl ?_
              refine wf_iast (n := 276) (i := (27 + 4 * row + 3)) (p := 171) dX12_womanLine_170 rfl (by decide) (in_nJ (by omega) (by decide)) (nI_cl (by omega)) rfl ?_
              refine we_aload_n (p := 172) dX12_womanLine_171 rfl rfl ?_
              refine wf_getI (c := 11) (j := 13) (n := 37) (v := 1) (p := 175) dX12_womanLine_172 rfl rfl (by decide) (by decide) (Or.inr rfl) (((((lM.tk (S := (pAv T n (pSt 7 row (nI (zV (pFn T n 0 (pAv T n (pAv T n (pSt 6 row 2 (pNw T n 2 row S))))))) (pFn T n 0 (pAv T n (pAv T n (pSt 6 row 2 (pNw T n 2 row S)))))))) ((lM.fa (S := (pAv T n (pAv T n (pSt 6 row 2 (pNw T n 2 row S))))) ((lM.nt (S := (pAv T n (pNw T n 2 row S))) (lM.nx (S := (pNw T n 2 row S)) (lM.nw hl f1 z1 t1) f12 r12) f13 t13).sr (j := 6) (v := 2) (by decide) (by decide) (show row < 8 by omega) (by intro x hx; simp at hx)) f14 z14 t14).sr (j := 7) (v := nI (zV (pFn T n 0 (pAv T n (pAv T n (pSt 6 row 2 (pNw T n 2 row S))))))) (by decide) (by decide) (show row < 8 by omega) (by intro x hx; simp at hx; subst hx; exact ⟨by decide, by decide, (show row < 8 by omega)⟩)) f15 z15 t15).sr (j := 8) (v := nI (zV (pTk T n 17 0 99 (pAv T n (pSt 7 row (nI (zV (pFn T n 0 (pAv T n (pAv T n (pSt 6 row 2 (pNw T n 2 row S))))))) (pFn T n 0 (pAv T n (pAv T n (pSt 6 row 2 (pNw T n 2 row S)))))))))) (by decide) (by decide) (show row < 8 by omega) (by intro x hx; simp at hx; rcases hx with rfl | rfl <;> exact ⟨by decide, by decide, (show row < 8 by omega)⟩)).no f16 z16 g16).u)).2.2.1 rfl ?_
              refine we_if_ne (t := 188) (p := 178) dX12_womanLine_175 (by decide) rfl rfl (fun hc175 => ?_) (fun hc175 => absurd hc175 (by decide))
              exact wv_ret dX12_womanLine_188 rfl (RmL.no (X := (pTk T n 18 0 60 (pSt 8 row (nI (zV (pTk T n 17 0 99 (pAv T n (pSt 7 row (nI (zV (pFn T n 0 (pAv T n (pAv T n (pSt 6 row 2 (pNw T n 2 row S))))))) (pFn T n 0 (pAv T n (pAv T n (pSt 6 row 2 (pNw T n 2 row S)))))))))) (pTk T n 17 0 99 (pAv T n (pSt 7 row (nI (zV (pFn T n 0 (pAv T n (pAv T n (pSt 6 row 2 (pNw T n 2 row S))))))) (pFn T n 0 (pAv T n (pAv T n (pSt 6 row 2 (pNw T n 2 row S))))))))))) ((congrArg (fun z => pB z (pIn 2)) (show pWom T n row S = (pTk T n 18 0 60 (pSt 8 row (nI (zV (pTk T n 17 0 99 (pAv T n (pSt 7 row (nI (zV (pFn T n 0 (pAv T n (pAv T n (pSt 6 row 2 (pNw T n 2 row S))))))) (pFn T n 0 (pAv T n (pAv T n (pSt 6 row 2 (pNw T n 2 row S)))))))))) (pTk T n 17 0 99 (pAv T n (pSt 7 row (nI (zV (pFn T n 0 (pAv T n (pAv T n (pSt 6 row 2 (pNw T n 2 row S))))))) (pFn T n 0 (pAv T n (pAv T n (pSt 6 row 2 (pNw T n 2 row S)))))))))) from by
      unfold pWom
      rw [pB_y (S := (pNw T n 2 row S)) z1]
      refine (if_neg (by rw [hk10]; decide)).trans ((if_neg (by rw [hk10]; decide)).trans ?_)
      rw [hk10, show (nI 10 - 8 : Int32) = 2 from rfl]
      unfold pWom2
      rw [if_pos (show tQ T n (zP (pAv T n (pSt 6 row 2 (pNw T n 2 row S)))) = nI 16 from hin), pB_y (S := (pFn T n 0 (pAv T n (pAv T n (pSt 6 row 2 (pNw T n 2 row S)))))) z14, pB_y (S := (pTk T n 17 0 99 (pAv T n (pSt 7 row (nI (zV (pFn T n 0 (pAv T n (pAv T n (pSt 6 row 2 (pNw T n 2 row S))))))) (pFn T n 0 (pAv T n (pAv T n (pSt 6 row 2 (pNw T n 2 row S))))))))) z15, pB_n (S := (pTk T n 18 0 60 (pSt 8 row (nI (zV (pTk T n 17 0 99 (pAv T n (pSt 7 row (nI (zV (pFn T n 0 (pAv T n (pAv T n (pSt 6 row 2 (pNw T n 2 row S))))))) (pFn T n 0 (pAv T n (pAv T n (pSt 6 row 2 (pNw T n 2 row S)))))))))) (pTk T n 17 0 99 (pAv T n (pSt 7 row (nI (zV (pFn T n 0 (pAv T n (pAv T n (pSt 6 row 2 (pNw T n 2 row S))))))) (pFn T n 0 (pAv T n (pAv T n (pSt 6 row 2 (pNw T n 2 row S))))))))))) z16])).trans (pB_n (S := (pTk T n 18 0 60 (pSt 8 row (nI (zV (pTk T n 17 0 99 (pAv T n (pSt 7 row (nI (zV (pFn T n 0 (pAv T n (pAv T n (pSt 6 row 2 (pNw T n 2 row S))))))) (pFn T n 0 (pAv T n (pAv T n (pSt 6 row 2 (pNw T n 2 row S)))))))))) (pTk T n 17 0 99 (pAv T n (pSt 7 row (nI (zV (pFn T n 0 (pAv T n (pAv T n (pSt 6 row 2 (pNw T n 2 row S))))))) (pFn T n 0 (pAv T n (pAv T n (pSt 6 row 2 (pNw T n 2 row S))))))))))) z16)) ((((lM.tk (S := (pAv T n (pSt 7 row (nI (zV (pFn T n 0 (pAv T n (pAv T n (pSt 6 row 2 (pNw T n 2 row S))))))) (pFn T n 0 (pAv T n (pAv T n (pSt 6 row 2 (pNw T n 2 row S)))))))) ((lM.fa (S := (pAv T n (pAv T n (pSt 6 row 2 (pNw T n 2 row S))))) ((lM.nt (S := (pAv T n (pNw T n 2 row S))) (lM.nx (S := (pNw T n 2 row S)) (lM.nw hl f1 z1 t1) f12 r12) f13 t13).sr (j := 6) (v := 2) (by decide) (by decide) (show row < 8 by omega) (by intro x hx; simp at hx)) f14 z14 t14).sr (j := 7) (v := nI (zV (pFn T n 0 (pAv T n (pAv T n (pSt 6 row 2 (pNw T n 2 row S))))))) (by decide) (by decide) (show row < 8 by omega) (by intro x hx; simp at hx; subst hx; exact ⟨by decide, by decide, (show row < 8 by omega)⟩)) f15 z15 t15).sr (j := 8) (v := nI (zV (pTk T n 17 0 99 (pAv T n (pSt 7 row (nI (zV (pFn T n 0 (pAv T n (pAv T n (pSt 6 row 2 (pNw T n 2 row S))))))) (pFn T n 0 (pAv T n (pAv T n (pSt 6 row 2 (pNw T n 2 row S)))))))))) (by decide) (by decide) (show row < 8 by omega) (by intro x hx; simp at hx; rcases hx with rfl | rfl <;> exact ⟨by decide, by decide, (show row < 8 by omega)⟩)).no f16 z16 g16).u))
          · skip
            refine we_callV_int (p := 153) (k' := 5) (a := [.ref 95, .ref (sp_S + 19), .int 0, .int 99]) (rr := [.int (nI (27 + 4 * row + 2)), .ref 99]) dX12_womanLine_150 rfl rfl rfl rfl (rc_of rfl rfl (by decide) ⟨rfl, by decide⟩) (Nat.le_of_ble_eq_true rfl) (Nat.le_of_ble_eq_true rfl) (by decide) e15 (Or.inl rfl) rfl ?_
            refine wf_iast (n := 276) (i := (27 + 4 * row + 2)) (p := 154) dX12_womanLine_153 rfl (by decide) (in_nJ (by omega) (by decide)) (nI_cl (by omega)) rfl ?_
            refine we_aload_n (p := 155) dX12_womanLine_154 rfl rfl ?_
            refine we_getR (c := 11) (j := 16) (n := 37) (b := 99) (p := 158) dX12_womanLine_155 rfl rfl (by decide) (by decide) rfl (r_95_16 hF) rfl ?_
            refine we_iload_n (p := 159) dX12_womanLine_158 rfl rfl ?_
            refine we_iconst (v := 3) (p := 160) dX12_womanLine_159 (by decide) rfl ?_
            refine we_iadd (p := 161) dX12_womanLine_160 rfl ?_
            rw [show (nI (27 + 4 * row) + 3 : Int32) = nI (27 + 4 * row + 3) from nI_add (a := 27 + 4 * row) (b := 3)]
            refine we_aload_n (p := 162) dX12_womanLine_161 rfl rfl ?_
            refine we_ldcS (j := 20) (p := 164) dX12_womanLine_162 rfl rfl rfl ?_
            refine we_iconst (v := 0) (p := 165) dX12_womanLine_164 (by decide) rfl ?_
            refine we_bipush (v := 60) (p := 167) dX12_womanLine_165 (by decide) rfl ?_
            refine we_callV_int (p := 170) (k' := 5) (a := [.ref 95, .ref (sp_S + 20), .int 0, .int 60]) (rr := [.int (nI (27 + 4 * row + 3)), .ref 99]) dX12_womanLine_167 rfl rfl rfl rfl (rc_of rfl rfl (by decide) ⟨rfl, by decide⟩) (Nat.le_of_ble_eq_true rfl) (Nat.le_of_ble_eq_true rfl) (by decide) (y_after_f hF (((((lM.fa (S := (pAv T n (pAv T n (pSt 6 row 2 (pNw T n 2 row S))))) ((lM.nt (S := (pAv T n (pNw T n 2 row S))) (lM.nx (S := (pNw T n 2 row S)) (lM.nw hl f1 z1 t1) f12 r12) f13 t13).sr (j := 6) (v := 2) (by decide) (by decide) (show row < 8 by omega) (by intro x hx; simp at hx)) f14 z14 t14).sr (j := 7) (v := nI (zV (pFn T n 0 (pAv T n (pAv T n (pSt 6 row 2 (pNw T n 2 row S))))))) (by decide) (by decide) (show row < 8 by omega) (by intro x hx; simp at hx; subst hx; exact ⟨by decide, by decide, (show row < 8 by omega)⟩)).no f15 z15 g15).u)).2.2.1) (Or.inl rfl) rfl ?_
            refine wf_iast (n := 276) (i := (27 + 4 * row + 3)) (p := 171) dX12_womanLine_170 rfl (by decide) (in_nJ (by omega) (by decide)) (nI_cl (by omega)) rfl ?_
            refine we_aload_n (p := 172) dX12_womanLine_171 rfl rfl ?_
            refine wf_getI (c := 11) (j := 13) (n := 37) (v := 1) (p := 175) dX12_womanLine_172 rfl rfl (by decide) (by decide) (Or.inr rfl) ((((((lM.fa (S := (pAv T n (pAv T n (pSt 6 row 2 (pNw T n 2 row S))))) ((lM.nt (S := (pAv T n (pNw T n 2 row S))) (lM.nx (S := (pNw T n 2 row S)) (lM.nw hl f1 z1 t1) f12 r12) f13 t13).sr (j := 6) (v := 2) (by decide) (by decide) (show row < 8 by omega) (by intro x hx; simp at hx)) f14 z14 t14).sr (j := 7) (v := nI (zV (pFn T n 0 (pAv T n (pAv T n (pSt 6 row 2 (pNw T n 2 row S))))))) (by decide) (by decide) (show row < 8 by omega) (by intro x hx; simp at hx; subst hx; exact ⟨by decide, by decide, (show row < 8 by omega)⟩)).no f15 z15 g15).u).u)).2.2.1 rfl ?_
            refine we_if_ne (t := 188) (p := 178) dX12_womanLine_175 (by decide) rfl rfl (fun hc175 => ?_) (fun hc175 => absurd hc175 (by decide))
            exact wv_ret dX12_womanLine_188 rfl (RmL.no (X := (pTk T n 17 0 99 (pAv T n (pSt 7 row (nI (zV (pFn T n 0 (pAv T n (pAv T n (pSt 6 row 2 (pNw T n 2 row S))))))) (pFn T n 0 (pAv T n (pAv T n (pSt 6 row 2 (pNw T n 2 row S))))))))) ((congrArg (fun z => pB z (pIn 2)) (show pWom T n row S = (pTk T n 17 0 99 (pAv T n (pSt 7 row (nI (zV (pFn T n 0 (pAv T n (pAv T n (pSt 6 row 2 (pNw T n 2 row S))))))) (pFn T n 0 (pAv T n (pAv T n (pSt 6 row 2 (pNw T n 2 row S)))))))) from by
      unfold pWom
      rw [pB_y (S := (pNw T n 2 row S)) z1]
      refine (if_neg (by rw [hk10]; decide)).trans ((if_neg (by rw [hk10]; decide)).trans ?_)
      rw [hk10, show (nI 10 - 8 : Int32) = 2 from rfl]
      unfold pWom2
      rw [if_pos (show tQ T n (zP (pAv T n (pSt 6 row 2 (pNw T n 2 row S)))) = nI 16 from hin), pB_y (S := (pFn T n 0 (pAv T n (pAv T n (pSt 6 row 2 (pNw T n 2 row S)))))) z14, pB_n (S := (pTk T n 17 0 99 (pAv T n (pSt 7 row (nI (zV (pFn T n 0 (pAv T n (pAv T n (pSt 6 row 2 (pNw T n 2 row S))))))) (pFn T n 0 (pAv T n (pAv T n (pSt 6 row 2 (pNw T n 2 row S))))))))) z15])).trans (pB_n (S := (pTk T n 17 0 99 (pAv T n (pSt 7 row (nI (zV (pFn T n 0 (pAv T n (pAv T n (pSt 6 row 2 (pNw T n 2 row S))))))) (pFn T n 0 (pAv T n (pAv T n (pSt 6 row 2 (pNw T n 2 row S))))))))) z15)) (((((lM.fa (S := (pAv T n (pAv T n (pSt 6 row 2 (pNw T n 2 row S))))) ((lM.nt (S := (pAv T n (pNw T n 2 row S))) (lM.nx (S := (pNw T n 2 row S)) (lM.nw hl f1 z1 t1) f12 r12) f13 t13).sr (j := 6) (v := 2) (by decide) (by decide) (show row < 8 by omega) (by intro x hx; simp at hx)) f14 z14 t14).sr (j := 7) (v := nI (zV (pFn T n 0 (pAv T n (pAv T n (pSt 6 row 2 (pNw T n 2 row S))))))) (by decide) (by decide) (show row < 8 by omega) (by intro x hx; simp at hx; subst hx; exact ⟨by decide, by decide, (show row < 8 by omega)⟩)).no f15 z15 g15).u).u))
        · skip
          refine we_callV_int (p := 136) (k' := 6) (a := [.ref 95]) (rr := [.int (nI (27 + 4 * row + 1)), .ref 99]) dX12_womanLine_133 rfl rfl rfl rfl (rc_of rfl rfl (by decide) ⟨rfl, by decide⟩) (Nat.le_of_ble_eq_true rfl) (Nat.le_of_ble_eq_true rfl) (by decide) e14 (Or.inl rfl) rfl ?_
          refine wf_iast (n := 276) (i := (27 + 4 * row + 1)) (p := 137) dX12_womanLine_136 rfl (by decide) (in_nJ (by omega) (by decide)) (nI_cl (by omega)) rfl ?_
          refine we_aload_n (p := 138) dX12_womanLine_137 rfl rfl ?_
          refine we_getR (c := 11) (j := 16) (n := 37) (b := 99) (p := 141) dX12_womanLine_138 rfl rfl (by decide) (by decide) rfl (r_95_16 hF) rfl ?_
          refine we_iload_n (p := 142) dX12_womanLine_141 rfl rfl ?_
          refine we_iconst (v := 2) (p := 143) dX12_womanLine_142 (by decide) rfl ?_
          refine we_iadd (p := 144) dX12_womanLine_143 rfl ?_
          rw [show (nI (27 + 4 * row) + 2 : Int32) = nI (27 + 4 * row + 2) from nI_add (a := 27 + 4 * row) (b := 2)]
          refine we_aload_n (p := 145) dX12_womanLine_144 rfl rfl ?_
          refine we_ldcS (j := 19) (p := 147) dX12_womanLine_145 rfl rfl rfl ?_
          refine we_iconst (v := 0) (p := 148) dX12_womanLine_147 (by decide) rfl ?_
          refine we_bipush (v := 99) (p := 150) dX12_womanLine_148 (by decide) rfl ?_
          refine we_callV_int (p := 153) (k' := 5) (a := [.ref 95, .ref (sp_S + 19), .int 0, .int 99]) (rr := [.int (nI (27 + 4 * row + 2)), .ref 99]) dX12_womanLine_150 rfl rfl rfl rfl (rc_of rfl rfl (by decide) ⟨rfl, by decide⟩) (Nat.le_of_ble_eq_true rfl) (Nat.le_of_ble_eq_true rfl) (by decide) (y_after_f hF (((((lM.nt (S := (pAv T n (pNw T n 2 row S))) (lM.nx (S := (pNw T n 2 row S)) (lM.nw hl f1 z1 t1) f12 r12) f13 t13).sr (j := 6) (v := 2) (by decide) (by decide) (show row < 8 by omega) (by intro x hx; simp at hx)).no f14 z14 g14).u)).2.2.1) (Or.inl rfl) rfl ?_
          refine wf_iast (n := 276) (i := (27 + 4 * row + 2)) (p := 154) dX12_womanLine_153 rfl (by decide) (in_nJ (by omega) (by decide)) (nI_cl (by omega)) rfl ?_
          refine we_aload_n (p := 155) dX12_womanLine_154 rfl rfl ?_
          refine we_getR (c := 11) (j := 16) (n := 37) (b := 99) (p := 158) dX12_womanLine_155 rfl rfl (by decide) (by decide) rfl (r_95_16 hF) rfl ?_
          refine we_iload_n (p := 159) dX12_womanLine_158 rfl rfl ?_
          refine we_iconst (v := 3) (p := 160) dX12_womanLine_159 (by decide) rfl ?_
          refine we_iadd (p := 161) dX12_womanLine_160 rfl ?_
          rw [show (nI (27 + 4 * row) + 3 : Int32) = nI (27 + 4 * row + 3) from nI_add (a := 27 + 4 * row) (b := 3)]
          refine we_aload_n (p := 162) dX12_womanLine_161 rfl rfl ?_
          refine we_ldcS (j := 20) (p := 164) dX12_womanLine_162 rfl rfl rfl ?_
          refine we_iconst (v := 0) (p := 165) dX12_womanLine_164 (by decide) rfl ?_
          refine we_bipush (v := 60) (p := 167) dX12_womanLine_165 (by decide) rfl ?_
          refine we_callV_int (p := 170) (k' := 5) (a := [.ref 95, .ref (sp_S + 20), .int 0, .int 60]) (rr := [.int (nI (27 + 4 * row + 3)), .ref 99]) dX12_womanLine_167 rfl rfl rfl rfl (rc_of rfl rfl (by decide) ⟨rfl, by decide⟩) (Nat.le_of_ble_eq_true rfl) (Nat.le_of_ble_eq_true rfl) (by decide) (y_after_f hF ((((((lM.nt (S := (pAv T n (pNw T n 2 row S))) (lM.nx (S := (pNw T n 2 row S)) (lM.nw hl f1 z1 t1) f12 r12) f13 t13).sr (j := 6) (v := 2) (by decide) (by decide) (show row < 8 by omega) (by intro x hx; simp at hx)).no f14 z14 g14).u).u)).2.2.1) (Or.inl rfl) rfl ?_
          refine wf_iast (n := 276) (i := (27 + 4 * row + 3)) (p := 171) dX12_womanLine_170 rfl (by decide) (in_nJ (by omega) (by decide)) (nI_cl (by omega)) rfl ?_
          refine we_aload_n (p := 172) dX12_womanLine_171 rfl rfl ?_
          refine wf_getI (c := 11) (j := 13) (n := 37) (v := 1) (p := 175) dX12_womanLine_172 rfl rfl (by decide) (by decide) (Or.inr rfl) (((((((lM.nt (S := (pAv T n (pNw T n 2 row S))) (lM.nx (S := (pNw T n 2 row S)) (lM.nw hl f1 z1 t1) f12 r12) f13 t13).sr (j := 6) (v := 2) (by decide) (by decide) (show row < 8 by omega) (by intro x hx; simp at hx)).no f14 z14 g14).u).u).u)).2.2.1 rfl ?_
          refine we_if_ne (t := 188) (p := 178) dX12_womanLine_175 (by decide) rfl rfl (fun hc175 => ?_) (fun hc175 => absurd hc175 (by decide))
          exact wv_ret dX12_womanLine_188 rfl (RmL.no (X := (pFn T n 0 (pAv T n (pAv T n (pSt 6 row 2 (pNw T n 2 row S)))))) ((congrArg (fun z => pB z (pIn 2)) (show pWom T n row S = (pFn T n 0 (pAv T n (pAv T n (pSt 6 row 2 (pNw T n 2 row S))))) from by
      unfold pWom
      rw [pB_y (S := (pNw T n 2 row S)) z1]
      refine (if_neg (by rw [hk10]; decide)).trans ((if_neg (by rw [hk10]; decide)).trans ?_)
      rw [hk10, show (nI 10 - 8 : Int32) = 2 from rfl]
      unfold pWom2
      rw [if_pos (show tQ T n (zP (pAv T n (pSt 6 row 2 (pNw T n 2 row S)))) = nI 16 from hin), pB_n (S := (pFn T n 0 (pAv T n (pAv T n (pSt 6 row 2 (pNw T n 2 row S)))))) z14])).trans (pB_n (S := (pFn T n 0 (pAv T n (pAv T n (pSt 6 row 2 (pNw T n 2 row S)))))) z14)) ((((((lM.nt (S := (pAv T n (pNw T n 2 row S))) (lM.nx (S := (pNw T n 2 row S)) (lM.nw hl f1 z1 t1) f12 r12) f13 t13).sr (j := 6) (v := 2) (by decide) (by decide) (show row < 8 by omega) (by intro x hx; simp at hx)).no f14 z14 g14).u).u).u))
      · skip
        refine we_callV_v (p := 118) (k' := 4) (a := [.ref 95, .ref (sp_S + 18)]) (rr := []) dX12_womanLine_115 rfl rfl rfl rfl (rc_of rfl rfl (by decide) ⟨rfl, by decide⟩) (Nat.le_of_ble_eq_true rfl) (Nat.le_of_ble_eq_true rfl) (by decide) (y_must_n (j := 18) hF (lM.nx (S := (pNw T n 2 row S)) (lM.nw hl f1 z1 t1) f12 r12).2.2.1 (by decide) (by decide) hin) (Or.inl rfl) rfl ?_
        refine we_aload_n (p := 119) dX12_womanLine_118 rfl rfl ?_
        refine we_getR (c := 11) (j := 16) (n := 37) (b := 99) (p := 122) dX12_womanLine_119 rfl rfl (by decide) (by decide) rfl (r_95_16 hF) rfl ?_
        refine we_iload_n (p := 123) dX12_womanLine_122 rfl rfl ?_
        refine we_iload_n (p := 124) dX12_womanLine_123 rfl rfl ?_
        refine wf_iast (n := 276) (i := (27 + 4 * row)) (p := 125) dX12_womanLine_124 rfl (by decide) (in_nJ (by omega) (by decide)) (nI_cl (by omega)) rfl ?_
        refine we_aload_n (p := 126) dX12_womanLine_125 rfl rfl ?_
        refine we_getR (c := 11) (j := 16) (n := 37) (b := 99) (p := 129) dX12_womanLine_126 rfl rfl (by decide) (by decide) rfl (r_95_16 hF) rfl ?_
        refine we_iload_n (p := 130) dX12_womanLine_129 rfl rfl ?_
        refine we_iconst (v := 1) (p := 131) dX12_womanLine_130 (by decide) rfl ?_
        refine we_iadd (p := 132) dX12_womanLine_131 rfl ?_
        rw [show (nI (27 + 4 * row) + 1 : Int32) = nI (27 + 4 * row + 1) from nI_add (a := 27 + 4 * row) (b := 1)]
        refine we_aload_n (p := 133) dX12_womanLine_132 rfl rfl ?_
        refine we_callV_int (p := 136) (k' := 6) (a := [.ref 95]) (rr := [.int (nI (27 + 4 * row + 1)), .ref 99]) dX12_womanLine_133 rfl rfl rfl rfl (rc_of rfl rfl (by decide) ⟨rfl, by decide⟩) (Nat.le_of_ble_eq_true rfl) (Nat.le_of_ble_eq_true rfl) (by decide) (y_harbourPassed_f hF (((fM.eq (X := pFl 1 (pAv T n (pNw T n 2 row S))) (lM.wr (S := (pAv T n (pNw T n 2 row S))) (q := 1) (lM.nx (S := (pNw T n 2 row S)) (lM.nw hl f1 z1 t1) f12 r12) (by decide)) (show zF (pFl 1 (pAv T n (pSt 6 row 2 (pNw T n 2 row S)))) = _ from rfl) rfl).u)).2.2.1) (Or.inl rfl) rfl ?_
        refine wf_iast (n := 276) (i := (27 + 4 * row + 1)) (p := 137) dX12_womanLine_136 rfl (by decide) (in_nJ (by omega) (by decide)) (nI_cl (by omega)) rfl ?_
        refine we_aload_n (p := 138) dX12_womanLine_137 rfl rfl ?_
        refine we_getR (c := 11) (j := 16) (n := 37) (b := 99) (p := 141) dX12_womanLine_138 rfl rfl (by decide) (by decide) rfl (r_95_16 hF) rfl ?_
        refine we_iload_n (p := 142) dX12_womanLine_141 rfl rfl ?_
        refine we_iconst (v := 2) (p := 143) dX12_womanLine_142 (by decide) rfl ?_
        refine we_iadd (p := 144) dX12_womanLine_143 rfl ?_
        rw [show (nI (27 + 4 * row) + 2 : Int32) = nI (27 + 4 * row + 2) from nI_add (a := 27 + 4 * row) (b := 2)]
        refine we_aload_n (p := 145) dX12_womanLine_144 rfl rfl ?_
        refine we_ldcS (j := 19) (p := 147) dX12_womanLine_145 rfl rfl rfl ?_
        refine we_iconst (v := 0) (p := 148) dX12_womanLine_147 (by decide) rfl ?_
        refine we_bipush (v := 99) (p := 150) dX12_womanLine_148 (by decide) rfl ?_
        refine we_callV_int (p := 153) (k' := 5) (a := [.ref 95, .ref (sp_S + 19), .int 0, .int 99]) (rr := [.int (nI (27 + 4 * row + 2)), .ref 99]) dX12_womanLine_150 rfl rfl rfl rfl (rc_of rfl rfl (by decide) ⟨rfl, by decide⟩) (Nat.le_of_ble_eq_true rfl) (Nat.le_of_ble_eq_true rfl) (by decide) (y_after_f hF ((((fM.eq (X := pFl 1 (pAv T n (pNw T n 2 row S))) (lM.wr (S := (pAv T n (pNw T n 2 row S))) (q := 1) (lM.nx (S := (pNw T n 2 row S)) (lM.nw hl f1 z1 t1) f12 r12) (by decide)) (show zF (pFl 1 (pAv T n (pSt 6 row 2 (pNw T n 2 row S)))) = _ from rfl) rfl).u).u)).2.2.1) (Or.inl rfl) rfl ?_
        refine wf_iast (n := 276) (i := (27 + 4 * row + 2)) (p := 154) dX12_womanLine_153 rfl (by decide) (in_nJ (by omega) (by decide)) (nI_cl (by omega)) rfl ?_
        refine we_aload_n (p := 155) dX12_womanLine_154 rfl rfl ?_
        refine we_getR (c := 11) (j := 16) (n := 37) (b := 99) (p := 158) dX12_womanLine_155 rfl rfl (by decide) (by decide) rfl (r_95_16 hF) rfl ?_
        refine we_iload_n (p := 159) dX12_womanLine_158 rfl rfl ?_
        refine we_iconst (v := 3) (p := 160) dX12_womanLine_159 (by decide) rfl ?_
        refine we_iadd (p := 161) dX12_womanLine_160 rfl ?_
        rw [show (nI (27 + 4 * row) + 3 : Int32) = nI (27 + 4 * row + 3) from nI_add (a := 27 + 4 * row) (b := 3)]
        refine we_aload_n (p := 162) dX12_womanLine_161 rfl rfl ?_
        refine we_ldcS (j := 20) (p := 164) dX12_womanLine_162 rfl rfl rfl ?_
        refine we_iconst (v := 0) (p := 165) dX12_womanLine_164 (by decide) rfl ?_
        refine we_bipush (v := 60) (p := 167) dX12_womanLine_165 (by decide) rfl ?_
        refine we_callV_int (p := 170) (k' := 5) (a := [.ref 95, .ref (sp_S + 20), .int 0, .int 60]) (rr := [.int (nI (27 + 4 * row + 3)), .ref 99]) dX12_womanLine_167 rfl rfl rfl rfl (rc_of rfl rfl (by decide) ⟨rfl, by decide⟩) (Nat.le_of_ble_eq_true rfl) (Nat.le_of_ble_eq_true rfl) (by decide) (y_after_f hF (((((fM.eq (X := pFl 1 (pAv T n (pNw T n 2 row S))) (lM.wr (S := (pAv T n (pNw T n 2 row S))) (q := 1) (lM.nx (S := (pNw T n 2 row S)) (lM.nw hl f1 z1 t1) f12 r12) (by decide)) (show zF (pFl 1 (pAv T n (pSt 6 row 2 (pNw T n 2 row S)))) = _ from rfl) rfl).u).u).u)).2.2.1) (Or.inl rfl) rfl ?_
        refine wf_iast (n := 276) (i := (27 + 4 * row + 3)) (p := 171) dX12_womanLine_170 rfl (by decide) (in_nJ (by omega) (by decide)) (nI_cl (by omega)) rfl ?_
        refine we_aload_n (p := 172) dX12_womanLine_171 rfl rfl ?_
        refine wf_getI (c := 11) (j := 13) (n := 37) (v := 1) (p := 175) dX12_womanLine_172 rfl rfl (by decide) (by decide) (Or.inr rfl) ((((((fM.eq (X := pFl 1 (pAv T n (pNw T n 2 row S))) (lM.wr (S := (pAv T n (pNw T n 2 row S))) (q := 1) (lM.nx (S := (pNw T n 2 row S)) (lM.nw hl f1 z1 t1) f12 r12) (by decide)) (show zF (pFl 1 (pAv T n (pSt 6 row 2 (pNw T n 2 row S)))) = _ from rfl) rfl).u).u).u).u)).2.2.1 rfl ?_
        refine we_if_ne (t := 188) (p := 178) dX12_womanLine_175 (by decide) rfl rfl (fun hc175 => ?_) (fun hc175 => absurd hc175 (by decide))
        exact wv_ret dX12_womanLine_188 rfl (RmL.no (X := (pFl 1 (pAv T n (pSt 6 row 2 (pNw T n 2 row S))))) ((congrArg (fun z => pB z (pIn 2)) (show pWom T n row S = (pFl 1 (pAv T n (pSt 6 row 2 (pNw T n 2 row S)))) from by
      unfold pWom
      rw [pB_y (S := (pNw T n 2 row S)) z1]
      refine (if_neg (by rw [hk10]; decide)).trans ((if_neg (by rw [hk10]; decide)).trans ?_)
      rw [hk10, show (nI 10 - 8 : Int32) = 2 from rfl]
      unfold pWom2
      rw [if_neg (show ¬ tQ T n (zP (pAv T n (pSt 6 row 2 (pNw T n 2 row S)))) = nI 16 from hin)])).trans (pB_n (S := (pFl 1 (pAv T n (pSt 6 row 2 (pNw T n 2 row S))))) (show ¬ (1 : Nat) = 0 by decide))) (((((fM.eq (X := pFl 1 (pAv T n (pNw T n 2 row S))) (lM.wr (S := (pAv T n (pNw T n 2 row S))) (q := 1) (lM.nx (S := (pNw T n 2 row S)) (lM.nw hl f1 z1 t1) f12 r12) (by decide)) (show zF (pFl 1 (pAv T n (pSt 6 row 2 (pNw T n 2 row S)))) = _ from rfl) rfl).u).u).u).u))
    by_cases hk11 : tQ T n (zP (pNw T n 2 row S)) = nI 11
    · skip
      refine we_aload_n (p := 34) dX12_womanLine_33 rfl rfl ?_
      refine we_ldcS (j := 14) (p := 36) dX12_womanLine_34 rfl rfl rfl ?_
      refine we_callV_int (p := 39) (k' := 2) (a := [.ref 95, .ref (sp_S + 14)]) (rr := []) dX12_womanLine_36 rfl rfl rfl rfl (rc_of rfl rfl (by decide) ⟨rfl, by decide⟩) (Nat.le_of_ble_eq_true rfl) (Nat.le_of_ble_eq_true rfl) (by decide) (Ev.i (if_neg (by rw [hk11]; decide)) (y_isWord (j := 14) hF (lM.nw hl f1 z1 t1).2.2.1 (by decide) (by decide))) (Or.inl rfl) rfl ?_
      refine we_if_eq (t := 46) (p := 42) dX12_womanLine_39 (by decide) rfl rfl (fun hc39 => ?_) (fun hc39 => absurd (by decide) hc39)
      refine we_aload_n (p := 47) dX12_womanLine_46 rfl rfl ?_
      refine we_ldcS (j := 15) (p := 49) dX12_womanLine_47 rfl rfl rfl ?_
      refine we_callV_int (p := 52) (k' := 2) (a := [.ref 95, .ref (sp_S + 15)]) (rr := []) dX12_womanLine_49 rfl rfl rfl rfl (rc_of rfl rfl (by decide) ⟨rfl, by decide⟩) (Nat.le_of_ble_eq_true rfl) (Nat.le_of_ble_eq_true rfl) (by decide) (Ev.i (if_neg (by rw [hk11]; decide)) (y_isWord (j := 15) hF (lM.nw hl f1 z1 t1).2.2.1 (by decide) (by decide))) (Or.inl rfl) rfl ?_
      refine we_if_eq (t := 59) (p := 55) dX12_womanLine_52 (by decide) rfl rfl (fun hc52 => ?_) (fun hc52 => absurd (by decide) hc52)
      refine we_aload_n (p := 60) dX12_womanLine_59 rfl rfl ?_
      refine we_ldcS (j := 16) (p := 62) dX12_womanLine_60 rfl rfl rfl ?_
      refine we_callV_int (p := 65) (k' := 2) (a := [.ref 95, .ref (sp_S + 16)]) (rr := []) dX12_womanLine_62 rfl rfl rfl rfl (rc_of rfl rfl (by decide) ⟨rfl, by decide⟩) (Nat.le_of_ble_eq_true rfl) (Nat.le_of_ble_eq_true rfl) (by decide) (Ev.i (if_neg (by rw [hk11]; decide)) (y_isWord (j := 16) hF (lM.nw hl f1 z1 t1).2.2.1 (by decide) (by decide))) (Or.inl rfl) rfl ?_
      refine we_if_eq (t := 72) (p := 68) dX12_womanLine_65 (by decide) rfl rfl (fun hc65 => ?_) (fun hc65 => absurd (by decide) hc65)
      refine we_aload_n (p := 73) dX12_womanLine_72 rfl rfl ?_
      refine we_ldcS (j := 17) (p := 75) dX12_womanLine_73 rfl rfl rfl ?_
      refine we_callV_int (p := 78) (k' := 2) (a := [.ref 95, .ref (sp_S + 17)]) (rr := []) dX12_womanLine_75 rfl rfl rfl rfl (rc_of rfl rfl (by decide) ⟨rfl, by decide⟩) (Nat.le_of_ble_eq_true rfl) (Nat.le_of_ble_eq_true rfl) (by decide) (Ev.i (if_pos hk11) (y_isWord (j := 17) hF (lM.nw hl f1 z1 t1).2.2.1 (by decide) (by decide))) (Or.inl rfl) rfl ?_
      refine we_if_eq (t := 85) (p := 81) dX12_womanLine_78 (by decide) rfl rfl (fun hc78 => absurd hc78 (by decide)) (fun hc78 => ?_)
      refine we_iconst (v := 3) (p := 82) dX12_womanLine_81 (by decide) rfl ?_
      refine we_goto (p := 86) dX12_womanLine_82 (by decide) rfl ?_
      refine we_istore_n (ls1 := [.ref 95, .int (nI (27 + 4 * row)), .int 3]) (p := 87) dX12_womanLine_86 rfl rfl ?_
      refine we_iload_n (p := 88) dX12_womanLine_87 rfl rfl ?_
      refine we_if_ge (t := 100) (p := 91) dX12_womanLine_88 (by decide) rfl rfl (fun hc88 => ?_) (fun hc88 => absurd (by decide) hc88)
      refine we_aload_n (p := 101) dX12_womanLine_100 rfl rfl ?_
      refine wf_getI (c := 11) (j := 13) (n := 37) (v := 0) (p := 104) dX12_womanLine_101 rfl rfl (by decide) (by decide) (Or.inr rfl) (lM.nw hl f1 z1 t1).2.2.1.2.2.2.1 rfl ?_
      refine we_if_eq (t := 108) (p := 107) dX12_womanLine_104 (by decide) rfl rfl (fun hc104 => ?_) (fun hc104 => absurd (by decide) hc104)
      refine we_aload_n (p := 109) dX12_womanLine_108 rfl rfl ?_
      obtain ⟨_, _, e17, rfl, I17, J17, F17, rfl, rfl, rfl, f17, r17⟩ := y_next hF (lM.nw hl f1 z1 t1).2.2.1.1 (tE_le (lM.nw hl f1 z1 t1).2.2.1.2.1).1 (lM.nw hl f1 z1 t1).2.2.1.2.2.1.2.1
      refine we_callV_v (p := 112) (k' := 1) (a := [.ref 95]) (rr := []) dX12_womanLine_109 rfl rfl rfl rfl (rc_of rfl rfl (by decide) ⟨rfl, by decide⟩) (Nat.le_of_ble_eq_true rfl) (Nat.le_of_ble_eq_true rfl) (by decide) e17 (Or.inl rfl) rfl ?_
      refine we_aload_n (p := 113) dX12_womanLine_112 rfl rfl ?_
      refine we_ldcS (j := 18) (p := 115) dX12_womanLine_113 rfl rfl rfl ?_
      by_cases hin : tQ T n (zP (pAv T n (pNw T n 2 row S))) = nI 16
      · skip
        obtain ⟨_, _, e18, rfl, I18, J18, F18, rfl, rfl, rfl, f18, t18⟩ := y_must (j := 18) hF (lM.nx (S := (pNw T n 2 row S)) (lM.nw hl f1 z1 t1) f17 r17).2.2.1 (by decide) (by decide) hin
        refine we_callV_v (p := 118) (k' := 4) (a := [.ref 95, .ref (sp_S + 18)]) (rr := []) dX12_womanLine_115 rfl rfl rfl rfl (rc_of rfl rfl (by decide) ⟨rfl, by decide⟩) (Nat.le_of_ble_eq_true rfl) (Nat.le_of_ble_eq_true rfl) (by decide) e18 (Or.inl rfl) rfl ?_
        refine we_aload_n (p := 119) dX12_womanLine_118 rfl rfl ?_
        refine we_getR (c := 11) (j := 16) (n := 37) (b := 99) (p := 122) dX12_womanLine_119 rfl rfl (by decide) (by decide) rfl (r_95_16 hF) rfl ?_
        refine we_iload_n (p := 123) dX12_womanLine_122 rfl rfl ?_
        refine we_iload_n (p := 124) dX12_womanLine_123 rfl rfl ?_
        refine wf_iast (n := 276) (i := (27 + 4 * row)) (p := 125) dX12_womanLine_124 rfl (by decide) (in_nJ (by omega) (by decide)) (nI_cl (by omega)) rfl ?_
        refine we_aload_n (p := 126) dX12_womanLine_125 rfl rfl ?_
        refine we_getR (c := 11) (j := 16) (n := 37) (b := 99) (p := 129) dX12_womanLine_126 rfl rfl (by decide) (by decide) rfl (r_95_16 hF) rfl ?_
        refine we_iload_n (p := 130) dX12_womanLine_129 rfl rfl ?_
        refine we_iconst (v := 1) (p := 131) dX12_womanLine_130 (by decide) rfl ?_
        refine we_iadd (p := 132) dX12_womanLine_131 rfl ?_
        rw [show (nI (27 + 4 * row) + 1 : Int32) = nI (27 + 4 * row + 1) from nI_add (a := 27 + 4 * row) (b := 1)]
        refine we_aload_n (p := 133) dX12_womanLine_132 rfl rfl ?_
        obtain ⟨_, _, e19, I19, rfl, f19, ⟨z19, rfl, t19⟩ | ⟨z19, rfl, g19⟩⟩ := y_harbourPassed (S := (pAv T n (pAv T n (pSt 6 row 3 (pNw T n 2 row S))))) hF ((lM.nt (S := (pAv T n (pNw T n 2 row S))) (lM.nx (S := (pNw T n 2 row S)) (lM.nw hl f1 z1 t1) f17 r17) f18 t18).sr (j := 6) (v := 3) (by decide) (by decide) (show row < 8 by omega) (by intro x hx; simp at hx)).2.2.1 ((lM.nt (S := (pAv T n (pNw T n 2 row S))) (lM.nx (S := (pNw T n 2 row S)) (lM.nw hl f1 z1 t1) f17 r17) f18 t18).sr (j := 6) (v := 3) (by decide) (by decide) (show row < 8 by omega) (by intro x hx; simp at hx)).2.1 ((lM.nt (S := (pAv T n (pNw T n 2 row S))) (lM.nx (S := (pNw T n 2 row S)) (lM.nw hl f1 z1 t1) f17 r17) f18 t18).sr (j := 6) (v := 3) (by decide) (by decide) (show row < 8 by omega) (by intro x hx; simp at hx)).2.2.2.1
        · skip
          refine we_callV_int (p := 136) (k' := 6) (a := [.ref 95]) (rr := [.int (nI (27 + 4 * row + 1)), .ref 99]) dX12_womanLine_133 rfl rfl rfl rfl (rc_of rfl rfl (by decide) ⟨rfl, by decide⟩) (Nat.le_of_ble_eq_true rfl) (Nat.le_of_ble_eq_true rfl) (by decide) e19 (Or.inl rfl) rfl ?_
          refine wf_iast (n := 276) (i := (27 + 4 * row + 1)) (p := 137) dX12_womanLine_136 rfl (by decide) (in_nJ (by omega) (by decide)) (nI_cl (by omega)) rfl ?_
          refine we_aload_n (p := 138) dX12_womanLine_137 rfl rfl ?_
          refine we_getR (c := 11) (j := 16) (n := 37) (b := 99) (p := 141) dX12_womanLine_138 rfl rfl (by decide) (by decide) rfl (r_95_16 hF) rfl ?_
          refine we_iload_n (p := 142) dX12_womanLine_141 rfl rfl ?_
          refine we_iconst (v := 2) (p := 143) dX12_womanLine_142 (by decide) rfl ?_
          refine we_iadd (p := 144) dX12_womanLine_143 rfl ?_
          rw [show (nI (27 + 4 * row) + 2 : Int32) = nI (27 + 4 * row + 2) from nI_add (a := 27 + 4 * row) (b := 2)]
          refine we_aload_n (p := 145) dX12_womanLine_144 rfl rfl ?_
          refine we_ldcS (j := 19) (p := 147) dX12_womanLine_145 rfl rfl rfl ?_
          refine we_iconst (v := 0) (p := 148) dX12_womanLine_147 (by decide) rfl ?_
          refine we_bipush (v := 99) (p := 150) dX12_womanLine_148 (by decide) rfl ?_
          obtain ⟨_, _, e20, I20, rfl, f20, ⟨z20, rfl, t20⟩ | ⟨z20, rfl, g20⟩⟩ := y_afterW (S := (pAv T n (pSt 7 row (nI (zV (pFn T n 0 (pAv T n (pAv T n (pSt 6 row 3 (pNw T n 2 row S))))))) (pFn T n 0 (pAv T n (pAv T n (pSt 6 row 3 (pNw T n 2 row S)))))))) (j := 19) (w := 17) (lo := 0) (hi := 99) rfl hF ((lM.fa (S := (pAv T n (pAv T n (pSt 6 row 3 (pNw T n 2 row S))))) ((lM.nt (S := (pAv T n (pNw T n 2 row S))) (lM.nx (S := (pNw T n 2 row S)) (lM.nw hl f1 z1 t1) f17 r17) f18 t18).sr (j := 6) (v := 3) (by decide) (by decide) (show row < 8 by omega) (by intro x hx; simp at hx)) f19 z19 t19).sr (j := 7) (v := nI (zV (pFn T n 0 (pAv T n (pAv T n (pSt 6 row 3 (pNw T n 2 row S))))))) (by decide) (by decide) (show row < 8 by omega) (by intro x hx; simp at hx; subst hx; exact ⟨by decide, by decide, (show row < 8 by omega)⟩)).2.2.1 ((lM.fa (S := (pAv T n (pAv T n (pSt 6 row 3 (pNw T n 2 row S))))) ((lM.nt (S := (pAv T n (pNw T n 2 row S))) (lM.nx (S := (pNw T n 2 row S)) (lM.nw hl f1 z1 t1) f17 r17) f18 t18).sr (j := 6) (v := 3) (by decide) (by decide) (show row < 8 by omega) (by intro x hx; simp at hx)) f19 z19 t19).sr (j := 7) (v := nI (zV (pFn T n 0 (pAv T n (pAv T n (pSt 6 row 3 (pNw T n 2 row S))))))) (by decide) (by decide) (show row < 8 by omega) (by intro x hx; simp at hx; subst hx; exact ⟨by decide, by decide, (show row < 8 by omega)⟩)).2.1 (by decide) (by decide) (by decide) (by decide)
          · skip
            refine we_callV_int (p := 153) (k' := 5) (a := [.ref 95, .ref (sp_S + 19), .int 0, .int 99]) (rr := [.int (nI (27 + 4 * row + 2)), .ref 99]) dX12_womanLine_150 rfl rfl rfl rfl (rc_of rfl rfl (by decide) ⟨rfl, by decide⟩) (Nat.le_of_ble_eq_true rfl) (Nat.le_of_ble_eq_true rfl) (by decide) e20 (Or.inl rfl) rfl ?_
            refine wf_iast (n := 276) (i := (27 + 4 * row + 2)) (p := 154) dX12_womanLine_153 rfl (by decide) (in_nJ (by omega) (by decide)) (nI_cl (by omega)) rfl ?_
            refine we_aload_n (p := 155) dX12_womanLine_154 rfl rfl ?_
            refine we_getR (c := 11) (j := 16) (n := 37) (b := 99) (p := 158) dX12_womanLine_155 rfl rfl (by decide) (by decide) rfl (r_95_16 hF) rfl ?_
            refine we_iload_n (p := 159) dX12_womanLine_158 rfl rfl ?_
            refine we_iconst (v := 3) (p := 160) dX12_womanLine_159 (by decide) rfl ?_
            refine we_iadd (p := 161) dX12_womanLine_160 rfl ?_
            rw [show (nI (27 + 4 * row) + 3 : Int32) = nI (27 + 4 * row + 3) from nI_add (a := 27 + 4 * row) (b := 3)]
            refine we_aload_n (p := 162) dX12_womanLine_161 rfl rfl ?_
            refine we_ldcS (j := 20) (p := 164) dX12_womanLine_162 rfl rfl rfl ?_
            refine we_iconst (v := 0) (p := 165) dX12_womanLine_164 (by decide) rfl ?_
            refine we_bipush (v := 60) (p := 167) dX12_womanLine_165 (by decide) rfl ?_
            obtain ⟨_, _, e21, I21, rfl, f21, ⟨z21, rfl, t21⟩ | ⟨z21, rfl, g21⟩⟩ := y_afterW (S := (pSt 8 row (nI (zV (pTk T n 17 0 99 (pAv T n (pSt 7 row (nI (zV (pFn T n 0 (pAv T n (pAv T n (pSt 6 row 3 (pNw T n 2 row S))))))) (pFn T n 0 (pAv T n (pAv T n (pSt 6 row 3 (pNw T n 2 row S)))))))))) (pTk T n 17 0 99 (pAv T n (pSt 7 row (nI (zV (pFn T n 0 (pAv T n (pAv T n (pSt 6 row 3 (pNw T n 2 row S))))))) (pFn T n 0 (pAv T n (pAv T n (pSt 6 row 3 (pNw T n 2 row S)))))))))) (j := 20) (w := 18) (lo := 0) (hi := 60) rfl hF ((lM.tk (S := (pAv T n (pSt 7 row (nI (zV (pFn T n 0 (pAv T n (pAv T n (pSt 6 row 3 (pNw T n 2 row S))))))) (pFn T n 0 (pAv T n (pAv T n (pSt 6 row 3 (pNw T n 2 row S)))))))) ((lM.fa (S := (pAv T n (pAv T n (pSt 6 row 3 (pNw T n 2 row S))))) ((lM.nt (S := (pAv T n (pNw T n 2 row S))) (lM.nx (S := (pNw T n 2 row S)) (lM.nw hl f1 z1 t1) f17 r17) f18 t18).sr (j := 6) (v := 3) (by decide) (by decide) (show row < 8 by omega) (by intro x hx; simp at hx)) f19 z19 t19).sr (j := 7) (v := nI (zV (pFn T n 0 (pAv T n (pAv T n (pSt 6 row 3 (pNw T n 2 row S))))))) (by decide) (by decide) (show row < 8 by omega) (by intro x hx; simp at hx; subst hx; exact ⟨by decide, by decide, (show row < 8 by omega)⟩)) f20 z20 t20).sr (j := 8) (v := nI (zV (pTk T n 17 0 99 (pAv T n (pSt 7 row (nI (zV (pFn T n 0 (pAv T n (pAv T n (pSt 6 row 3 (pNw T n 2 row S))))))) (pFn T n 0 (pAv T n (pAv T n (pSt 6 row 3 (pNw T n 2 row S)))))))))) (by decide) (by decide) (show row < 8 by omega) (by intro x hx; simp at hx; rcases hx with rfl | rfl <;> exact ⟨by decide, by decide, (show row < 8 by omega)⟩)).2.2.1 ((lM.tk (S := (pAv T n (pSt 7 row (nI (zV (pFn T n 0 (pAv T n (pAv T n (pSt 6 row 3 (pNw T n 2 row S))))))) (pFn T n 0 (pAv T n (pAv T n (pSt 6 row 3 (pNw T n 2 row S)))))))) ((lM.fa (S := (pAv T n (pAv T n (pSt 6 row 3 (pNw T n 2 row S))))) ((lM.nt (S := (pAv T n (pNw T n 2 row S))) (lM.nx (S := (pNw T n 2 row S)) (lM.nw hl f1 z1 t1) f17 r17) f18 t18).sr (j := 6) (v := 3) (by decide) (by decide) (show row < 8 by omega) (by intro x hx; simp at hx)) f19 z19 t19).sr (j := 7) (v := nI (zV (pFn T n 0 (pAv T n (pAv T n (pSt 6 row 3 (pNw T n 2 row S))))))) (by decide) (by decide) (show row < 8 by omega) (by intro x hx; simp at hx; subst hx; exact ⟨by decide, by decide, (show row < 8 by omega)⟩)) f20 z20 t20).sr (j := 8) (v := nI (zV (pTk T n 17 0 99 (pAv T n (pSt 7 row (nI (zV (pFn T n 0 (pAv T n (pAv T n (pSt 6 row 3 (pNw T n 2 row S))))))) (pFn T n 0 (pAv T n (pAv T n (pSt 6 row 3 (pNw T n 2 row S)))))))))) (by decide) (by decide) (show row < 8 by omega) (by intro x hx; simp at hx; rcases hx with rfl | rfl <;> exact ⟨by decide, by decide, (show row < 8 by omega)⟩)).2.1 (by decide) (by decide) (by decide) (by decide)
            · skip
              refine we_callV_int (p := 170) (k' := 5) (a := [.ref 95, .ref (sp_S + 20), .int 0, .int 60]) (rr := [.int (nI (27 + 4 * row + 3)), .ref 99]) dX12_womanLine_167 rfl rfl rfl rfl (rc_of rfl rfl (by decide) ⟨rfl, by decide⟩) (Nat.le_of_ble_eq_true rfl) (Nat.le_of_ble_eq_true rfl) (by decide) e21 (Or.inl rfl) rfl ?_
              refine wf_iast (n := 276) (i := (27 + 4 * row + 3)) (p := 171) dX12_womanLine_170 rfl (by decide) (in_nJ (by omega) (by decide)) (nI_cl (by omega)) rfl ?_
              refine we_aload_n (p := 172) dX12_womanLine_171 rfl rfl ?_
              refine wf_getI (c := 11) (j := 13) (n := 37) (v := 0) (p := 175) dX12_womanLine_172 rfl rfl (by decide) (by decide) (Or.inr rfl) ((lM.tk (S := (pSt 8 row (nI (zV (pTk T n 17 0 99 (pAv T n (pSt 7 row (nI (zV (pFn T n 0 (pAv T n (pAv T n (pSt 6 row 3 (pNw T n 2 row S))))))) (pFn T n 0 (pAv T n (pAv T n (pSt 6 row 3 (pNw T n 2 row S)))))))))) (pTk T n 17 0 99 (pAv T n (pSt 7 row (nI (zV (pFn T n 0 (pAv T n (pAv T n (pSt 6 row 3 (pNw T n 2 row S))))))) (pFn T n 0 (pAv T n (pAv T n (pSt 6 row 3 (pNw T n 2 row S)))))))))) ((lM.tk (S := (pAv T n (pSt 7 row (nI (zV (pFn T n 0 (pAv T n (pAv T n (pSt 6 row 3 (pNw T n 2 row S))))))) (pFn T n 0 (pAv T n (pAv T n (pSt 6 row 3 (pNw T n 2 row S)))))))) ((lM.fa (S := (pAv T n (pAv T n (pSt 6 row 3 (pNw T n 2 row S))))) ((lM.nt (S := (pAv T n (pNw T n 2 row S))) (lM.nx (S := (pNw T n 2 row S)) (lM.nw hl f1 z1 t1) f17 r17) f18 t18).sr (j := 6) (v := 3) (by decide) (by decide) (show row < 8 by omega) (by intro x hx; simp at hx)) f19 z19 t19).sr (j := 7) (v := nI (zV (pFn T n 0 (pAv T n (pAv T n (pSt 6 row 3 (pNw T n 2 row S))))))) (by decide) (by decide) (show row < 8 by omega) (by intro x hx; simp at hx; subst hx; exact ⟨by decide, by decide, (show row < 8 by omega)⟩)) f20 z20 t20).sr (j := 8) (v := nI (zV (pTk T n 17 0 99 (pAv T n (pSt 7 row (nI (zV (pFn T n 0 (pAv T n (pAv T n (pSt 6 row 3 (pNw T n 2 row S))))))) (pFn T n 0 (pAv T n (pAv T n (pSt 6 row 3 (pNw T n 2 row S)))))))))) (by decide) (by decide) (show row < 8 by omega) (by intro x hx; simp at hx; rcases hx with rfl | rfl <;> exact ⟨by decide, by decide, (show row < 8 by omega)⟩)) f21 z21 t21).sr (j := 9) (v := nI (zV (pTk T n 18 0 60 (pSt 8 row (nI (zV (pTk T n 17 0 99 (pAv T n (pSt 7 row (nI (zV (pFn T n 0 (pAv T n (pAv T n (pSt 6 row 3 (pNw T n 2 row S))))))) (pFn T n 0 (pAv T n (pAv T n (pSt 6 row 3 (pNw T n 2 row S)))))))))) (pTk T n 17 0 99 (pAv T n (pSt 7 row (nI (zV (pFn T n 0 (pAv T n (pAv T n (pSt 6 row 3 (pNw T n 2 row S))))))) (pFn T n 0 (pAv T n (pAv T n (pSt 6 row 3 (pNw T n 2 row S)))))))))))) (by decide) (by decide) (show row < 8 by omega) (by intro x hx; simp at hx; rcases hx with rfl | rfl | rfl <;> exact ⟨by decide, by decide, (show row < 8 by omega)⟩)).2.2.1.2.2.2.1 rfl ?_
              refine we_if_ne (t := 188) (p := 178) dX12_womanLine_175 (by decide) rfl rfl (fun hc175 => absurd (by decide) hc175) (fun hc175 => ?_)
              refine we_aload_n (p := 179) dX12_womanLine_178 rfl rfl ?_
              refine we_getR (c := 11) (j := 16) (n := 37) (b := 99) (p := 182) dX12_womanLine_179 rfl rfl (by decide) (by decide) rfl (r_95_16 hF) rfl ?_
              refine we_iconst (v := 4) (p := 183) dX12_womanLine_182 (by decide) rfl ?_
              refine we_dup2 (p := 184) dX12_womanLine_183 rfl ?_
              refine wf_iald (n := 276) (i := 4) (v := nI row) (p := 185) dX12_womanLine_184 rfl (by decide) (by decide) (by decide) (((lM.tk (S := (pSt 8 row (nI (zV (pTk T n 17 0 99 (pAv T n (pSt 7 row (nI (zV (pFn T n 0 (pAv T n (pAv T n (pSt 6 row 3 (pNw T n 2 row S))))))) (pFn T n 0 (pAv T n (pAv T n (pSt 6 row 3 (pNw T n 2 row S)))))))))) (pTk T n 17 0 99 (pAv T n (pSt 7 row (nI (zV (pFn T n 0 (pAv T n (pAv T n (pSt 6 row 3 (pNw T n 2 row S))))))) (pFn T n 0 (pAv T n (pAv T n (pSt 6 row 3 (pNw T n 2 row S)))))))))) ((lM.tk (S := (pAv T n (pSt 7 row (nI (zV (pFn T n 0 (pAv T n (pAv T n (pSt 6 row 3 (pNw T n 2 row S))))))) (pFn T n 0 (pAv T n (pAv T n (pSt 6 row 3 (pNw T n 2 row S)))))))) ((lM.fa (S := (pAv T n (pAv T n (pSt 6 row 3 (pNw T n 2 row S))))) ((lM.nt (S := (pAv T n (pNw T n 2 row S))) (lM.nx (S := (pNw T n 2 row S)) (lM.nw hl f1 z1 t1) f17 r17) f18 t18).sr (j := 6) (v := 3) (by decide) (by decide) (show row < 8 by omega) (by intro x hx; simp at hx)) f19 z19 t19).sr (j := 7) (v := nI (zV (pFn T n 0 (pAv T n (pAv T n (pSt 6 row 3 (pNw T n 2 row S))))))) (by decide) (by decide) (show row < 8 by omega) (by intro x hx; simp at hx; subst hx; exact ⟨by decide, by decide, (show row < 8 by omega)⟩)) f20 z20 t20).sr (j := 8) (v := nI (zV (pTk T n 17 0 99 (pAv T n (pSt 7 row (nI (zV (pFn T n 0 (pAv T n (pAv T n (pSt 6 row 3 (pNw T n 2 row S))))))) (pFn T n 0 (pAv T n (pAv T n (pSt 6 row 3 (pNw T n 2 row S)))))))))) (by decide) (by decide) (show row < 8 by omega) (by intro x hx; simp at hx; rcases hx with rfl | rfl <;> exact ⟨by decide, by decide, (show row < 8 by omega)⟩)) f21 z21 t21).sr (j := 9) (v := nI (zV (pTk T n 18 0 60 (pSt 8 row (nI (zV (pTk T n 17 0 99 (pAv T n (pSt 7 row (nI (zV (pFn T n 0 (pAv T n (pAv T n (pSt 6 row 3 (pNw T n 2 row S))))))) (pFn T n 0 (pAv T n (pAv T n (pSt 6 row 3 (pNw T n 2 row S)))))))))) (pTk T n 17 0 99 (pAv T n (pSt 7 row (nI (zV (pFn T n 0 (pAv T n (pAv T n (pSt 6 row 3 (pNw T n 2 row S))))))) (pFn T n 0 (pAv T n (pAv T n (pSt 6 row 3 (pNw T n 2 row S)))))))))))) (by decide) (by decide) (show row < 8 by omega) (by intro x hx; simp at hx; rcases hx with rfl | rfl | rfl <;> exact ⟨by decide, by decide, (show row < 8 by omega)⟩)).cnt (by decide)) rfl ?_
              refine we_iconst (v := 1) (p := 186) dX12_womanLine_185 (by decide) rfl ?_
              refine we_iadd (p := 187) dX12_womanLine_186 rfl ?_
              rw [nI_1]
              refine wf_iast (n := 276) (i := 4) (p := 188) dX12_womanLine_187 rfl (by decide) (by decide) (by decide) rfl ?_
              exact wv_ret dX12_womanLine_188 rfl (RmL.ok (S := (pSt 9 row (nI (zV (pTk T n 18 0 60 (pSt 8 row (nI (zV (pTk T n 17 0 99 (pAv T n (pSt 7 row (nI (zV (pFn T n 0 (pAv T n (pAv T n (pSt 6 row 3 (pNw T n 2 row S))))))) (pFn T n 0 (pAv T n (pAv T n (pSt 6 row 3 (pNw T n 2 row S)))))))))) (pTk T n 17 0 99 (pAv T n (pSt 7 row (nI (zV (pFn T n 0 (pAv T n (pAv T n (pSt 6 row 3 (pNw T n 2 row S))))))) (pFn T n 0 (pAv T n (pAv T n (pSt 6 row 3 (pNw T n 2 row S)))))))))))) (pTk T n 18 0 60 (pSt 8 row (nI (zV (pTk T n 17 0 99 (pAv T n (pSt 7 row (nI (zV (pFn T n 0 (pAv T n (pAv T n (pSt 6 row 3 (pNw T n 2 row S))))))) (pFn T n 0 (pAv T n (pAv T n (pSt 6 row 3 (pNw T n 2 row S)))))))))) (pTk T n 17 0 99 (pAv T n (pSt 7 row (nI (zV (pFn T n 0 (pAv T n (pAv T n (pSt 6 row 3 (pNw T n 2 row S))))))) (pFn T n 0 (pAv T n (pAv T n (pSt 6 row 3 (pNw T n 2 row S)))))))))))) ((congrArg (fun z => pB z (pIn 2)) (show pWom T n row S = (pSt 9 row (nI (zV (pTk T n 18 0 60 (pSt 8 row (nI (zV (pTk T n 17 0 99 (pAv T n (pSt 7 row (nI (zV (pFn T n 0 (pAv T n (pAv T n (pSt 6 row 3 (pNw T n 2 row S))))))) (pFn T n 0 (pAv T n (pAv T n (pSt 6 row 3 (pNw T n 2 row S)))))))))) (pTk T n 17 0 99 (pAv T n (pSt 7 row (nI (zV (pFn T n 0 (pAv T n (pAv T n (pSt 6 row 3 (pNw T n 2 row S))))))) (pFn T n 0 (pAv T n (pAv T n (pSt 6 row 3 (pNw T n 2 row S)))))))))))) (pTk T n 18 0 60 (pSt 8 row (nI (zV (pTk T n 17 0 99 (pAv T n (pSt 7 row (nI (zV (pFn T n 0 (pAv T n (pAv T n (pSt 6 row 3 (pNw T n 2 row S))))))) (pFn T n 0 (pAv T n (pAv T n (pSt 6 row 3 (pNw T n 2 row S)))))))))) (pTk T n 17 0 99 (pAv T n (pSt 7 row (nI (zV (pFn T n 0 (pAv T n (pAv T n (pSt 6 row 3 (pNw T n 2 row S))))))) (pFn T n 0 (pAv T n (pAv T n (pSt 6 row 3 (pNw T n 2 row S))))))))))) from by
      unfold pWom
      rw [pB_y (S := (pNw T n 2 row S)) z1]
      refine (if_neg (by rw [hk11]; decide)).trans ((if_neg (by rw [hk11]; decide)).trans ?_)
      rw [hk11, show (nI 11 - 8 : Int32) = 3 from rfl]
      unfold pWom2
      rw [if_pos (show tQ T n (zP (pAv T n (pSt 6 row 3 (pNw T n 2 row S)))) = nI 16 from hin), pB_y (S := (pFn T n 0 (pAv T n (pAv T n (pSt 6 row 3 (pNw T n 2 row S)))))) z19, pB_y (S := (pTk T n 17 0 99 (pAv T n (pSt 7 row (nI (zV (pFn T n 0 (pAv T n (pAv T n (pSt 6 row 3 (pNw T n 2 row S))))))) (pFn T n 0 (pAv T n (pAv T n (pSt 6 row 3 (pNw T n 2 row S))))))))) z20, pB_y (S := (pTk T n 18 0 60 (pSt 8 row (nI (zV (pTk T n 17 0 99 (pAv T n (pSt 7 row (nI (zV (pFn T n 0 (pAv T n (pAv T n (pSt 6 row 3 (pNw T n 2 row S))))))) (pFn T n 0 (pAv T n (pAv T n (pSt 6 row 3 (pNw T n 2 row S)))))))))) (pTk T n 17 0 99 (pAv T n (pSt 7 row (nI (zV (pFn T n 0 (pAv T n (pAv T n (pSt 6 row 3 (pNw T n 2 row S))))))) (pFn T n 0 (pAv T n (pAv T n (pSt 6 row 3 (pNw T n 2 row S))))))))))) z21])).trans (pB_y ((lM.tk (S := (pSt 8 row (nI (zV (pTk T n 17 0 99 (pAv T n (pSt 7 row (nI (zV (pFn T n 0 (pAv T n (pAv T n (pSt 6 row 3 (pNw T n 2 row S))))))) (pFn T n 0 (pAv T n (pAv T n (pSt 6 row 3 (pNw T n 2 row S)))))))))) (pTk T n 17 0 99 (pAv T n (pSt 7 row (nI (zV (pFn T n 0 (pAv T n (pAv T n (pSt 6 row 3 (pNw T n 2 row S))))))) (pFn T n 0 (pAv T n (pAv T n (pSt 6 row 3 (pNw T n 2 row S)))))))))) ((lM.tk (S := (pAv T n (pSt 7 row (nI (zV (pFn T n 0 (pAv T n (pAv T n (pSt 6 row 3 (pNw T n 2 row S))))))) (pFn T n 0 (pAv T n (pAv T n (pSt 6 row 3 (pNw T n 2 row S)))))))) ((lM.fa (S := (pAv T n (pAv T n (pSt 6 row 3 (pNw T n 2 row S))))) ((lM.nt (S := (pAv T n (pNw T n 2 row S))) (lM.nx (S := (pNw T n 2 row S)) (lM.nw hl f1 z1 t1) f17 r17) f18 t18).sr (j := 6) (v := 3) (by decide) (by decide) (show row < 8 by omega) (by intro x hx; simp at hx)) f19 z19 t19).sr (j := 7) (v := nI (zV (pFn T n 0 (pAv T n (pAv T n (pSt 6 row 3 (pNw T n 2 row S))))))) (by decide) (by decide) (show row < 8 by omega) (by intro x hx; simp at hx; subst hx; exact ⟨by decide, by decide, (show row < 8 by omega)⟩)) f20 z20 t20).sr (j := 8) (v := nI (zV (pTk T n 17 0 99 (pAv T n (pSt 7 row (nI (zV (pFn T n 0 (pAv T n (pAv T n (pSt 6 row 3 (pNw T n 2 row S))))))) (pFn T n 0 (pAv T n (pAv T n (pSt 6 row 3 (pNw T n 2 row S)))))))))) (by decide) (by decide) (show row < 8 by omega) (by intro x hx; simp at hx; rcases hx with rfl | rfl <;> exact ⟨by decide, by decide, (show row < 8 by omega)⟩)) f21 z21 t21).sr (j := 9) (v := nI (zV (pTk T n 18 0 60 (pSt 8 row (nI (zV (pTk T n 17 0 99 (pAv T n (pSt 7 row (nI (zV (pFn T n 0 (pAv T n (pAv T n (pSt 6 row 3 (pNw T n 2 row S))))))) (pFn T n 0 (pAv T n (pAv T n (pSt 6 row 3 (pNw T n 2 row S)))))))))) (pTk T n 17 0 99 (pAv T n (pSt 7 row (nI (zV (pFn T n 0 (pAv T n (pAv T n (pSt 6 row 3 (pNw T n 2 row S))))))) (pFn T n 0 (pAv T n (pAv T n (pSt 6 row 3 (pNw T n 2 row S)))))))))))) (by decide) (by decide) (show row < 8 by omega) (by intro x hx; simp at hx; rcases hx with rfl | rfl | rfl <;> exact ⟨by decide, by decide, (show row < 8 by omega)⟩)).2.1)) ((lM.tk (S := (pSt 8 row (nI (zV (pTk T n 17 0 99 (pAv T n (pSt 7 row (nI (zV (pFn T n 0 (pAv T n (pAv T n (pSt 6 row 3 (pNw T n 2 row S))))))) (pFn T n 0 (pAv T n (pAv T n (pSt 6 row 3 (pNw T n 2 row S)))))))))) (pTk T n 17 0 99 (pAv T n (pSt 7 row (nI (zV (pFn T n 0 (pAv T n (pAv T n (pSt 6 row 3 (pNw T n 2 row S))))))) (pFn T n 0 (pAv T n (pAv T n (pSt 6 row 3 (pNw T n 2 row S)))))))))) ((lM.tk (S := (pAv T n (pSt 7 row (nI (zV (pFn T n 0 (pAv T n (pAv T n (pSt 6 row 3 (pNw T n 2 row S))))))) (pFn T n 0 (pAv T n (pAv T n (pSt 6 row 3 (pNw T n 2 row S)))))))) ((lM.fa (S := (pAv T n (pAv T n (pSt 6 row 3 (pNw T n 2 row S))))) ((lM.nt (S := (pAv T n (pNw T n 2 row S))) (lM.nx (S := (pNw T n 2 row S)) (lM.nw hl f1 z1 t1) f17 r17) f18 t18).sr (j := 6) (v := 3) (by decide) (by decide) (show row < 8 by omega) (by intro x hx; simp at hx)) f19 z19 t19).sr (j := 7) (v := nI (zV (pFn T n 0 (pAv T n (pAv T n (pSt 6 row 3 (pNw T n 2 row S))))))) (by decide) (by decide) (show row < 8 by omega) (by intro x hx; simp at hx; subst hx; exact ⟨by decide, by decide, (show row < 8 by omega)⟩)) f20 z20 t20).sr (j := 8) (v := nI (zV (pTk T n 17 0 99 (pAv T n (pSt 7 row (nI (zV (pFn T n 0 (pAv T n (pAv T n (pSt 6 row 3 (pNw T n 2 row S))))))) (pFn T n 0 (pAv T n (pAv T n (pSt 6 row 3 (pNw T n 2 row S)))))))))) (by decide) (by decide) (show row < 8 by omega) (by intro x hx; simp at hx; rcases hx with rfl | rfl <;> exact ⟨by decide, by decide, (show row < 8 by omega)⟩)) f21 z21 t21).sr (j := 9) (v := nI (zV (pTk T n 18 0 60 (pSt 8 row (nI (zV (pTk T n 17 0 99 (pAv T n (pSt 7 row (nI (zV (pFn T n 0 (pAv T n (pAv T n (pSt 6 row 3 (pNw T n 2 row S))))))) (pFn T n 0 (pAv T n (pAv T n (pSt 6 row 3 (pNw T n 2 row S)))))))))) (pTk T n 17 0 99 (pAv T n (pSt 7 row (nI (zV (pFn T n 0 (pAv T n (pAv T n (pSt 6 row 3 (pNw T n 2 row S))))))) (pFn T n 0 (pAv T n (pAv T n (pSt 6 row 3 (pNw T n 2 row S)))))))))))) (by decide) (by decide) (show row < 8 by omega) (by intro x hx; simp at hx; rcases hx with rfl | rfl | rfl <;> exact ⟨by decide, by decide, (show row < 8 by omega)⟩)) (by decide) (show row < 8 by omega) (by decide) rfl)
            · skip
              refine we_callV_int (p := 170) (k' := 5) (a := [.ref 95, .ref (sp_S + 20), .int 0, .int 60]) (rr := [.int (nI (27 + 4 * row + 3)), .ref 99]) dX12_womanLine_167 rfl rfl rfl rfl (rc_of rfl rfl (by decide) ⟨rfl, by decide⟩) (Nat.le_of_ble_eq_true rfl) (Nat.le_of_ble_eq_true rfl) (by decide) e21 (Or.inl rfl) rfl ?_
              refine wf_iast (n := 276) (i := (27 + 4 * row + 3)) (p := 171) dX12_womanLine_170 rfl (by decide) (in_nJ (by omega) (by decide)) (nI_cl (by omega)) rfl ?_
              refine we_aload_n (p := 172) dX12_womanLine_171 rfl rfl ?_
              refine wf_getI (c := 11) (j := 13) (n := 37) (v := 1) (p := 175) dX12_womanLine_172 rfl rfl (by decide) (by decide) (Or.inr rfl) (((((lM.tk (S := (pAv T n (pSt 7 row (nI (zV (pFn T n 0 (pAv T n (pAv T n (pSt 6 row 3 (pNw T n 2 row S))))))) (pFn T n 0 (pAv T n (pAv T n (pSt 6 row 3 (pNw T n 2 row S)))))))) ((lM.fa (S := (pAv T n (pAv T n (pSt 6 row 3 (pNw T n 2 row S))))) ((lM.nt (S := (pAv T n (pNw T n 2 row S))) (lM.nx (S := (pNw T n 2 row S)) (lM.nw hl f1 z1 t1) f17 r17) f18 t18).sr (j := 6) (v := 3) (by decide) (by decide) (show row < 8 by omega) (by intro x hx; simp at hx)) f19 z19 t19).sr (j := 7) (v := nI (zV (pFn T n 0 (pAv T n (pAv T n (pSt 6 row 3 (pNw T n 2 row S))))))) (by decide) (by decide) (show row < 8 by omega) (by intro x hx; simp at hx; subst hx; exact ⟨by decide, by decide, (show row < 8 by omega)⟩)) f20 z20 t20).sr (j := 8) (v := nI (zV (pTk T n 17 0 99 (pAv T n (pSt 7 row (nI (zV (pFn T n 0 (pAv T n (pAv T n (pSt 6 row 3 (pNw T n 2 row S))))))) (pFn T n 0 (pAv T n (pAv T n (pSt 6 row 3 (pNw T n 2 row S)))))))))) (by decide) (by decide) (show row < 8 by omega) (by intro x hx; simp at hx; rcases hx with rfl | rfl <;> exact ⟨by decide, by decide, (show row < 8 by omega)⟩)).no f21 z21 g21).u)).2.2.1 rfl ?_
              refine we_if_ne (t := 188) (p := 178) dX12_womanLine_175 (by decide) rfl rfl (fun hc175 => ?_) (fun hc175 => absurd hc175 (by decide))
              exact wv_ret dX12_womanLine_188 rfl (RmL.no (X := (pTk T n 18 0 60 (pSt 8 row (nI (zV (pTk T n 17 0 99 (pAv T n (pSt 7 row (nI (zV (pFn T n 0 (pAv T n (pAv T n (pSt 6 row 3 (pNw T n 2 row S))))))) (pFn T n 0 (pAv T n (pAv T n (pSt 6 row 3 (pNw T n 2 row S)))))))))) (pTk T n 17 0 99 (pAv T n (pSt 7 row (nI (zV (pFn T n 0 (pAv T n (pAv T n (pSt 6 row 3 (pNw T n 2 row S))))))) (pFn T n 0 (pAv T n (pAv T n (pSt 6 row 3 (pNw T n 2 row S))))))))))) ((congrArg (fun z => pB z (pIn 2)) (show pWom T n row S = (pTk T n 18 0 60 (pSt 8 row (nI (zV (pTk T n 17 0 99 (pAv T n (pSt 7 row (nI (zV (pFn T n 0 (pAv T n (pAv T n (pSt 6 row 3 (pNw T n 2 row S))))))) (pFn T n 0 (pAv T n (pAv T n (pSt 6 row 3 (pNw T n 2 row S)))))))))) (pTk T n 17 0 99 (pAv T n (pSt 7 row (nI (zV (pFn T n 0 (pAv T n (pAv T n (pSt 6 row 3 (pNw T n 2 row S))))))) (pFn T n 0 (pAv T n (pAv T n (pSt 6 row 3 (pNw T n 2 row S)))))))))) from by
      unfold pWom
      rw [pB_y (S := (pNw T n 2 row S)) z1]
      refine (if_neg (by rw [hk11]; decide)).trans ((if_neg (by rw [hk11]; decide)).trans ?_)
      rw [hk11, show (nI 11 - 8 : Int32) = 3 from rfl]
      unfold pWom2
      rw [if_pos (show tQ T n (zP (pAv T n (pSt 6 row 3 (pNw T n 2 row S)))) = nI 16 from hin), pB_y (S := (pFn T n 0 (pAv T n (pAv T n (pSt 6 row 3 (pNw T n 2 row S)))))) z19, pB_y (S := (pTk T n 17 0 99 (pAv T n (pSt 7 row (nI (zV (pFn T n 0 (pAv T n (pAv T n (pSt 6 row 3 (pNw T n 2 row S))))))) (pFn T n 0 (pAv T n (pAv T n (pSt 6 row 3 (pNw T n 2 row S))))))))) z20, pB_n (S := (pTk T n 18 0 60 (pSt 8 row (nI (zV (pTk T n 17 0 99 (pAv T n (pSt 7 row (nI (zV (pFn T n 0 (pAv T n (pAv T n (pSt 6 row 3 (pNw T n 2 row S))))))) (pFn T n 0 (pAv T n (pAv T n (pSt 6 row 3 (pNw T n 2 row S)))))))))) (pTk T n 17 0 99 (pAv T n (pSt 7 row (nI (zV (pFn T n 0 (pAv T n (pAv T n (pSt 6 row 3 (pNw T n 2 row S))))))) (pFn T n 0 (pAv T n (pAv T n (pSt 6 row 3 (pNw T n 2 row S))))))))))) z21])).trans (pB_n (S := (pTk T n 18 0 60 (pSt 8 row (nI (zV (pTk T n 17 0 99 (pAv T n (pSt 7 row (nI (zV (pFn T n 0 (pAv T n (pAv T n (pSt 6 row 3 (pNw T n 2 row S))))))) (pFn T n 0 (pAv T n (pAv T n (pSt 6 row 3 (pNw T n 2 row S)))))))))) (pTk T n 17 0 99 (pAv T n (pSt 7 row (nI (zV (pFn T n 0 (pAv T n (pAv T n (pSt 6 row 3 (pNw T n 2 row S))))))) (pFn T n 0 (pAv T n (pAv T n (pSt 6 row 3 (pNw T n 2 row S))))))))))) z21)) ((((lM.tk (S := (pAv T n (pSt 7 row (nI (zV (pFn T n 0 (pAv T n (pAv T n (pSt 6 row 3 (pNw T n 2 row S))))))) (pFn T n 0 (pAv T n (pAv T n (pSt 6 row 3 (pNw T n 2 row S)))))))) ((lM.fa (S := (pAv T n (pAv T n (pSt 6 row 3 (pNw T n 2 row S))))) ((lM.nt (S := (pAv T n (pNw T n 2 row S))) (lM.nx (S := (pNw T n 2 row S)) (lM.nw hl f1 z1 t1) f17 r17) f18 t18).sr (j := 6) (v := 3) (by decide) (by decide) (show row < 8 by omega) (by intro x hx; simp at hx)) f19 z19 t19).sr (j := 7) (v := nI (zV (pFn T n 0 (pAv T n (pAv T n (pSt 6 row 3 (pNw T n 2 row S))))))) (by decide) (by decide) (show row < 8 by omega) (by intro x hx; simp at hx; subst hx; exact ⟨by decide, by decide, (show row < 8 by omega)⟩)) f20 z20 t20).sr (j := 8) (v := nI (zV (pTk T n 17 0 99 (pAv T n (pSt 7 row (nI (zV (pFn T n 0 (pAv T n (pAv T n (pSt 6 row 3 (pNw T n 2 row S))))))) (pFn T n 0 (pAv T n (pAv T n (pSt 6 row 3 (pNw T n 2 row S)))))))))) (by decide) (by decide) (show row < 8 by omega) (by intro x hx; simp at hx; rcases hx with rfl | rfl <;> exact ⟨by decide, by decide, (show row < 8 by omega)⟩)).no f21 z21 g21).u))
          · skip
            refine we_callV_int (p := 153) (k' := 5) (a := [.ref 95, .ref (sp_S + 19), .int 0, .int 99]) (rr := [.int (nI (27 + 4 * row + 2)), .ref 99]) dX12_womanLine_150 rfl rfl rfl rfl (rc_of rfl rfl (by decide) ⟨rfl, by decide⟩) (Nat.le_of_ble_eq_true rfl) (Nat.le_of_ble_eq_true rfl) (by decide) e20 (Or.inl rfl) rfl ?_
            refine wf_iast (n := 276) (i := (27 + 4 * row + 2)) (p := 154) dX12_womanLine_153 rfl (by decide) (in_nJ (by omega) (by decide)) (nI_cl (by omega)) rfl ?_
            refine we_aload_n (p := 155) dX12_womanLine_154 rfl rfl ?_
            refine we_getR (c := 11) (j := 16) (n := 37) (b := 99) (p := 158) dX12_womanLine_155 rfl rfl (by decide) (by decide) rfl (r_95_16 hF) rfl ?_
            refine we_iload_n (p := 159) dX12_womanLine_158 rfl rfl ?_
            refine we_iconst (v := 3) (p := 160) dX12_womanLine_159 (by decide) rfl ?_
            refine we_iadd (p := 161) dX12_womanLine_160 rfl ?_
            rw [show (nI (27 + 4 * row) + 3 : Int32) = nI (27 + 4 * row + 3) from nI_add (a := 27 + 4 * row) (b := 3)]
            refine we_aload_n (p := 162) dX12_womanLine_161 rfl rfl ?_
            refine we_ldcS (j := 20) (p := 164) dX12_womanLine_162 rfl rfl rfl ?_
            refine we_iconst (v := 0) (p := 165) dX12_womanLine_164 (by decide) rfl ?_
            refine we_bipush (v := 60) (p := 167) dX12_womanLine_165 (by decide) rfl ?_
            refine we_callV_int (p := 170) (k' := 5) (a := [.ref 95, .ref (sp_S + 20), .int 0, .int 60]) (rr := [.int (nI (27 + 4 * row + 3)), .ref 99]) dX12_womanLine_167 rfl rfl rfl rfl (rc_of rfl rfl (by decide) ⟨rfl, by decide⟩) (Nat.le_of_ble_eq_true rfl) (Nat.le_of_ble_eq_true rfl) (by decide) (y_after_f hF (((((lM.fa (S := (pAv T n (pAv T n (pSt 6 row 3 (pNw T n 2 row S))))) ((lM.nt (S := (pAv T n (pNw T n 2 row S))) (lM.nx (S := (pNw T n 2 row S)) (lM.nw hl f1 z1 t1) f17 r17) f18 t18).sr (j := 6) (v := 3) (by decide) (by decide) (show row < 8 by omega) (by intro x hx; simp at hx)) f19 z19 t19).sr (j := 7) (v := nI (zV (pFn T n 0 (pAv T n (pAv T n (pSt 6 row 3 (pNw T n 2 row S))))))) (by decide) (by decide) (show row < 8 by omega) (by intro x hx; simp at hx; subst hx; exact ⟨by decide, by decide, (show row < 8 by omega)⟩)).no f20 z20 g20).u)).2.2.1) (Or.inl rfl) rfl ?_
            refine wf_iast (n := 276) (i := (27 + 4 * row + 3)) (p := 171) dX12_womanLine_170 rfl (by decide) (in_nJ (by omega) (by decide)) (nI_cl (by omega)) rfl ?_
            refine we_aload_n (p := 172) dX12_womanLine_171 rfl rfl ?_
            refine wf_getI (c := 11) (j := 13) (n := 37) (v := 1) (p := 175) dX12_womanLine_172 rfl rfl (by decide) (by decide) (Or.inr rfl) ((((((lM.fa (S := (pAv T n (pAv T n (pSt 6 row 3 (pNw T n 2 row S))))) ((lM.nt (S := (pAv T n (pNw T n 2 row S))) (lM.nx (S := (pNw T n 2 row S)) (lM.nw hl f1 z1 t1) f17 r17) f18 t18).sr (j := 6) (v := 3) (by decide) (by decide) (show row < 8 by omega) (by intro x hx; simp at hx)) f19 z19 t19).sr (j := 7) (v := nI (zV (pFn T n 0 (pAv T n (pAv T n (pSt 6 row 3 (pNw T n 2 row S))))))) (by decide) (by decide) (show row < 8 by omega) (by intro x hx; simp at hx; subst hx; exact ⟨by decide, by decide, (show row < 8 by omega)⟩)).no f20 z20 g20).u).u)).2.2.1 rfl ?_
            refine we_if_ne (t := 188) (p := 178) dX12_womanLine_175 (by decide) rfl rfl (fun hc175 => ?_) (fun hc175 => absurd hc175 (by decide))
            exact wv_ret dX12_womanLine_188 rfl (RmL.no (X := (pTk T n 17 0 99 (pAv T n (pSt 7 row (nI (zV (pFn T n 0 (pAv T n (pAv T n (pSt 6 row 3 (pNw T n 2 row S))))))) (pFn T n 0 (pAv T n (pAv T n (pSt 6 row 3 (pNw T n 2 row S))))))))) ((congrArg (fun z => pB z (pIn 2)) (show pWom T n row S = (pTk T n 17 0 99 (pAv T n (pSt 7 row (nI (zV (pFn T n 0 (pAv T n (pAv T n (pSt 6 row 3 (pNw T n 2 row S))))))) (pFn T n 0 (pAv T n (pAv T n (pSt 6 row 3 (pNw T n 2 row S)))))))) from by
      unfold pWom
      rw [pB_y (S := (pNw T n 2 row S)) z1]
      refine (if_neg (by rw [hk11]; decide)).trans ((if_neg (by rw [hk11]; decide)).trans ?_)
      rw [hk11, show (nI 11 - 8 : Int32) = 3 from rfl]
      unfold pWom2
      rw [if_pos (show tQ T n (zP (pAv T n (pSt 6 row 3 (pNw T n 2 row S)))) = nI 16 from hin), pB_y (S := (pFn T n 0 (pAv T n (pAv T n (pSt 6 row 3 (pNw T n 2 row S)))))) z19, pB_n (S := (pTk T n 17 0 99 (pAv T n (pSt 7 row (nI (zV (pFn T n 0 (pAv T n (pAv T n (pSt 6 row 3 (pNw T n 2 row S))))))) (pFn T n 0 (pAv T n (pAv T n (pSt 6 row 3 (pNw T n 2 row S))))))))) z20])).trans (pB_n (S := (pTk T n 17 0 99 (pAv T n (pSt 7 row (nI (zV (pFn T n 0 (pAv T n (pAv T n (pSt 6 row 3 (pNw T n 2 row S))))))) (pFn T n 0 (pAv T n (pAv T n (pSt 6 row 3 (pNw T n 2 row S))))))))) z20)) (((((lM.fa (S := (pAv T n (pAv T n (pSt 6 row 3 (pNw T n 2 row S))))) ((lM.nt (S := (pAv T n (pNw T n 2 row S))) (lM.nx (S := (pNw T n 2 row S)) (lM.nw hl f1 z1 t1) f17 r17) f18 t18).sr (j := 6) (v := 3) (by decide) (by decide) (show row < 8 by omega) (by intro x hx; simp at hx)) f19 z19 t19).sr (j := 7) (v := nI (zV (pFn T n 0 (pAv T n (pAv T n (pSt 6 row 3 (pNw T n 2 row S))))))) (by decide) (by decide) (show row < 8 by omega) (by intro x hx; simp at hx; subst hx; exact ⟨by decide, by decide, (show row < 8 by omega)⟩)).no f20 z20 g20).u).u))
        · skip
          refine we_callV_int (p := 136) (k' := 6) (a := [.ref 95]) (rr := [.int (nI (27 + 4 * row + 1)), .ref 99]) dX12_womanLine_133 rfl rfl rfl rfl (rc_of rfl rfl (by decide) ⟨rfl, by decide⟩) (Nat.le_of_ble_eq_true rfl) (Nat.le_of_ble_eq_true rfl) (by decide) e19 (Or.inl rfl) rfl ?_
          refine wf_iast (n := 276) (i := (27 + 4 * row + 1)) (p := 137) dX12_womanLine_136 rfl (by decide) (in_nJ (by omega) (by decide)) (nI_cl (by omega)) rfl ?_
          refine we_aload_n (p := 138) dX12_womanLine_137 rfl rfl ?_
          refine we_getR (c := 11) (j := 16) (n := 37) (b := 99) (p := 141) dX12_womanLine_138 rfl rfl (by decide) (by decide) rfl (r_95_16 hF) rfl ?_
          refine we_iload_n (p := 142) dX12_womanLine_141 rfl rfl ?_
          refine we_iconst (v := 2) (p := 143) dX12_womanLine_142 (by decide) rfl ?_
          refine we_iadd (p := 144) dX12_womanLine_143 rfl ?_
          rw [show (nI (27 + 4 * row) + 2 : Int32) = nI (27 + 4 * row + 2) from nI_add (a := 27 + 4 * row) (b := 2)]
          refine we_aload_n (p := 145) dX12_womanLine_144 rfl rfl ?_
          refine we_ldcS (j := 19) (p := 147) dX12_womanLine_145 rfl rfl rfl ?_
          refine we_iconst (v := 0) (p := 148) dX12_womanLine_147 (by decide) rfl ?_
          refine we_bipush (v := 99) (p := 150) dX12_womanLine_148 (by decide) rfl ?_
          refine we_callV_int (p := 153) (k' := 5) (a := [.ref 95, .ref (sp_S + 19), .int 0, .int 99]) (rr := [.int (nI (27 + 4 * row + 2)), .ref 99]) dX12_womanLine_150 rfl rfl rfl rfl (rc_of rfl rfl (by decide) ⟨rfl, by decide⟩) (Nat.le_of_ble_eq_true rfl) (Nat.le_of_ble_eq_true rfl) (by decide) (y_after_f hF (((((lM.nt (S := (pAv T n (pNw T n 2 row S))) (lM.nx (S := (pNw T n 2 row S)) (lM.nw hl f1 z1 t1) f17 r17) f18 t18).sr (j := 6) (v := 3) (by decide) (by decide) (show row < 8 by omega) (by intro x hx; simp at hx)).no f19 z19 g19).u)).2.2.1) (Or.inl rfl) rfl ?_
          refine wf_iast (n := 276) (i := (27 + 4 * row + 2)) (p := 154) dX12_womanLine_153 rfl (by decide) (in_nJ (by omega) (by decide)) (nI_cl (by omega)) rfl ?_
          refine we_aload_n (p := 155) dX12_womanLine_154 rfl rfl ?_
          refine we_getR (c := 11) (j := 16) (n := 37) (b := 99) (p := 158) dX12_womanLine_155 rfl rfl (by decide) (by decide) rfl (r_95_16 hF) rfl ?_
          refine we_iload_n (p := 159) dX12_womanLine_158 rfl rfl ?_
          refine we_iconst (v := 3) (p := 160) dX12_womanLine_159 (by decide) rfl ?_
          refine we_iadd (p := 161) dX12_womanLine_160 rfl ?_
          rw [show (nI (27 + 4 * row) + 3 : Int32) = nI (27 + 4 * row + 3) from nI_add (a := 27 + 4 * row) (b := 3)]
          refine we_aload_n (p := 162) dX12_womanLine_161 rfl rfl ?_
          refine we_ldcS (j := 20) (p := 164) dX12_womanLine_162 rfl rfl rfl ?_
          refine we_iconst (v := 0) (p := 165) dX12_womanLine_164 (by decide) rfl ?_
          refine we_bipush (v := 60) (p := 167) dX12_womanLine_165 (by decide) rfl ?_
          refine we_callV_int (p := 170) (k' := 5) (a := [.ref 95, .ref (sp_S + 20), .int 0, .int 60]) (rr := [.int (nI (27 + 4 * row + 3)), .ref 99]) dX12_womanLine_167 rfl rfl rfl rfl (rc_of rfl rfl (by decide) ⟨rfl, by decide⟩) (Nat.le_of_ble_eq_true rfl) (Nat.le_of_ble_eq_true rfl) (by decide) (y_after_f hF ((((((lM.nt (S := (pAv T n (pNw T n 2 row S))) (lM.nx (S := (pNw T n 2 row S)) (lM.nw hl f1 z1 t1) f17 r17) f18 t18).sr (j := 6) (v := 3) (by decide) (by decide) (show row < 8 by omega) (by intro x hx; simp at hx)).no f19 z19 g19).u).u)).2.2.1) (Or.inl rfl) rfl ?_
          refine wf_iast (n := 276) (i := (27 + 4 * row + 3)) (p := 171) dX12_womanLine_170 rfl (by decide) (in_nJ (by omega) (by decide)) (nI_cl (by omega)) rfl ?_
          refine we_aload_n (p := 172) dX12_womanLine_171 rfl rfl ?_
          refine wf_getI (c := 11) (j := 13) (n := 37) (v := 1) (p := 175) dX12_womanLine_172 rfl rfl (by decide) (by decide) (Or.inr rfl) (((((((lM.nt (S := (pAv T n (pNw T n 2 row S))) (lM.nx (S := (pNw T n 2 row S)) (lM.nw hl f1 z1 t1) f17 r17) f18 t18).sr (j := 6) (v := 3) (by decide) (by decide) (show row < 8 by omega) (by intro x hx; simp at hx)).no f19 z19 g19).u).u).u)).2.2.1 rfl ?_
          refine we_if_ne (t := 188) (p := 178) dX12_womanLine_175 (by decide) rfl rfl (fun hc175 => ?_) (fun hc175 => absurd hc175 (by decide))
          exact wv_ret dX12_womanLine_188 rfl (RmL.no (X := (pFn T n 0 (pAv T n (pAv T n (pSt 6 row 3 (pNw T n 2 row S)))))) ((congrArg (fun z => pB z (pIn 2)) (show pWom T n row S = (pFn T n 0 (pAv T n (pAv T n (pSt 6 row 3 (pNw T n 2 row S))))) from by
      unfold pWom
      rw [pB_y (S := (pNw T n 2 row S)) z1]
      refine (if_neg (by rw [hk11]; decide)).trans ((if_neg (by rw [hk11]; decide)).trans ?_)
      rw [hk11, show (nI 11 - 8 : Int32) = 3 from rfl]
      unfold pWom2
      rw [if_pos (show tQ T n (zP (pAv T n (pSt 6 row 3 (pNw T n 2 row S)))) = nI 16 from hin), pB_n (S := (pFn T n 0 (pAv T n (pAv T n (pSt 6 row 3 (pNw T n 2 row S)))))) z19])).trans (pB_n (S := (pFn T n 0 (pAv T n (pAv T n (pSt 6 row 3 (pNw T n 2 row S)))))) z19)) ((((((lM.nt (S := (pAv T n (pNw T n 2 row S))) (lM.nx (S := (pNw T n 2 row S)) (lM.nw hl f1 z1 t1) f17 r17) f18 t18).sr (j := 6) (v := 3) (by decide) (by decide) (show row < 8 by omega) (by intro x hx; simp at hx)).no f19 z19 g19).u).u).u))
      · skip
        refine we_callV_v (p := 118) (k' := 4) (a := [.ref 95, .ref (sp_S + 18)]) (rr := []) dX12_womanLine_115 rfl rfl rfl rfl (rc_of rfl rfl (by decide) ⟨rfl, by decide⟩) (Nat.le_of_ble_eq_true rfl) (Nat.le_of_ble_eq_true rfl) (by decide) (y_must_n (j := 18) hF (lM.nx (S := (pNw T n 2 row S)) (lM.nw hl f1 z1 t1) f17 r17).2.2.1 (by decide) (by decide) hin) (Or.inl rfl) rfl ?_
        refine we_aload_n (p := 119) dX12_womanLine_118 rfl rfl ?_
        refine we_getR (c := 11) (j := 16) (n := 37) (b := 99) (p := 122) dX12_womanLine_119 rfl rfl (by decide) (by decide) rfl (r_95_16 hF) rfl ?_
        refine we_iload_n (p := 123) dX12_womanLine_122 rfl rfl ?_
        refine we_iload_n (p := 124) dX12_womanLine_123 rfl rfl ?_
        refine wf_iast (n := 276) (i := (27 + 4 * row)) (p := 125) dX12_womanLine_124 rfl (by decide) (in_nJ (by omega) (by decide)) (nI_cl (by omega)) rfl ?_
        refine we_aload_n (p := 126) dX12_womanLine_125 rfl rfl ?_
        refine we_getR (c := 11) (j := 16) (n := 37) (b := 99) (p := 129) dX12_womanLine_126 rfl rfl (by decide) (by decide) rfl (r_95_16 hF) rfl ?_
        refine we_iload_n (p := 130) dX12_womanLine_129 rfl rfl ?_
        refine we_iconst (v := 1) (p := 131) dX12_womanLine_130 (by decide) rfl ?_
        refine we_iadd (p := 132) dX12_womanLine_131 rfl ?_
        rw [show (nI (27 + 4 * row) + 1 : Int32) = nI (27 + 4 * row + 1) from nI_add (a := 27 + 4 * row) (b := 1)]
        refine we_aload_n (p := 133) dX12_womanLine_132 rfl rfl ?_
        refine we_callV_int (p := 136) (k' := 6) (a := [.ref 95]) (rr := [.int (nI (27 + 4 * row + 1)), .ref 99]) dX12_womanLine_133 rfl rfl rfl rfl (rc_of rfl rfl (by decide) ⟨rfl, by decide⟩) (Nat.le_of_ble_eq_true rfl) (Nat.le_of_ble_eq_true rfl) (by decide) (y_harbourPassed_f hF (((fM.eq (X := pFl 1 (pAv T n (pNw T n 2 row S))) (lM.wr (S := (pAv T n (pNw T n 2 row S))) (q := 1) (lM.nx (S := (pNw T n 2 row S)) (lM.nw hl f1 z1 t1) f17 r17) (by decide)) (show zF (pFl 1 (pAv T n (pSt 6 row 3 (pNw T n 2 row S)))) = _ from rfl) rfl).u)).2.2.1) (Or.inl rfl) rfl ?_
        refine wf_iast (n := 276) (i := (27 + 4 * row + 1)) (p := 137) dX12_womanLine_136 rfl (by decide) (in_nJ (by omega) (by decide)) (nI_cl (by omega)) rfl ?_
        refine we_aload_n (p := 138) dX12_womanLine_137 rfl rfl ?_
        refine we_getR (c := 11) (j := 16) (n := 37) (b := 99) (p := 141) dX12_womanLine_138 rfl rfl (by decide) (by decide) rfl (r_95_16 hF) rfl ?_
        refine we_iload_n (p := 142) dX12_womanLine_141 rfl rfl ?_
        refine we_iconst (v := 2) (p := 143) dX12_womanLine_142 (by decide) rfl ?_
        refine we_iadd (p := 144) dX12_womanLine_143 rfl ?_
        rw [show (nI (27 + 4 * row) + 2 : Int32) = nI (27 + 4 * row + 2) from nI_add (a := 27 + 4 * row) (b := 2)]
        refine we_aload_n (p := 145) dX12_womanLine_144 rfl rfl ?_
        refine we_ldcS (j := 19) (p := 147) dX12_womanLine_145 rfl rfl rfl ?_
        refine we_iconst (v := 0) (p := 148) dX12_womanLine_147 (by decide) rfl ?_
        refine we_bipush (v := 99) (p := 150) dX12_womanLine_148 (by decide) rfl ?_
        refine we_callV_int (p := 153) (k' := 5) (a := [.ref 95, .ref (sp_S + 19), .int 0, .int 99]) (rr := [.int (nI (27 + 4 * row + 2)), .ref 99]) dX12_womanLine_150 rfl rfl rfl rfl (rc_of rfl rfl (by decide) ⟨rfl, by decide⟩) (Nat.le_of_ble_eq_true rfl) (Nat.le_of_ble_eq_true rfl) (by decide) (y_after_f hF ((((fM.eq (X := pFl 1 (pAv T n (pNw T n 2 row S))) (lM.wr (S := (pAv T n (pNw T n 2 row S))) (q := 1) (lM.nx (S := (pNw T n 2 row S)) (lM.nw hl f1 z1 t1) f17 r17) (by decide)) (show zF (pFl 1 (pAv T n (pSt 6 row 3 (pNw T n 2 row S)))) = _ from rfl) rfl).u).u)).2.2.1) (Or.inl rfl) rfl ?_
        refine wf_iast (n := 276) (i := (27 + 4 * row + 2)) (p := 154) dX12_womanLine_153 rfl (by decide) (in_nJ (by omega) (by decide)) (nI_cl (by omega)) rfl ?_
        refine we_aload_n (p := 155) dX12_womanLine_154 rfl rfl ?_
        refine we_getR (c := 11) (j := 16) (n := 37) (b := 99) (p := 158) dX12_womanLine_155 rfl rfl (by decide) (by decide) rfl (r_95_16 hF) rfl ?_
        refine we_iload_n (p := 159) dX12_womanLine_158 rfl rfl ?_
        refine we_iconst (v := 3) (p := 160) dX12_womanLine_159 (by decide) rfl ?_
        refine we_iadd (p := 161) dX12_womanLine_160 rfl ?_
        rw [show (nI (27 + 4 * row) + 3 : Int32) = nI (27 + 4 * row + 3) from nI_add (a := 27 + 4 * row) (b := 3)]
        refine we_aload_n (p := 162) dX12_womanLine_161 rfl rfl ?_
        refine we_ldcS (j := 20) (p := 164) dX12_womanLine_162 rfl rfl rfl ?_
        refine we_iconst (v := 0) (p := 165) dX12_womanLine_164 (by decide) rfl ?_
        refine we_bipush (v := 60) (p := 167) dX12_womanLine_165 (by decide) rfl ?_
        refine we_callV_int (p := 170) (k' := 5) (a := [.ref 95, .ref (sp_S + 20), .int 0, .int 60]) (rr := [.int (nI (27 + 4 * row + 3)), .ref 99]) dX12_womanLine_167 rfl rfl rfl rfl (rc_of rfl rfl (by decide) ⟨rfl, by decide⟩) (Nat.le_of_ble_eq_true rfl) (Nat.le_of_ble_eq_true rfl) (by decide) (y_after_f hF (((((fM.eq (X := pFl 1 (pAv T n (pNw T n 2 row S))) (lM.wr (S := (pAv T n (pNw T n 2 row S))) (q := 1) (lM.nx (S := (pNw T n 2 row S)) (lM.nw hl f1 z1 t1) f17 r17) (by decide)) (show zF (pFl 1 (pAv T n (pSt 6 row 3 (pNw T n 2 row S)))) = _ from rfl) rfl).u).u).u)).2.2.1) (Or.inl rfl) rfl ?_
        refine wf_iast (n := 276) (i := (27 + 4 * row + 3)) (p := 171) dX12_womanLine_170 rfl (by decide) (in_nJ (by omega) (by decide)) (nI_cl (by omega)) rfl ?_
        refine we_aload_n (p := 172) dX12_womanLine_171 rfl rfl ?_
        refine wf_getI (c := 11) (j := 13) (n := 37) (v := 1) (p := 175) dX12_womanLine_172 rfl rfl (by decide) (by decide) (Or.inr rfl) ((((((fM.eq (X := pFl 1 (pAv T n (pNw T n 2 row S))) (lM.wr (S := (pAv T n (pNw T n 2 row S))) (q := 1) (lM.nx (S := (pNw T n 2 row S)) (lM.nw hl f1 z1 t1) f17 r17) (by decide)) (show zF (pFl 1 (pAv T n (pSt 6 row 3 (pNw T n 2 row S)))) = _ from rfl) rfl).u).u).u).u)).2.2.1 rfl ?_
        refine we_if_ne (t := 188) (p := 178) dX12_womanLine_175 (by decide) rfl rfl (fun hc175 => ?_) (fun hc175 => absurd hc175 (by decide))
        exact wv_ret dX12_womanLine_188 rfl (RmL.no (X := (pFl 1 (pAv T n (pSt 6 row 3 (pNw T n 2 row S))))) ((congrArg (fun z => pB z (pIn 2)) (show pWom T n row S = (pFl 1 (pAv T n (pSt 6 row 3 (pNw T n 2 row S)))) from by
      unfold pWom
      rw [pB_y (S := (pNw T n 2 row S)) z1]
      refine (if_neg (by rw [hk11]; decide)).trans ((if_neg (by rw [hk11]; decide)).trans ?_)
      rw [hk11, show (nI 11 - 8 : Int32) = 3 from rfl]
      unfold pWom2
      rw [if_neg (show ¬ tQ T n (zP (pAv T n (pSt 6 row 3 (pNw T n 2 row S)))) = nI 16 from hin)])).trans (pB_n (S := (pFl 1 (pAv T n (pSt 6 row 3 (pNw T n 2 row S))))) (show ¬ (1 : Nat) = 0 by decide))) (((((fM.eq (X := pFl 1 (pAv T n (pNw T n 2 row S))) (lM.wr (S := (pAv T n (pNw T n 2 row S))) (q := 1) (lM.nx (S := (pNw T n 2 row S)) (lM.nw hl f1 z1 t1) f17 r17) (by decide)) (show zF (pFl 1 (pAv T n (pSt 6 row 3 (pNw T n 2 row S)))) = _ from rfl) rfl).u).u).u).u))
    refine we_aload_n (p := 34) dX12_womanLine_33 rfl rfl ?_
    refine we_ldcS (j := 14) (p := 36) dX12_womanLine_34 rfl rfl rfl ?_
    refine we_callV_int (p := 39) (k' := 2) (a := [.ref 95, .ref (sp_S + 14)]) (rr := []) dX12_womanLine_36 rfl rfl rfl rfl (rc_of rfl rfl (by decide) ⟨rfl, by decide⟩) (Nat.le_of_ble_eq_true rfl) (Nat.le_of_ble_eq_true rfl) (by decide) (Ev.i (if_neg hk8) (y_isWord (j := 14) hF (lM.nw hl f1 z1 t1).2.2.1 (by decide) (by decide))) (Or.inl rfl) rfl ?_
    refine we_if_eq (t := 46) (p := 42) dX12_womanLine_39 (by decide) rfl rfl (fun hc39 => ?_) (fun hc39 => absurd (by decide) hc39)
    refine we_aload_n (p := 47) dX12_womanLine_46 rfl rfl ?_
    refine we_ldcS (j := 15) (p := 49) dX12_womanLine_47 rfl rfl rfl ?_
    refine we_callV_int (p := 52) (k' := 2) (a := [.ref 95, .ref (sp_S + 15)]) (rr := []) dX12_womanLine_49 rfl rfl rfl rfl (rc_of rfl rfl (by decide) ⟨rfl, by decide⟩) (Nat.le_of_ble_eq_true rfl) (Nat.le_of_ble_eq_true rfl) (by decide) (Ev.i (if_neg hk9) (y_isWord (j := 15) hF (lM.nw hl f1 z1 t1).2.2.1 (by decide) (by decide))) (Or.inl rfl) rfl ?_
    refine we_if_eq (t := 59) (p := 55) dX12_womanLine_52 (by decide) rfl rfl (fun hc52 => ?_) (fun hc52 => absurd (by decide) hc52)
    refine we_aload_n (p := 60) dX12_womanLine_59 rfl rfl ?_
    refine we_ldcS (j := 16) (p := 62) dX12_womanLine_60 rfl rfl rfl ?_
    refine we_callV_int (p := 65) (k' := 2) (a := [.ref 95, .ref (sp_S + 16)]) (rr := []) dX12_womanLine_62 rfl rfl rfl rfl (rc_of rfl rfl (by decide) ⟨rfl, by decide⟩) (Nat.le_of_ble_eq_true rfl) (Nat.le_of_ble_eq_true rfl) (by decide) (Ev.i (if_neg hk10) (y_isWord (j := 16) hF (lM.nw hl f1 z1 t1).2.2.1 (by decide) (by decide))) (Or.inl rfl) rfl ?_
    refine we_if_eq (t := 72) (p := 68) dX12_womanLine_65 (by decide) rfl rfl (fun hc65 => ?_) (fun hc65 => absurd (by decide) hc65)
    refine we_aload_n (p := 73) dX12_womanLine_72 rfl rfl ?_
    refine we_ldcS (j := 17) (p := 75) dX12_womanLine_73 rfl rfl rfl ?_
    refine we_callV_int (p := 78) (k' := 2) (a := [.ref 95, .ref (sp_S + 17)]) (rr := []) dX12_womanLine_75 rfl rfl rfl rfl (rc_of rfl rfl (by decide) ⟨rfl, by decide⟩) (Nat.le_of_ble_eq_true rfl) (Nat.le_of_ble_eq_true rfl) (by decide) (Ev.i (if_neg hk11) (y_isWord (j := 17) hF (lM.nw hl f1 z1 t1).2.2.1 (by decide) (by decide))) (Or.inl rfl) rfl ?_
    refine we_if_eq (t := 85) (p := 81) dX12_womanLine_78 (by decide) rfl rfl (fun hc78 => ?_) (fun hc78 => absurd (by decide) hc78)
    refine we_iconst (v := -1) (p := 86) dX12_womanLine_85 (by decide) rfl ?_
    refine we_istore_n (ls1 := [.ref 95, .int (nI (27 + 4 * row)), .int (-1)]) (p := 87) dX12_womanLine_86 rfl rfl ?_
    refine we_iload_n (p := 88) dX12_womanLine_87 rfl rfl ?_
    refine we_if_ge (t := 100) (p := 91) dX12_womanLine_88 (by decide) rfl rfl (fun hc88 => absurd hc88 (by decide)) (fun hc88 => ?_)
    refine we_aload_n (p := 92) dX12_womanLine_91 rfl rfl ?_
    refine we_iconst (v := 1) (p := 93) dX12_womanLine_92 (by decide) rfl ?_
    refine we_aload_n (p := 94) dX12_womanLine_93 rfl rfl ?_
    refine wf_getI (c := 11) (j := 4) (n := 37) (v := nI (tS T n (zP (pNw T n 2 row S)))) (p := 97) dX12_womanLine_94 rfl rfl (by decide) (by decide) (Or.inl rfl) (lM.nw hl f1 z1 t1).2.2.1.2.2.1.1 rfl ?_
    refine we_callV_v (p := 100) (k' := 0) (a := [.ref 95, .int 1, .int (nI (tS T n (zP (pNw T n 2 row S))))]) (rr := []) dX12_womanLine_97 rfl rfl rfl rfl (rc_of rfl rfl (by decide) ⟨rfl, by decide⟩) (Nat.le_of_ble_eq_true rfl) (Nat.le_of_ble_eq_true rfl) (by decide) (y_wrong (b := tS T n (zP (pNw T n 2 row S))) hF (lM.nw hl f1 z1 t1).2.2.1.2.2.2.1) (Or.inl rfl) rfl ?_
    refine we_aload_n (p := 101) dX12_womanLine_100 rfl rfl ?_
    refine wf_getI (c := 11) (j := 13) (n := 37) (v := 1) (p := 104) dX12_womanLine_101 rfl rfl (by decide) (by decide) (Or.inr rfl) ((lM.wr (S := (pNw T n 2 row S)) (q := 1) (lM.nw hl f1 z1 t1) (by decide))).2.2.1 rfl ?_
    refine we_if_eq (t := 108) (p := 107) dX12_womanLine_104 (by decide) rfl rfl (fun hc104 => absurd hc104 (by decide)) (fun hc104 => ?_)
    exact wv_ret dX12_womanLine_107 rfl (RmL.no (X := (pFl 1 (pNw T n 2 row S))) ((congrArg (fun z => pB z (pIn 2)) (show pWom T n row S = (pFl 1 (pNw T n 2 row S)) from by
      unfold pWom
      rw [pB_y (S := (pNw T n 2 row S)) z1]
      rcases kd_no hk8 hk9 hk10 hk11 with h | h
      · exact if_pos h
      · by_cases c : tQ T n (zP (pNw T n 2 row S)) < 8
        · exact if_pos c
        · exact (if_neg c).trans (if_pos h))).trans (pB_n (S := (pFl 1 (pNw T n 2 row S))) (show ¬ (1 : Nat) = 0 by decide))) (lM.wr (S := (pNw T n 2 row S)) (q := 1) (lM.nw hl f1 z1 t1) (by decide)))
  · skip
    refine we_callV_v (p := 33) (k' := 4) (a := [.ref 95, .int (nI (6 + row))]) (rr := []) dX12_womanLine_30 rfl rfl rfl rfl (rc_of rfl rfl (by decide) ⟨rfl, by decide⟩) (Nat.le_of_ble_eq_true rfl) (Nat.le_of_ble_eq_true rfl) (by decide) e1 (Or.inl rfl) rfl ?_
    refine we_aload_n (p := 34) dX12_womanLine_33 rfl rfl ?_
    refine we_ldcS (j := 14) (p := 36) dX12_womanLine_34 rfl rfl rfl ?_
    refine we_callV_int (p := 39) (k' := 2) (a := [.ref 95, .ref (sp_S + 14)]) (rr := []) dX12_womanLine_36 rfl rfl rfl rfl (rc_of rfl rfl (by decide) ⟨rfl, by decide⟩) (Nat.le_of_ble_eq_true rfl) (Nat.le_of_ble_eq_true rfl) (by decide) (y_isWord_f hF ((hl.nl f1 z1 g1)).2.2.1) (Or.inl rfl) rfl ?_
    refine we_if_eq (t := 46) (p := 42) dX12_womanLine_39 (by decide) rfl rfl (fun hc39 => ?_) (fun hc39 => absurd (by decide) hc39)
    refine we_aload_n (p := 47) dX12_womanLine_46 rfl rfl ?_
    refine we_ldcS (j := 15) (p := 49) dX12_womanLine_47 rfl rfl rfl ?_
    refine we_callV_int (p := 52) (k' := 2) (a := [.ref 95, .ref (sp_S + 15)]) (rr := []) dX12_womanLine_49 rfl rfl rfl rfl (rc_of rfl rfl (by decide) ⟨rfl, by decide⟩) (Nat.le_of_ble_eq_true rfl) (Nat.le_of_ble_eq_true rfl) (by decide) (y_isWord_f hF ((hl.nl f1 z1 g1)).2.2.1) (Or.inl rfl) rfl ?_
    refine we_if_eq (t := 59) (p := 55) dX12_womanLine_52 (by decide) rfl rfl (fun hc52 => ?_) (fun hc52 => absurd (by decide) hc52)
    refine we_aload_n (p := 60) dX12_womanLine_59 rfl rfl ?_
    refine we_ldcS (j := 16) (p := 62) dX12_womanLine_60 rfl rfl rfl ?_
    refine we_callV_int (p := 65) (k' := 2) (a := [.ref 95, .ref (sp_S + 16)]) (rr := []) dX12_womanLine_62 rfl rfl rfl rfl (rc_of rfl rfl (by decide) ⟨rfl, by decide⟩) (Nat.le_of_ble_eq_true rfl) (Nat.le_of_ble_eq_true rfl) (by decide) (y_isWord_f hF ((hl.nl f1 z1 g1)).2.2.1) (Or.inl rfl) rfl ?_
    refine we_if_eq (t := 72) (p := 68) dX12_womanLine_65 (by decide) rfl rfl (fun hc65 => ?_) (fun hc65 => absurd (by decide) hc65)
    refine we_aload_n (p := 73) dX12_womanLine_72 rfl rfl ?_
    refine we_ldcS (j := 17) (p := 75) dX12_womanLine_73 rfl rfl rfl ?_
    refine we_callV_int (p := 78) (k' := 2) (a := [.ref 95, .ref (sp_S + 17)]) (rr := []) dX12_womanLine_75 rfl rfl rfl rfl (rc_of rfl rfl (by decide) ⟨rfl, by decide⟩) (Nat.le_of_ble_eq_true rfl) (Nat.le_of_ble_eq_true rfl) (by decide) (y_isWord_f hF ((hl.nl f1 z1 g1)).2.2.1) (Or.inl rfl) rfl ?_
    refine we_if_eq (t := 85) (p := 81) dX12_womanLine_78 (by decide) rfl rfl (fun hc78 => ?_) (fun hc78 => absurd (by decide) hc78)
    refine we_iconst (v := -1) (p := 86) dX12_womanLine_85 (by decide) rfl ?_
    refine we_istore_n (ls1 := [.ref 95, .int (nI (27 + 4 * row)), .int (-1)]) (p := 87) dX12_womanLine_86 rfl rfl ?_
    refine we_iload_n (p := 88) dX12_womanLine_87 rfl rfl ?_
    refine we_if_ge (t := 100) (p := 91) dX12_womanLine_88 (by decide) rfl rfl (fun hc88 => absurd hc88 (by decide)) (fun hc88 => ?_)
    refine we_aload_n (p := 92) dX12_womanLine_91 rfl rfl ?_
    refine we_iconst (v := 1) (p := 93) dX12_womanLine_92 (by decide) rfl ?_
    refine we_aload_n (p := 94) dX12_womanLine_93 rfl rfl ?_
    refine wf_getI (c := 11) (j := 4) (n := 37) (v := I1 95 4) (p := 97) dX12_womanLine_94 rfl rfl (by decide) (by decide) (Or.inl rfl) rfl rfl ?_
    refine we_callV_v (p := 100) (k' := 0) (a := [.ref 95, .int 1, .int (I1 95 4)]) (rr := []) dX12_womanLine_97 rfl rfl rfl rfl (rc_of rfl rfl (by decide) ⟨rfl, by decide⟩) (Nat.le_of_ble_eq_true rfl) (Nat.le_of_ble_eq_true rfl) (by decide) (y_wrong_f hF ((hl.nl f1 z1 g1)).2.2.1) (Or.inl rfl) rfl ?_
    refine we_aload_n (p := 101) dX12_womanLine_100 rfl rfl ?_
    refine wf_getI (c := 11) (j := 13) (n := 37) (v := 1) (p := 104) dX12_womanLine_101 rfl rfl (by decide) (by decide) (Or.inr rfl) ((hl.nl f1 z1 g1)).2.2.1 rfl ?_
    refine we_if_eq (t := 108) (p := 107) dX12_womanLine_104 (by decide) rfl rfl (fun hc104 => absurd hc104 (by decide)) (fun hc104 => ?_)
    exact wv_ret dX12_womanLine_107 rfl (RmL.no (X := (pNw T n 2 row S)) ((congrArg (fun z => pB z (pIn 2)) (show pWom T n row S = (pNw T n 2 row S) from by
      unfold pWom
      first | (rw [pB_n (S := (pNw T n 2 row S)) z1]; done) | (rw [pB_n (S := (pNw T n 2 row S)) z1]; rfl))).trans (pB_n (S := (pNw T n 2 row S)) z1)) (hl.nl f1 z1 g1))
