/-! The class seeks routes. -/
set_option maxRecDepth 10000 in
theorem x_rset_L {J : Nat → Nat → Int64} {F : Nat → Nat → Option Nat} {nc ns : Nat} {I0 : Nat → Nat → Int32} {n : Nat} {row : Nat → Nat} {miss : Int64} (hF : RFok F) (hn : n ≤ 3) (h6 : I0 65 6 = nI n) (hr : gR I0 67 row n)  {Q : Option Value → hp_H → Prop} : ∀ (m j : Nat) (I : Nat → Nat → Int32), j + m = n → (Fr 66 67 I0 I ∧ (∀ i, i < j → I 66 i = nI (row i)) ∧ ∀ i, j ≤ i → I 66 i = I0 66 i) → (∀ (I : Nat → Nat → Int32), (Fr 66 67 I0 I ∧ (∀ i, i < n → I 66 i = nI (row i)) ∧ ∀ i, n ≤ i → I 66 i = I0 66 i) → Ew 0 mX8_settle 49 [.ref 65, .long miss, .null, .int (nI n)] [] ((SH, nc, ns), I, J, F) Q) → Ew 0 mX8_settle 23 [.ref 65, .long miss, .null, .int (nI j)] [] ((SH, nc, ns), I, J, F) Q
  | 0, j, I, hj, hI, hq => by
    have g6 : I 65 6 = nI n := (congrFun (hI.1 65 (by omega)) 6).trans h6
    have g67 : ∀ i, i < n → I 67 i = nI (row i) := fun i hi => (congrFun (hI.1 67 (by omega)) i).trans (hr i hi)
    have hjN : j = n := by omega
    refine we_iload_n (p := 24) dX8_settle_23 rfl rfl ?_
    refine we_aload_n (p := 25) dX8_settle_24 rfl rfl ?_
    refine wf_getI (c := 8) (j := 6) (n := 7) (v := nI n) (p := 28) dX8_settle_25 rfl rfl (by decide) (by decide) (Or.inl rfl) g6 rfl ?_
    refine we_icmp_ge (t := 49) (p := 31) dX8_settle_28 (by decide) rfl rfl (fun hc28 => ?_) (fun hc28 => absurd (nI_le (a := n) (b := j) (by omega) (by omega)) hc28)
    subst hjN; exact hq _ hI
  | m + 1, j, I, hj, hI, hq => by
    have g6 : I 65 6 = nI n := (congrFun (hI.1 65 (by omega)) 6).trans h6
    have g67 : ∀ i, i < n → I 67 i = nI (row i) := fun i hi => (congrFun (hI.1 67 (by omega)) i).trans (hr i hi)
    refine we_iload_n (p := 24) dX8_settle_23 rfl rfl ?_
    refine we_aload_n (p := 25) dX8_settle_24 rfl rfl ?_
    refine wf_getI (c := 8) (j := 6) (n := 7) (v := nI n) (p := 28) dX8_settle_25 rfl rfl (by decide) (by decide) (Or.inl rfl) g6 rfl ?_
    refine we_icmp_ge (t := 49) (p := 31) dX8_settle_28 (by decide) rfl rfl (fun hc28 => absurd hc28 (nI_ge (a := j) (b := n) (by omega) (by omega))) (fun hc28 => ?_)
    refine we_aload_n (p := 32) dX8_settle_31 rfl rfl ?_
    refine we_getR (c := 8) (j := 0) (n := 7) (b := 66) (p := 35) dX8_settle_32 rfl rfl (by decide) (by decide) rfl (r_65_0 hF) rfl ?_
    refine we_iload_n (p := 36) dX8_settle_35 rfl rfl ?_
    refine we_aload_n (p := 37) dX8_settle_36 rfl rfl ?_
    refine we_getR (c := 8) (j := 3) (n := 7) (b := 67) (p := 40) dX8_settle_37 rfl rfl (by decide) (by decide) rfl (r_65_3 hF) rfl ?_
    refine we_iload_n (p := 41) dX8_settle_40 rfl rfl ?_
    refine wf_iald (n := 3) (i := j) (v := nI (row j)) (p := 42) dX8_settle_41 rfl (by decide) (in_nJ (by omega) (by decide)) (nI_cl (by omega)) (g67 j (by omega)) rfl ?_
    refine wf_iast (n := 3) (i := j) (p := 43) dX8_settle_42 rfl (by decide) (in_nJ (by omega) (by decide)) (nI_cl (by omega)) rfl ?_
    refine we_iinc (ls1 := [.ref 65, .long miss, .null, .int ((nI j) + 1)]) (p := 46) dX8_settle_43 rfl rfl rfl ?_
    refine we_goto (p := 23) dX8_settle_46 (by decide) rfl ?_
    rw [nI_1]
    refine x_rset_L hF hn h6 hr m (j + 1) _  (by omega) ?_ hq
    refine ⟨hI.1.u (by omega) (by omega), fun i hi => ?_, fun i hi => ?_⟩
    · rw [hu_if]
      by_cases c : i = j
      · rw [if_pos c, c]
      · rw [if_neg c]
        exact hI.2.1 i (by omega)
    · rw [hu_if, if_neg (by omega)]
      exact hI.2.2 i (by omega)
set_option maxRecDepth 10000 in
theorem x_rsettle {I : Nat → Nat → Int32} {J : Nat → Nat → Int64} {F : Nat → Nat → Option Nat} {nc ns : Nat} {D : oD} {s : Nat → Int32} {n : Nat} {row : Nat → Nat} {miss : Int64} {a : rA} (hF : RFok F) (hn : n ≤ 3) (hg : rI D s n I J a) (hr : gR I 67 row n) : Ew 0 mX8_settle 0 [.ref 65, .long miss, .null, .null] [] ((SH, nc, ns), I, J, F) (Ret nc ns none (fun I' J' F' => Fr 65 72 I I' ∧ I' 67 = I 67 ∧ Fr 65 72 J J' ∧ F' = F ∧ rI D s n I' J' (setR n row miss a))) := by
  refine we_aload_n (p := 1) dX8_settle_0 rfl rfl ?_
  refine wf_getI (c := 8) (j := 1) (n := 7) (v := a.1) (p := 4) dX8_settle_1 rfl rfl (by decide) (by decide) (Or.inl rfl) hg.1 rfl ?_
  refine we_if_eq (t := 16) (p := 7) dX8_settle_4 (by decide) rfl rfl (fun hc4 => ?_) (fun hc4 => ?_)
  · skip
    refine we_aload_n (p := 17) dX8_settle_16 rfl rfl ?_
    refine we_lload_n (p := 18) dX8_settle_17 rfl rfl ?_
    refine we_putJ (c := 8) (j := 2) (n := 7)  (p := 21) dX8_settle_18 rfl rfl (by decide) (by decide) rfl rfl rfl ?_
    refine we_iconst (v := 0) (p := 22) dX8_settle_21 (by decide) rfl ?_
    refine we_istore_n (ls1 := [.ref 65, .long miss, .null, .int 0]) (p := 23) dX8_settle_22 rfl rfl ?_
    refine x_rset_L hF hn hg.2.2.1 hr n 0 I (by omega) ⟨Fr.rf, fun i hi => absurd hi (by omega), fun i hi => rfl⟩ (fun I1 hI1 => ?_)
    refine we_aload_n (p := 50) dX8_settle_49 rfl rfl ?_
    refine we_dup_ref (p := 51) dX8_settle_50 rfl ?_
    refine wf_getI (c := 8) (j := 1) (n := 7) (v := a.1) (p := 54) dX8_settle_51 rfl rfl (by decide) (by decide) (Or.inl rfl) ((congrFun (hI1.1 65 (by omega)) 1).trans hg.1) rfl ?_
    refine we_iconst (v := 1) (p := 55) dX8_settle_54 (by decide) rfl ?_
    refine we_iadd (p := 56) dX8_settle_55 rfl ?_
    refine we_putI (c := 8) (j := 1) (n := 7)  (p := 59) dX8_settle_56 rfl rfl (by decide) (by decide) rfl rfl rfl ?_
    exact wv_ret dX8_settle_59 rfl (⟨rfl, _, _, _, rfl, (hI1.1.wd (by omega) (by omega)).u (by omega) (by omega), (hu_ne (by omega)).trans (hI1.1 67 (by omega)), Fr.rf.u (by omega) (by omega), rfl, by
    have e : setR n row miss a = (a.1 + 1, miss, fun i => if i < n then nI (row i) else a.2.2 i) := if_pos (Or.inl hc4)
    rw [e]
    exact ⟨hu_eq, hu_eq, (hu_nj (by omega)).trans ((congrFun (hI1.1 65 (by omega)) 6).trans hg.2.2.1), (hu_nj (by omega)).trans hg.2.2.2.1, A_u (fun i hi => (hI1.2.1 i hi).trans (if_pos hi).symm) (by omega), BJ_u hg.2.2.2.2.2 (by omega)⟩⟩)
  · skip
    refine we_lload_n (p := 8) dX8_settle_7 rfl rfl ?_
    refine we_aload_n (p := 9) dX8_settle_8 rfl rfl ?_
    refine wg_getJ (c := 8) (j := 2) (n := 7) (v := a.2.1) (p := 12) dX8_settle_9 rfl rfl (by decide) (by decide) rfl hg.2.1 rfl ?_
    refine we_lcmp (p := 13) dX8_settle_12 rfl ?_
    refine we_if_ge (t := 49) (p := 16) dX8_settle_13 (by decide) rfl rfl (fun hc13 => ?_) (fun hc13 => ?_)
    · skip
      refine we_aload_n (p := 50) dX8_settle_49 rfl rfl ?_
      refine we_dup_ref (p := 51) dX8_settle_50 rfl ?_
      refine wf_getI (c := 8) (j := 1) (n := 7) (v := a.1) (p := 54) dX8_settle_51 rfl rfl (by decide) (by decide) (Or.inl rfl) hg.1 rfl ?_
      refine we_iconst (v := 1) (p := 55) dX8_settle_54 (by decide) rfl ?_
      refine we_iadd (p := 56) dX8_settle_55 rfl ?_
      refine we_putI (c := 8) (j := 1) (n := 7)  (p := 59) dX8_settle_56 rfl rfl (by decide) (by decide) rfl rfl rfl ?_
      exact wv_ret dX8_settle_59 rfl (⟨rfl, _, _, _, rfl, Fr.rf.u (by omega) (by omega), hu_ne (by omega), Fr.rf, rfl, by
    have e : setR n row miss a = (a.1 + 1, a.2.1, a.2.2) := if_neg (fun z => z.elim hc4 (fun z => absurd ((lg_cmp_ge _ _).mp hc13) (Int64.not_le.mpr z)))
    rw [e]
    exact ⟨hu_eq, hg.2.1, (hu_nj (by omega)).trans hg.2.2.1, hg.2.2.2.1, A_u hg.2.2.2.2.1 (by omega), hg.2.2.2.2.2⟩⟩)
    · skip
      refine we_aload_n (p := 17) dX8_settle_16 rfl rfl ?_
      refine we_lload_n (p := 18) dX8_settle_17 rfl rfl ?_
      refine we_putJ (c := 8) (j := 2) (n := 7)  (p := 21) dX8_settle_18 rfl rfl (by decide) (by decide) rfl rfl rfl ?_
      refine we_iconst (v := 0) (p := 22) dX8_settle_21 (by decide) rfl ?_
      refine we_istore_n (ls1 := [.ref 65, .long miss, .null, .int 0]) (p := 23) dX8_settle_22 rfl rfl ?_
      refine x_rset_L hF hn hg.2.2.1 hr n 0 I (by omega) ⟨Fr.rf, fun i hi => absurd hi (by omega), fun i hi => rfl⟩ (fun I1 hI1 => ?_)
      refine we_aload_n (p := 50) dX8_settle_49 rfl rfl ?_
      refine we_dup_ref (p := 51) dX8_settle_50 rfl ?_
      refine wf_getI (c := 8) (j := 1) (n := 7) (v := a.1) (p := 54) dX8_settle_51 rfl rfl (by decide) (by decide) (Or.inl rfl) ((congrFun (hI1.1 65 (by omega)) 1).trans hg.1) rfl ?_
      refine we_iconst (v := 1) (p := 55) dX8_settle_54 (by decide) rfl ?_
      refine we_iadd (p := 56) dX8_settle_55 rfl ?_
      refine we_putI (c := 8) (j := 1) (n := 7)  (p := 59) dX8_settle_56 rfl rfl (by decide) (by decide) rfl rfl rfl ?_
      exact wv_ret dX8_settle_59 rfl (⟨rfl, _, _, _, rfl, (hI1.1.wd (by omega) (by omega)).u (by omega) (by omega), (hu_ne (by omega)).trans (hI1.1 67 (by omega)), Fr.rf.u (by omega) (by omega), rfl, by
    have e : setR n row miss a = (a.1 + 1, miss, fun i => if i < n then nI (row i) else a.2.2 i) := if_pos (Or.inr (Int64.not_le.mp (fun z => hc13 ((lg_cmp_ge _ _).mpr z))))
    rw [e]
    exact ⟨hu_eq, hu_eq, (hu_nj (by omega)).trans ((congrFun (hI1.1 65 (by omega)) 6).trans hg.2.2.1), (hu_nj (by omega)).trans hg.2.2.2.1, A_u (fun i hi => (hI1.2.1 i hi).trans (if_pos hi).symm) (by omega), BJ_u hg.2.2.2.2.2 (by omega)⟩⟩)
theorem rc_of1 {D : oD} {s : Nat → Int32} {k h j : Nat} {u : Int32} (hW : WF D) (h0 : 0 < tN D) (hj : j < dN D 2) (h1 : ¬ lg_cmp (chS D s k j) 0 ≤ 0) (h2 : (u >>> (nI j &&& 31)) &&& 1 = 0) (h3 : ¬ canS D h (D 7 j) = 0) : rcB D s k u h j = true := by
  have e := Decidable.not_not.mp (fun z => h1 ((ch_pos hW h0 hj).mpr z))
  have b2 := hW.c.2.2.2.1
  have e2 : hbS u (nI j) = 0 := by rw [hb_tb (by omega), (tb_0 (by omega)).mp h2]; rfl
  simp [rcB, e.1, e2, e.2, h3]
theorem rc_n1 {D : oD} {s : Nat → Int32} {k h j : Nat} {u : Int32} (hW : WF D) (h0 : 0 < tN D) (hj : j < dN D 2) (h1 : lg_cmp (chS D s k j) 0 ≤ 0) : ¬ rcB D s k u h j = true := by
  have e := (ch_pos hW h0 hj).mp h1
  intro z
  simp [rcB] at z
  exact e ⟨z.1.1.1, z.1.2⟩
theorem rc_n2 {D : oD} {s : Nat → Int32} {k h j : Nat} {u : Int32} (hj : j < 32) (h2 : ¬ (u >>> (nI j &&& 31)) &&& 1 = 0) : ¬ rcB D s k u h j = true := by
  intro z
  simp [rcB] at z
  have := z.1.1.2
  rw [hb_tb hj] at this
  rw [tb_0 hj] at h2
  simp at h2
  rw [h2] at this
  exact absurd this (by decide)
theorem rc_n3 {D : oD} {s : Nat → Int32} {k h j : Nat} {u : Int32} (h3 : canS D h (D 7 j) = 0) : ¬ rcB D s k u h j = true := by
  intro z
  simp [rcB, h3] at z
set_option maxRecDepth 10000 in
theorem x_rext_L {F : Nat → Nat → Option Nat} {nc ns : Nat} {o : Nat} {D : oD} {s : Nat → Int32} {n : Nat} (ho : isO o) (hF : RFok F) (hW : WF D) (ht0 : 0 < tN D) (hn : n ≤ 3) {d k h : Nat} {x u y : Int32} {miss : Int64} {row : Nat → Nat} (hS : ∀ (k h : Nat) (x u y : Int32) (miss : Int64) (row : Nat → Nat) (a : rA) (I : Nat → Nat → Int32) (J : Nat → Nat → Int64), x = nI k → y = nI h → h < 6 → k + d = n → oC I o D → rI D s n I J a → gR I 67 row k → Ew (d + 2) mX8_extend 0 [.ref 65, .ref o, .int x, .int u, .int y, .long miss, .null, .null] [] ((SH, nc, ns), I, J, F) (Ret nc ns none (fun I' J' F' => Fr 65 72 I I' ∧ Fr 65 72 J J' ∧ F' = F ∧ rI D s n I' J' (rtS D s n d k u h miss row a) ∧ gR I' 67 row k))) (hx : x = nI k) (hy : y = nI h) (hh : h < 6) (hk : k + (d + 1) = n) : ∀ (m j : Nat) (I : Nat → Nat → Int32) (J : Nat → Nat → Int64) (a : rA), j + m = dN D 2 → oC I o D → rI D s n I J a → gR I 67 row k → Ew (d + 1 + 2) mX8_extend 18 [.ref 65, .ref o, .int x, .int u, .int y, .long miss, .null, .int (nI j)] [] ((SH, nc, ns), I, J, F) (Ret nc ns none (fun I' J' F' => Fr 65 72 I I' ∧ Fr 65 72 J J' ∧ F' = F ∧ rI D s n I' J' (gN (fun w a => if rcB D s k u h w = true then rtS D s n d (k + 1) (u ||| bit w) (hN D w) (miss * (powS D 100 - chS D s k w)) (upN row k w) a else a) j m a) ∧ gR I' 67 row k))
  | 0, j, I, J, a, hj, hC, hg, hr => by
    have hD := hW.c
    have hH := hW.h
    have hT := hW.t
    have bt := hT.2
    obtain ⟨b0, b1, b2, b3, b4, b5, b6⟩ := hD.2
    refine we_iload (p := 20) dX8_extend_18 rfl rfl ?_
    refine we_aload_n (p := 21) dX8_extend_20 rfl rfl ?_
    refine we_getR (c := 4) (j := 2) (n := 18) (b := (o + 1)) (p := 24) dX8_extend_21 rfl (s_o ho) (l_o0 ho) (by decide) rfl (r_o2 hF ho) rfl ?_
    refine we_iconst (v := 2) (p := 25) dX8_extend_24 (by decide) rfl ?_
    refine wf_iald (n := 7) (i := 2) (v := nI (dN D 2)) (p := 26) dX8_extend_25 (s_o1 ho) (l_o ho 1 (by decide)) (by decide) (by decide) (cN hC hD (by decide)) rfl ?_
    refine we_icmp_ge (t := 120) (p := 29) dX8_extend_26 (by decide) rfl rfl (fun hc26 => ?_) (fun hc26 => absurd (nle (by omega) (by omega)) hc26)
    exact wv_ret dX8_extend_120 rfl (⟨rfl, _, _, _, rfl, Fr.rf, Fr.rf, rfl, hg, hr⟩)
  | m + 1, j, I, J, a, hj, hC, hg, hr => by
    have hD := hW.c
    have hH := hW.h
    have hT := hW.t
    have bt := hT.2
    obtain ⟨b0, b1, b2, b3, b4, b5, b6⟩ := hD.2
    refine we_iload (p := 20) dX8_extend_18 rfl rfl ?_
    refine we_aload_n (p := 21) dX8_extend_20 rfl rfl ?_
    refine we_getR (c := 4) (j := 2) (n := 18) (b := (o + 1)) (p := 24) dX8_extend_21 rfl (s_o ho) (l_o0 ho) (by decide) rfl (r_o2 hF ho) rfl ?_
    refine we_iconst (v := 2) (p := 25) dX8_extend_24 (by decide) rfl ?_
    refine wf_iald (n := 7) (i := 2) (v := nI (dN D 2)) (p := 26) dX8_extend_25 (s_o1 ho) (l_o ho 1 (by decide)) (by decide) (by decide) (cN hC hD (by decide)) rfl ?_
    refine we_icmp_ge (t := 120) (p := 29) dX8_extend_26 (by decide) rfl rfl (fun hc26 => absurd hc26 (nge (by omega) (by omega))) (fun hc26 => ?_)
    refine we_aload_n (p := 30) dX8_extend_29 rfl rfl ?_
    refine we_getR (c := 8) (j := 4) (n := 7) (b := 68) (p := 33) dX8_extend_30 rfl rfl (by decide) (by decide) rfl (r_65_4 hF) rfl ?_
    refine we_iload_n (p := 34) dX8_extend_33 rfl rfl ?_
    refine wf_aald (c := 17) (n := 3) (b := (69 + k)) (i := k) (p := 35) dX8_extend_34 rfl (by decide) (in_ix hx (by omega) (by decide)) (cl_ix hx (by omega)) (fm_68 hF (by omega)) rfl ?_
    refine we_iload (p := 37) dX8_extend_35 rfl rfl ?_
    refine wg_lald (n := 8) (i := j) (v := chS D s k j) (p := 38) dX8_extend_37 (sf_68 (by omega)) (in_nJ (by omega) (by decide)) (nI_cl (by omega)) (hg.2.2.2.2.2 k (by omega) j (by omega)) rfl ?_
    refine we_lconst (v := 0) (p := 39) dX8_extend_38 (by decide) rfl ?_
    refine we_lcmp (p := 40) dX8_extend_39 rfl ?_
    refine we_if_le (t := 114) (p := 43) dX8_extend_40 (by decide) rfl rfl (fun hc40 => ?_) (fun hc40 => ?_)
    · skip
      refine we_iinc (ls1 := [.ref 65, .ref o, .int x, .int u, .int y, .long miss, .null, .int ((nI j) + 1)]) (p := 117) dX8_extend_114 rfl rfl rfl ?_
      refine we_goto (p := 18) dX8_extend_117 (by decide) rfl ?_
      rw [nI_1]
      refine (x_rext_L ho hF hW ht0 hn hS hx hy hh hk m (j + 1) I J a (by omega) hC hg hr).mono ?_
      rw [gN_s, if_neg (rc_n1 hW ht0 (by omega) hc40)]
      exact fun _ _ z => z
    · skip
      refine we_iload_n (p := 44) dX8_extend_43 rfl rfl ?_
      refine we_iload (p := 46) dX8_extend_44 rfl rfl ?_
      refine we_ishr (p := 47) dX8_extend_46 rfl ?_
      refine we_iconst (v := 1) (p := 48) dX8_extend_47 (by decide) rfl ?_
      refine we_iand (p := 49) dX8_extend_48 rfl ?_
      refine we_if_ne (t := 114) (p := 52) dX8_extend_49 (by decide) rfl rfl (fun hc49 => ?_) (fun hc49 => ?_)
      · skip
        refine we_iinc (ls1 := [.ref 65, .ref o, .int x, .int u, .int y, .long miss, .null, .int ((nI j) + 1)]) (p := 117) dX8_extend_114 rfl rfl rfl ?_
        refine we_goto (p := 18) dX8_extend_117 (by decide) rfl ?_
        rw [nI_1]
        refine (x_rext_L ho hF hW ht0 hn hS hx hy hh hk m (j + 1) I J a (by omega) hC hg hr).mono ?_
        rw [gN_s, if_neg (rc_n2 (by omega) hc49)]
        exact fun _ _ z => z
      · skip
        refine we_aload_n (p := 53) dX8_extend_52 rfl rfl ?_
        refine we_iload (p := 55) dX8_extend_53 rfl rfl ?_
        refine we_aload_n (p := 56) dX8_extend_55 rfl rfl ?_
        refine we_getR (c := 4) (j := 7) (n := 18) (b := (o + 6)) (p := 59) dX8_extend_56 rfl (s_o ho) (l_o0 ho) (by decide) rfl (r_o7 hF ho) rfl ?_
        refine we_iload (p := 61) dX8_extend_59 rfl rfl ?_
        refine wf_iald (n := 8) (i := j) (v := D 7 j) (p := 62) dX8_extend_61 (s_o6 ho) (l_o ho 6 (by decide)) (in_nJ (by omega) (by decide)) (nI_cl (by omega)) (c7 hC (by omega)) rfl ?_
        refine we_callV_int (p := 65) (k' := 1) (a := [.ref o, .int y, .int (D 7 j)]) (rr := []) dX8_extend_62 rfl rfl rfl rfl (rc_of rfl (s_o ho) (l_o0 ho) ⟨rfl, by decide⟩) (Nat.le_of_ble_eq_true rfl) (Nat.le_of_ble_eq_true rfl) (by omega) (x_can ho hF hC hW.c hy hh) (Or.inl rfl) rfl ?_
        refine we_if_eq (t := 114) (p := 68) dX8_extend_65 (by decide) rfl rfl (fun hc65 => ?_) (fun hc65 => ?_)
        · skip
          refine we_iinc (ls1 := [.ref 65, .ref o, .int x, .int u, .int y, .long miss, .null, .int ((nI j) + 1)]) (p := 117) dX8_extend_114 rfl rfl rfl ?_
          refine we_goto (p := 18) dX8_extend_117 (by decide) rfl ?_
          rw [nI_1]
          refine (x_rext_L ho hF hW ht0 hn hS hx hy hh hk m (j + 1) I J a (by omega) hC hg hr).mono ?_
          rw [gN_s, if_neg (rc_n3 hc65)]
          exact fun _ _ z => z
        · skip
          refine we_aload_n (p := 69) dX8_extend_68 rfl rfl ?_
          refine we_getR (c := 8) (j := 3) (n := 7) (b := 67) (p := 72) dX8_extend_69 rfl rfl (by decide) (by decide) rfl (r_65_3 hF) rfl ?_
          refine we_iload_n (p := 73) dX8_extend_72 rfl rfl ?_
          refine we_iload (p := 75) dX8_extend_73 rfl rfl ?_
          refine wf_iast (n := 3) (i := k) (p := 76) dX8_extend_75 rfl (by decide) (in_ix hx (by omega) (by decide)) (cl_ix hx (by omega)) rfl ?_
          refine we_aload_n (p := 77) dX8_extend_76 rfl rfl ?_
          refine we_aload_n (p := 78) dX8_extend_77 rfl rfl ?_
          refine we_iload_n (p := 79) dX8_extend_78 rfl rfl ?_
          refine we_iconst (v := 1) (p := 80) dX8_extend_79 (by decide) rfl ?_
          refine we_iadd (p := 81) dX8_extend_80 rfl ?_
          refine we_iload_n (p := 82) dX8_extend_81 rfl rfl ?_
          refine we_iconst (v := 1) (p := 83) dX8_extend_82 (by decide) rfl ?_
          refine we_iload (p := 85) dX8_extend_83 rfl rfl ?_
          refine we_ishl (p := 86) dX8_extend_85 rfl ?_
          refine we_ior (p := 87) dX8_extend_86 rfl ?_
          refine we_aload_n (p := 88) dX8_extend_87 rfl rfl ?_
          refine we_getR (c := 4) (j := 7) (n := 18) (b := (o + 6)) (p := 91) dX8_extend_88 rfl (s_o ho) (l_o0 ho) (by decide) rfl (r_o7 hF ho) rfl ?_
          refine we_iload (p := 93) dX8_extend_91 rfl rfl ?_
          refine wf_iald (n := 8) (i := j) (v := D 7 j) (p := 94) dX8_extend_93 (s_o6 ho) (l_o ho 6 (by decide)) (in_nJ (by omega) (by decide)) (nI_cl (by omega)) (c7 (oC_u hC ho (by omega)) (by omega)) rfl ?_
          refine we_lload (p := 96) dX8_extend_94 rfl rfl ?_
          refine we_aload_n (p := 97) dX8_extend_96 rfl rfl ?_
          refine wg_getJ (c := 8) (j := 5) (n := 7) (v := powS D 100) (p := 100) dX8_extend_97 rfl rfl (by decide) (by decide) rfl hg.2.2.2.1 rfl ?_
          refine we_aload_n (p := 101) dX8_extend_100 rfl rfl ?_
          refine we_getR (c := 8) (j := 4) (n := 7) (b := 68) (p := 104) dX8_extend_101 rfl rfl (by decide) (by decide) rfl (r_65_4 hF) rfl ?_
          refine we_iload_n (p := 105) dX8_extend_104 rfl rfl ?_
          refine wf_aald (c := 17) (n := 3) (b := (69 + k)) (i := k) (p := 106) dX8_extend_105 rfl (by decide) (in_ix hx (by omega) (by decide)) (cl_ix hx (by omega)) (fm_68 hF (by omega)) rfl ?_
          refine we_iload (p := 108) dX8_extend_106 rfl rfl ?_
          refine wg_lald (n := 8) (i := j) (v := chS D s k j) (p := 109) dX8_extend_108 (sf_68 (by omega)) (in_nJ (by omega) (by decide)) (nI_cl (by omega)) (hg.2.2.2.2.2 k (by omega) j (by omega)) rfl ?_
          refine we_lsub (p := 110) dX8_extend_109 rfl ?_
          refine we_lmul (p := 111) dX8_extend_110 rfl ?_
          obtain ⟨_, _, e1, rfl, I1, J1, F1, rfl, ⟨f1, k1, rfl, g1, r1⟩⟩ := hS (k + 1) (hN D j) (x + 1) (u ||| bit j) (D 7 j) (miss * (powS D 100 - chS D s k j)) (upN row k j) a (hp_u I 67 k (nI j)) J (by rw [hx, nI_1]) (hm_eq hD hH (by omega)) (Nat.lt_of_lt_of_le (hm_lt hD hH (by omega)) b0) (by omega) (oC_u hC ho (by omega)) (rI_u hg (by omega)) (gR_up hr)
          refine we_callV_v (p := 114) (k' := (d + 2)) (a := [.ref 65, .ref o, .int (x + 1), .int (u ||| (1 <<< ((nI j) &&& 31))), .int (D 7 j), .long (miss * ((powS D 100) - (chS D s k j)))]) (rr := []) dX8_extend_111 rfl rfl rfl rfl (rc_of rfl rfl (by decide) ⟨rfl, by decide⟩) (Nat.le_of_ble_eq_true rfl) (Nat.le_of_ble_eq_true rfl) (by omega) e1 (Or.inl rfl) rfl ?_
          refine we_iinc (ls1 := [.ref 65, .ref o, .int x, .int u, .int y, .long miss, .null, .int ((nI j) + 1)]) (p := 117) dX8_extend_114 rfl rfl rfl ?_
          refine we_goto (p := 18) dX8_extend_117 (by decide) rfl ?_
          rw [nI_1]
          refine (x_rext_L ho hF hW ht0 hn hS hx hy hh hk m (j + 1) I1 J1 _ (by omega) (oC_fr hC ho (fun q h1 h2 => (f1 q (by omega)).trans (hu_ne (by omega)))) g1 (gR_dn r1)).mono ?_
          rw [gN_s, if_pos (rc_of1 hW ht0 (by omega) hc40 hc49 hc65)]
          rintro r h ⟨h1, I2, J2, F2, h2, h3, h4, h5, h6, h7⟩
          exact ⟨h1, I2, J2, F2, h2, ((Fr.rf.u (by omega) (by omega)).tr f1).tr h3, k1.tr h4, h5, h6, h7⟩
set_option maxRecDepth 10000 in
theorem x_rext {F : Nat → Nat → Option Nat} {nc ns : Nat} {o : Nat} {D : oD} {s : Nat → Int32} {n : Nat} (ho : isO o) (hF : RFok F) (hW : WF D) (ht0 : 0 < tN D) (hn : n ≤ 3) : ∀ d, ∀ (k h : Nat) (x u y : Int32) (miss : Int64) (row : Nat → Nat) (a : rA) (I : Nat → Nat → Int32) (J : Nat → Nat → Int64), x = nI k → y = nI h → h < 6 → k + d = n → oC I o D → rI D s n I J a → gR I 67 row k → Ew (d + 2) mX8_extend 0 [.ref 65, .ref o, .int x, .int u, .int y, .long miss, .null, .null] [] ((SH, nc, ns), I, J, F) (Ret nc ns none (fun I' J' F' => Fr 65 72 I I' ∧ Fr 65 72 J J' ∧ F' = F ∧ rI D s n I' J' (rtS D s n d k u h miss row a) ∧ gR I' 67 row k))
  | 0 => by
    intro k h x u y miss row a I J hx hy hh hk hC hg hr
    have hD := hW.c
    have hH := hW.h
    have hT := hW.t
    have bt := hT.2
    obtain ⟨b0, b1, b2, b3, b4, b5, b6⟩ := hD.2
    refine we_iload_n (p := 1) dX8_extend_0 rfl rfl ?_
    refine we_aload_n (p := 2) dX8_extend_1 rfl rfl ?_
    refine wf_getI (c := 8) (j := 6) (n := 7) (v := nI n) (p := 5) dX8_extend_2 rfl rfl (by decide) (by decide) (Or.inl rfl) hg.2.2.1 rfl ?_
    refine we_icmp_lt (t := 15) (p := 8) dX8_extend_5 (by decide) rfl rfl (fun hc5 => absurd hc5 (by rw [hx]; exact nI_nlt (by omega) (by omega))) (fun hc5 => ?_)
    refine we_aload_n (p := 9) dX8_extend_8 rfl rfl ?_
    refine we_lload (p := 11) dX8_extend_9 rfl rfl ?_
    obtain ⟨_, _, e1, rfl, I1, J1, F1, rfl, ⟨f1, q1, k1, rfl, g1⟩⟩ := x_rsettle (row := row) (miss := miss) hF hn hg (fun i hi => hr i (by omega))
    refine we_callV_v (p := 14) (k' := 0) (a := [.ref 65, .long miss]) (rr := []) dX8_extend_11 rfl rfl rfl rfl (rc_of rfl rfl (by decide) ⟨rfl, by decide⟩) (Nat.le_of_ble_eq_true rfl) (Nat.le_of_ble_eq_true rfl) (by omega) e1 (Or.inl rfl) rfl ?_
    exact wv_ret dX8_extend_14 rfl (⟨rfl, _, _, _, rfl, f1, k1, rfl, g1, fun i hi => (congrFun q1 i).trans (hr i hi)⟩)
  | d + 1 => by
    intro k h x u y miss row a I J hx hy hh hk hC hg hr
    have hD := hW.c
    have hH := hW.h
    have hT := hW.t
    have bt := hT.2
    obtain ⟨b0, b1, b2, b3, b4, b5, b6⟩ := hD.2
    refine we_iload_n (p := 1) dX8_extend_0 rfl rfl ?_
    refine we_aload_n (p := 2) dX8_extend_1 rfl rfl ?_
    refine wf_getI (c := 8) (j := 6) (n := 7) (v := nI n) (p := 5) dX8_extend_2 rfl rfl (by decide) (by decide) (Or.inl rfl) hg.2.2.1 rfl ?_
    refine we_icmp_lt (t := 15) (p := 8) dX8_extend_5 (by decide) rfl rfl (fun hc5 => ?_) (fun hc5 => absurd (by rw [hx]; exact nI_lt (by omega) (by omega)) hc5)
    refine we_iconst (v := 0) (p := 16) dX8_extend_15 (by decide) rfl ?_
    refine we_istore (ls1 := [.ref 65, .ref o, .int x, .int u, .int y, .long miss, .null, .int 0]) (p := 18) dX8_extend_16 rfl rfl ?_
    exact x_rext_L ho hF hW ht0 hn (x_rext ho hF hW ht0 hn d) hx hy hh hk (dN D 2) 0 I J a (by omega) hC hg hr
