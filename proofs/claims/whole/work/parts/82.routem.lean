/-! The reference seeks routes. -/
def rM (n : Nat) (I : Nat → Nat → Int32) (J : Nat → Nat → Int64) (a : rA) : Prop := I 95 24 = a.1 ∧ J 95 25 = a.2.1 ∧ ∀ i, i < n → I 104 i = a.2.2 i
theorem rM_u {I : Nat → Nat → Int32} {J : Nat → Nat → Int64} {n k j : Nat} {v : Int32} {a : rA} (h : rM n I J a) (hk : k ≠ 95 ∧ k ≠ 104) : rM n (hp_u I k j v) J a := ⟨(congrFun (hu_ne (by omega)) 24).trans h.1, h.2.1, A_u h.2.2 (by omega)⟩
theorem hb_or {s : Nat → Int32} {u : Int32} {w : Nat} (hw : w < 32) : hbS (s 4 ||| u) (nI w) = 0 ↔ triB s (nI w) = 0 ∧ hbS u (nI w) = 0 := by
  unfold triB
  rw [hb_tb hw, hb_tb hw, tb_or, tb_at hw]
  cases tb (s 4) w <;> cases tb u w <;> decide
theorem ch_eq {D : oD} {s : Nat → Int32} {k w : Nat} (h : triB s (nI w) = 0) : chS D s k w = powS D (loveS D w (lan s k * D 0 0)).toInt64 := if_pos h
theorem rc_y {D : oD} {s : Nat → Int32} {k h w : Nat} {u um : Int32} (hu : um = s 4 ||| u) (hw : w < 32) (h1 : hbS um (nI w) = 0) (h2 : ¬ loveS D w (lan s k * D 0 0) = 0) (h3 : ¬ canS D h (D 7 w) = 0) : rcB D s k u h w = true := by
  subst hu
  have := (hb_or hw).mp h1
  simp [rcB, this.1, this.2, h2, h3]
theorem rc_m1 {D : oD} {s : Nat → Int32} {k h w : Nat} {u um : Int32} (hu : um = s 4 ||| u) (hw : w < 32) (h1 : ¬ hbS um (nI w) = 0) : ¬ rcB D s k u h w = true := by
  subst hu
  intro z
  simp [rcB] at z
  exact h1 ((hb_or hw).mpr ⟨z.1.1.1, z.1.1.2⟩)
theorem rc_m2 {D : oD} {s : Nat → Int32} {k h w : Nat} {u : Int32} (h2 : loveS D w (lan s k * D 0 0) = 0) : ¬ rcB D s k u h w = true := by
  intro z
  simp [rcB, h2] at z
set_option maxRecDepth 10000 in
theorem y_rext_L {F : Nat → Nat → Option Nat} {nc ns : Nat} {D : oD} {s : Nat → Int32} {n : Nat} (hF : RFok F) (hW : WF D) (hn : n ≤ 3) {d k h : Nat} {x u um y : Int32} {miss : Int64} {row : Nat → Nat} (hS : ∀ (k h : Nat) (x u um y : Int32) (miss : Int64) (row : Nat → Nat) (a : rA) (I : Nat → Nat → Int32) (J : Nat → Nat → Int64), x = nI k → y = nI h → h < 6 → um = s 4 ||| u → k + d = n → oM I 98 D → stM I s → rM n I J a → gR I 103 row k → Ew (d + 5) mX12_tryRoutes 0 [.ref 95, .int x, .int (nI n), .int y, .int um, .long miss, .null, .null, .null, .null] [] ((SH, nc, ns), I, J, F) (Ret nc ns none (fun I' J' F' => Fm 103 105 24 25 I I' ∧ Fr 95 96 J J' ∧ F' = F ∧ rM n I' J' (rtS D s n d k u h miss row a) ∧ gR I' 103 row k))) (hx : x = nI k) (hy : y = nI h) (hh : h < 6) (hu : um = s 4 ||| u) (hk : k + (d + 1) = n) : ∀ (m j : Nat) (I : Nat → Nat → Int32) (J : Nat → Nat → Int64) (a : rA) (z : Value), j + m = dN D 2 → oM I 98 D → stM I s → rM n I J a → gR I 103 row k → Ew (d + 1 + 5) mX12_tryRoutes 68 [.ref 95, .int x, .int (nI n), .int y, .int um, .long miss, .null, .int (lan s k), .int (nI j), z] [] ((SH, nc, ns), I, J, F) (Ret nc ns none (fun I' J' F' => Fm 103 105 24 25 I I' ∧ Fr 95 96 J J' ∧ F' = F ∧ rM n I' J' (gN (fun w a => if rcB D s k u h w = true then rtS D s n d (k + 1) (u ||| bit w) (hN D w) (miss * (powS D 100 - chS D s k w)) (upN row k w) a else a) j m a) ∧ gR I' 103 row k))
  | 0, j, I, J, a, z, hj, hM, hs, hg, hr => by
    have hD := hW.c
    have hH := hW.h
    have hT := hW.t
    have bt := hT.2
    obtain ⟨b0, b1, b2, b3, b4, b5, b6⟩ := hD.2
    refine we_iload (p := 70) dX12_tryRoutes_68 rfl rfl ?_
    refine we_aload_n (p := 71) dX12_tryRoutes_70 rfl rfl ?_
    refine we_getR (c := 11) (j := 15) (n := 37) (b := 98) (p := 74) dX12_tryRoutes_71 rfl rfl (by decide) (by decide) rfl (r_95_15 hF) rfl ?_
    refine we_iconst (v := 4) (p := 75) dX12_tryRoutes_74 (by decide) rfl ?_
    refine wf_iald (n := 276) (i := 4) (v := nI (dN D 2)) (p := 76) dX12_tryRoutes_75 rfl (by decide) (by decide) (by decide) (mNn (i := 2) hM hD (by decide)) rfl ?_
    refine we_icmp_ge (t := 176) (p := 79) dX12_tryRoutes_76 (by decide) rfl rfl (fun hc76 => ?_) (fun hc76 => absurd (nle (by omega) (by omega)) hc76)
    exact wv_ret dX12_tryRoutes_176 rfl (⟨rfl, _, _, _, rfl, Fm.rf, Fr.rf, rfl, hg, hr⟩)
  | m + 1, j, I, J, a, z, hj, hM, hs, hg, hr => by
    have hD := hW.c
    have hH := hW.h
    have hT := hW.t
    have bt := hT.2
    obtain ⟨b0, b1, b2, b3, b4, b5, b6⟩ := hD.2
    refine we_iload (p := 70) dX12_tryRoutes_68 rfl rfl ?_
    refine we_aload_n (p := 71) dX12_tryRoutes_70 rfl rfl ?_
    refine we_getR (c := 11) (j := 15) (n := 37) (b := 98) (p := 74) dX12_tryRoutes_71 rfl rfl (by decide) (by decide) rfl (r_95_15 hF) rfl ?_
    refine we_iconst (v := 4) (p := 75) dX12_tryRoutes_74 (by decide) rfl ?_
    refine wf_iald (n := 276) (i := 4) (v := nI (dN D 2)) (p := 76) dX12_tryRoutes_75 rfl (by decide) (by decide) (by decide) (mNn (i := 2) hM hD (by decide)) rfl ?_
    refine we_icmp_ge (t := 176) (p := 79) dX12_tryRoutes_76 (by decide) rfl rfl (fun hc76 => absurd hc76 (nge (by omega) (by omega))) (fun hc76 => ?_)
    refine we_aload_n (p := 80) dX12_tryRoutes_79 rfl rfl ?_
    refine we_iload (p := 82) dX12_tryRoutes_80 rfl rfl ?_
    refine we_iload (p := 84) dX12_tryRoutes_82 rfl rfl ?_
    refine we_callV_int (p := 87) (k' := 4) (a := [.ref 95, .int (nI j), .int (lan s k)]) (rr := []) dX12_tryRoutes_84 rfl rfl rfl rfl (rc_of rfl rfl (by decide) ⟨rfl, by decide⟩) (Nat.le_of_ble_eq_true rfl) (Nat.le_of_ble_eq_true rfl) (by omega) (y_loveOf hF hM hW (by omega)) (Or.inl rfl) rfl ?_
    refine we_istore (ls1 := [.ref 95, .int x, .int (nI n), .int y, .int um, .long miss, .null, .int (lan s k), .int (nI j), .int (loveS D j ((lan s k) * D 0 0))]) (p := 89) dX12_tryRoutes_87 rfl rfl ?_
    refine we_iload (p := 91) dX12_tryRoutes_89 rfl rfl ?_
    refine we_iload (p := 93) dX12_tryRoutes_91 rfl rfl ?_
    refine we_callS_int (p := 96) (k' := 0) (a := [.int um, .int (nI j)]) (rr := []) dX12_tryRoutes_93 rfl rfl rfl rfl rfl (rc_st rfl) (Nat.le_of_ble_eq_true rfl) (Nat.le_of_ble_eq_true rfl) (by omega) (y_hasBit  ) (Or.inl rfl) rfl ?_
    refine we_if_ne (t := 170) (p := 99) dX12_tryRoutes_96 (by decide) rfl rfl (fun hc96 => ?_) (fun hc96 => ?_)
    · skip
      refine we_iinc (ls1 := [.ref 95, .int x, .int (nI n), .int y, .int um, .long miss, .null, .int (lan s k), .int ((nI j) + 1), .int (loveS D j ((lan s k) * D 0 0))]) (p := 173) dX12_tryRoutes_170 rfl rfl rfl ?_
      refine we_goto (p := 68) dX12_tryRoutes_173 (by decide) rfl ?_
      rw [nI_1]
      refine (y_rext_L hF hW hn hS hx hy hh hu hk m (j + 1) I J a _ (by omega) hM hs hg hr).mono ?_
      rw [gN_s, if_neg (rc_m1 hu (by omega) hc96)]
      exact fun _ _ z => z
    · skip
      refine we_iload (p := 101) dX12_tryRoutes_99 rfl rfl ?_
      refine we_if_eq (t := 170) (p := 104) dX12_tryRoutes_101 (by decide) rfl rfl (fun hc101 => ?_) (fun hc101 => ?_)
      · skip
        refine we_iinc (ls1 := [.ref 95, .int x, .int (nI n), .int y, .int um, .long miss, .null, .int (lan s k), .int ((nI j) + 1), .int (loveS D j ((lan s k) * D 0 0))]) (p := 173) dX12_tryRoutes_170 rfl rfl rfl ?_
        refine we_goto (p := 68) dX12_tryRoutes_173 (by decide) rfl ?_
        rw [nI_1]
        refine (y_rext_L hF hW hn hS hx hy hh hu hk m (j + 1) I J a _ (by omega) hM hs hg hr).mono ?_
        rw [gN_s, if_neg (rc_m2 hc101)]
        exact fun _ _ z => z
      · skip
        refine we_aload_n (p := 105) dX12_tryRoutes_104 rfl rfl ?_
        refine we_iload_n (p := 106) dX12_tryRoutes_105 rfl rfl ?_
        refine we_aload_n (p := 107) dX12_tryRoutes_106 rfl rfl ?_
        refine we_iload (p := 109) dX12_tryRoutes_107 rfl rfl ?_
        refine we_iconst (v := 1) (p := 110) dX12_tryRoutes_109 (by decide) rfl ?_
        refine we_callV_int (p := 113) (k' := 0) (a := [.ref 95, .int (nI j), .int 1]) (rr := [.int y, .ref 95]) dX12_tryRoutes_110 rfl rfl rfl rfl (rc_of rfl rfl (by decide) ⟨rfl, by decide⟩) (Nat.le_of_ble_eq_true rfl) (Nat.le_of_ble_eq_true rfl) (by omega) (y_ofWoman (x := j) (k := 1) hF (m7 hM (by omega)) (by omega) (by omega)) (Or.inl rfl) rfl ?_
        refine we_callV_int (p := 116) (k' := 1) (a := [.ref 95, .int y, .int (D 7 j)]) (rr := []) dX12_tryRoutes_113 rfl rfl rfl rfl (rc_of rfl rfl (by decide) ⟨rfl, by decide⟩) (Nat.le_of_ble_eq_true rfl) (Nat.le_of_ble_eq_true rfl) (by omega) (y_canBe hF hM hW hy (hm_eq hD hH (by omega)) hh (Nat.lt_of_lt_of_le (hm_lt hD hH (show j < dN D 2 by omega)) (by omega))) (Or.inl rfl) rfl ?_
        refine we_if_ne (t := 122) (p := 119) dX12_tryRoutes_116 (by decide) rfl rfl (fun hc116 => ?_) (fun hc116 => ?_)
        · skip
          refine we_aload_n (p := 123) dX12_tryRoutes_122 rfl rfl ?_
          refine we_getR (c := 11) (j := 22) (n := 37) (b := 103) (p := 126) dX12_tryRoutes_123 rfl rfl (by decide) (by decide) rfl (r_95_22 hF) rfl ?_
          refine we_iload_n (p := 127) dX12_tryRoutes_126 rfl rfl ?_
          refine we_iload (p := 129) dX12_tryRoutes_127 rfl rfl ?_
          refine wf_iast (n := 3) (i := k) (p := 130) dX12_tryRoutes_129 rfl (by decide) (in_ix hx (by omega) (by decide)) (cl_ix hx (by omega)) rfl ?_
          refine we_aload_n (p := 131) dX12_tryRoutes_130 rfl rfl ?_
          refine we_iload_n (p := 132) dX12_tryRoutes_131 rfl rfl ?_
          refine we_iconst (v := 1) (p := 133) dX12_tryRoutes_132 (by decide) rfl ?_
          refine we_iadd (p := 134) dX12_tryRoutes_133 rfl ?_
          refine we_iload_n (p := 135) dX12_tryRoutes_134 rfl rfl ?_
          refine we_aload_n (p := 136) dX12_tryRoutes_135 rfl rfl ?_
          refine we_iload (p := 138) dX12_tryRoutes_136 rfl rfl ?_
          refine we_iconst (v := 1) (p := 139) dX12_tryRoutes_138 (by decide) rfl ?_
          refine we_callV_int (p := 142) (k' := 0) (a := [.ref 95, .int (nI j), .int 1]) (rr := [.int (nI n), .int (x + 1), .ref 95]) dX12_tryRoutes_139 rfl rfl rfl rfl (rc_of rfl rfl (by decide) ⟨rfl, by decide⟩) (Nat.le_of_ble_eq_true rfl) (Nat.le_of_ble_eq_true rfl) (by omega) (y_ofWoman (x := j) (k := 1) hF (m7 (oM_u hM (by decide)) (by omega)) (by omega) (by omega)) (Or.inl rfl) rfl ?_
          refine we_iload (p := 144) dX12_tryRoutes_142 rfl rfl ?_
          refine we_iconst (v := 1) (p := 145) dX12_tryRoutes_144 (by decide) rfl ?_
          refine we_iload (p := 147) dX12_tryRoutes_145 rfl rfl ?_
          refine we_ishl (p := 148) dX12_tryRoutes_147 rfl ?_
          refine we_ior (p := 149) dX12_tryRoutes_148 rfl ?_
          refine we_lload (p := 151) dX12_tryRoutes_149 rfl rfl ?_
          refine we_aload_n (p := 152) dX12_tryRoutes_151 rfl rfl ?_
          refine we_ldc2 (p := 155) dX12_tryRoutes_152 rfl rfl ?_
          refine we_callV_long (p := 158) (k' := 0) (a := [.ref 95, .long 100]) (rr := [.long miss, .int (um ||| (1 <<< ((nI j) &&& 31))), .int (D 7 j), .int (nI n), .int (x + 1), .ref 95]) dX12_tryRoutes_155 rfl rfl rfl rfl (rc_of rfl rfl (by decide) ⟨rfl, by decide⟩) (Nat.le_of_ble_eq_true rfl) (Nat.le_of_ble_eq_true rfl) (by omega) (y_trials hF (oM_u hM (by decide)) hW ) (Or.inl rfl) rfl ?_
          refine we_aload_n (p := 159) dX12_tryRoutes_158 rfl rfl ?_
          refine we_iload (p := 161) dX12_tryRoutes_159 rfl rfl ?_
          refine we_i2l (p := 162) dX12_tryRoutes_161 rfl ?_
          refine we_callV_long (p := 165) (k' := 0) (a := [.ref 95, .long ((loveS D j ((lan s k) * D 0 0)).toInt64)]) (rr := [.long (powS D 100), .long miss, .int (um ||| (1 <<< ((nI j) &&& 31))), .int (D 7 j), .int (nI n), .int (x + 1), .ref 95]) dX12_tryRoutes_162 rfl rfl rfl rfl (rc_of rfl rfl (by decide) ⟨rfl, by decide⟩) (Nat.le_of_ble_eq_true rfl) (Nat.le_of_ble_eq_true rfl) (by omega) (y_trials hF (oM_u hM (by decide)) hW ) (Or.inl rfl) rfl ?_
          refine we_lsub (p := 166) dX12_tryRoutes_165 rfl ?_
          refine we_lmul (p := 167) dX12_tryRoutes_166 rfl ?_
          obtain ⟨_, _, e1, rfl, I1, J1, F1, rfl, ⟨f1, k1, rfl, g1, r1⟩⟩ := hS (k + 1) (hN D j) (x + 1) (u ||| bit j) (um ||| bit j) (D 7 j) (miss * (powS D 100 - powS D (loveS D j (lan s k * D 0 0)).toInt64)) (upN row k j) a (hp_u I 103 k (nI j)) J (by rw [hx, nI_1]) (hm_eq hD hH (by omega)) (Nat.lt_of_lt_of_le (hm_lt hD hH (by omega)) b0) (by rw [hu, Int32.or_assoc]) (by omega) (oM_u hM (by decide)) (stM_u hs (by decide)) (rM_u hg (by omega)) (gR_up hr)
          refine we_callV_v (p := 170) (k' := (d + 5)) (a := [.ref 95, .int (x + 1), .int (nI n), .int (D 7 j), .int (um ||| (1 <<< ((nI j) &&& 31))), .long (miss * ((powS D 100) - (powS D ((loveS D j ((lan s k) * D 0 0)).toInt64))))]) (rr := []) dX12_tryRoutes_167 rfl rfl rfl rfl (rc_of rfl rfl (by decide) ⟨rfl, by decide⟩) (Nat.le_of_ble_eq_true rfl) (Nat.le_of_ble_eq_true rfl) (by omega) e1 (Or.inl rfl) rfl ?_
          refine we_iinc (ls1 := [.ref 95, .int x, .int (nI n), .int y, .int um, .long miss, .null, .int (lan s k), .int ((nI j) + 1), .int (loveS D j ((lan s k) * D 0 0))]) (p := 173) dX12_tryRoutes_170 rfl rfl rfl ?_
          refine we_goto (p := 68) dX12_tryRoutes_173 (by decide) rfl ?_
          rw [nI_1]
          rw [← ch_eq ((hb_or (by omega)).mp (hu ▸ hc96)).1] at g1
          refine (y_rext_L hF hW hn hS hx hy hh hu hk m (j + 1) I1 J1 _ _ (by omega) (oM_fr hM ((f1.1 98 (by omega) (by omega)).trans (hu_ne (by omega)))) (stM_fr hs ((f1.1 100 (by omega) (by omega)).trans (hu_ne (by omega)))) g1 (gR_dn r1)).mono ?_
          rw [gN_s, if_pos (rc_y hu (by omega) hc96 hc101 hc116)]
          rintro r h ⟨h1, I2, J2, F2, h2, h3, h4, h5, h6, h7⟩
          exact ⟨h1, I2, J2, F2, h2, ((Fm.rf.u (by omega) (by omega) (by omega)).tr f1).tr h3, k1.tr h4, h5, h6, h7⟩
        · skip
          refine we_goto (p := 170) dX12_tryRoutes_119 (by decide) rfl ?_
          refine we_iinc (ls1 := [.ref 95, .int x, .int (nI n), .int y, .int um, .long miss, .null, .int (lan s k), .int ((nI j) + 1), .int (loveS D j ((lan s k) * D 0 0))]) (p := 173) dX12_tryRoutes_170 rfl rfl rfl ?_
          refine we_goto (p := 68) dX12_tryRoutes_173 (by decide) rfl ?_
          rw [nI_1]
          refine (y_rext_L hF hW hn hS hx hy hh hu hk m (j + 1) I J a _ (by omega) hM hs hg hr).mono ?_
          rw [gN_s, if_neg (rc_n3 hc116)]
          exact fun _ _ z => z
set_option maxRecDepth 10000 in
theorem y_rext {F : Nat → Nat → Option Nat} {nc ns : Nat} {D : oD} {s : Nat → Int32} {n : Nat} (hF : RFok F) (hW : WF D) (hn : n ≤ 3) : ∀ d, ∀ (k h : Nat) (x u um y : Int32) (miss : Int64) (row : Nat → Nat) (a : rA) (I : Nat → Nat → Int32) (J : Nat → Nat → Int64), x = nI k → y = nI h → h < 6 → um = s 4 ||| u → k + d = n → oM I 98 D → stM I s → rM n I J a → gR I 103 row k → Ew (d + 5) mX12_tryRoutes 0 [.ref 95, .int x, .int (nI n), .int y, .int um, .long miss, .null, .null, .null, .null] [] ((SH, nc, ns), I, J, F) (Ret nc ns none (fun I' J' F' => Fm 103 105 24 25 I I' ∧ Fr 95 96 J J' ∧ F' = F ∧ rM n I' J' (rtS D s n d k u h miss row a) ∧ gR I' 103 row k))
  | 0 => by
    intro k h x u um y miss row a I J hx hy hh hu hk hM hs hg hr
    have hD := hW.c
    have hH := hW.h
    have hT := hW.t
    have bt := hT.2
    obtain ⟨b0, b1, b2, b3, b4, b5, b6⟩ := hD.2
    refine we_iload_n (p := 1) dX12_tryRoutes_0 rfl rfl ?_
    refine we_iload_n (p := 2) dX12_tryRoutes_1 rfl rfl ?_
    refine we_icmp_ne (t := 53) (p := 5) dX12_tryRoutes_2 (by decide) rfl rfl (fun hc2 => absurd (by rw [hx, show k = n by omega]) hc2) (fun hc2 => ?_)
    refine we_aload_n (p := 6) dX12_tryRoutes_5 rfl rfl ?_
    refine wf_getI (c := 11) (j := 24) (n := 37) (v := a.1) (p := 9) dX12_tryRoutes_6 rfl rfl (by decide) (by decide) (Or.inl rfl) hg.1 rfl ?_
    refine we_if_eq (t := 22) (p := 12) dX12_tryRoutes_9 (by decide) rfl rfl (fun hc9 => ?_) (fun hc9 => ?_)
    · skip
      refine we_aload_n (p := 23) dX12_tryRoutes_22 rfl rfl ?_
      refine we_lload (p := 25) dX12_tryRoutes_23 rfl rfl ?_
      refine we_putJ (c := 11) (j := 25) (n := 37)  (p := 28) dX12_tryRoutes_25 rfl rfl (by decide) (by decide) rfl rfl rfl ?_
      refine we_aload_n (p := 29) dX12_tryRoutes_28 rfl rfl ?_
      refine we_getR (c := 11) (j := 22) (n := 37) (b := 103) (p := 32) dX12_tryRoutes_29 rfl rfl (by decide) (by decide) rfl (r_95_22 hF) rfl ?_
      refine we_iconst (v := 0) (p := 33) dX12_tryRoutes_32 (by decide) rfl ?_
      refine we_aload_n (p := 34) dX12_tryRoutes_33 rfl rfl ?_
      refine we_getR (c := 11) (j := 23) (n := 37) (b := 104) (p := 37) dX12_tryRoutes_34 rfl rfl (by decide) (by decide) rfl (r_95_23 hF) rfl ?_
      refine we_iconst (v := 0) (p := 38) dX12_tryRoutes_37 (by decide) rfl ?_
      refine we_iload_n (p := 39) dX12_tryRoutes_38 rfl rfl ?_
      refine we_callS_v (p := 42) (k' := 0) (a := [.ref 103, .int 0, .ref 104, .int 0, .int (nI n)]) (rr := []) dX12_tryRoutes_39 rfl rfl rfl rfl rfl (rc_st rfl) (Nat.le_of_ble_eq_true rfl) (Nat.le_of_ble_eq_true rfl) (by omega) (y_copyE (p := 103) (a := 0) (q := 104) (b := 0) (n := n) rfl (by decide) rfl (by decide) (by decide) (by omega) (by omega) (by decide) (by decide) rfl rfl rfl) (Or.inl rfl) rfl ?_
      refine we_aload_n (p := 43) dX12_tryRoutes_42 rfl rfl ?_
      refine we_dup_ref (p := 44) dX12_tryRoutes_43 rfl ?_
      refine wf_getI (c := 11) (j := 24) (n := 37) (v := a.1) (p := 47) dX12_tryRoutes_44 rfl rfl (by decide) (by decide) (Or.inl rfl) ((congrFun (cp_ne (by decide)) 24).trans hg.1) rfl ?_
      refine we_iconst (v := 1) (p := 48) dX12_tryRoutes_47 (by decide) rfl ?_
      refine we_iadd (p := 49) dX12_tryRoutes_48 rfl ?_
      refine we_putI (c := 11) (j := 24) (n := 37)  (p := 52) dX12_tryRoutes_49 rfl rfl (by decide) (by decide) rfl rfl rfl ?_
      exact wv_ret dX12_tryRoutes_52 rfl (⟨rfl, _, _, _, rfl, (cp_Fm (by decide) (by decide) (by decide)).f (by omega) (by omega), Fr.rf.u (by omega) (by omega), rfl, by
      have e : rtS D s n 0 k u h miss row a = (a.1 + 1, miss, fun i => if i < n then nI (row i) else a.2.2 i) := if_pos (Or.inl hc9)
      rw [e]
      exact ⟨hu_eq, hu_eq, fun i hi => (congrFun (hu_ne (by decide)) i).trans ((cp_in (by omega) (by omega)).trans (by simp only [Nat.zero_add, Nat.sub_zero]; exact (hr i (by omega)).trans (if_pos hi).symm))⟩, fun i hi => (congrFun (hu_ne (by decide)) i).trans ((congrFun (cp_ne (by decide)) i).trans (hr i hi))⟩)
    · skip
      refine we_lload (p := 14) dX12_tryRoutes_12 rfl rfl ?_
      refine we_aload_n (p := 15) dX12_tryRoutes_14 rfl rfl ?_
      refine wg_getJ (c := 11) (j := 25) (n := 37) (v := a.2.1) (p := 18) dX12_tryRoutes_15 rfl rfl (by decide) (by decide) rfl hg.2.1 rfl ?_
      refine we_lcmp (p := 19) dX12_tryRoutes_18 rfl ?_
      refine we_if_ge (t := 42) (p := 22) dX12_tryRoutes_19 (by decide) rfl rfl (fun hc19 => ?_) (fun hc19 => ?_)
      · skip
        refine we_aload_n (p := 43) dX12_tryRoutes_42 rfl rfl ?_
        refine we_dup_ref (p := 44) dX12_tryRoutes_43 rfl ?_
        refine wf_getI (c := 11) (j := 24) (n := 37) (v := a.1) (p := 47) dX12_tryRoutes_44 rfl rfl (by decide) (by decide) (Or.inl rfl) hg.1 rfl ?_
        refine we_iconst (v := 1) (p := 48) dX12_tryRoutes_47 (by decide) rfl ?_
        refine we_iadd (p := 49) dX12_tryRoutes_48 rfl ?_
        refine we_putI (c := 11) (j := 24) (n := 37)  (p := 52) dX12_tryRoutes_49 rfl rfl (by decide) (by decide) rfl rfl rfl ?_
        exact wv_ret dX12_tryRoutes_52 rfl (⟨rfl, _, _, _, rfl, Fm.rf.f (by omega) (by omega), Fr.rf, rfl, by
      have e : rtS D s n 0 k u h miss row a = (a.1 + 1, a.2.1, a.2.2) := if_neg (fun z => z.elim hc9 (fun z => absurd ((lg_cmp_ge _ _).mp hc19) (Int64.not_le.mpr z)))
      rw [e]
      exact ⟨hu_eq, hg.2.1, A_u hg.2.2 (by decide)⟩, fun i hi => (congrFun (hu_ne (by decide)) i).trans (hr i hi)⟩)
      · skip
        refine we_aload_n (p := 23) dX12_tryRoutes_22 rfl rfl ?_
        refine we_lload (p := 25) dX12_tryRoutes_23 rfl rfl ?_
        refine we_putJ (c := 11) (j := 25) (n := 37)  (p := 28) dX12_tryRoutes_25 rfl rfl (by decide) (by decide) rfl rfl rfl ?_
        refine we_aload_n (p := 29) dX12_tryRoutes_28 rfl rfl ?_
        refine we_getR (c := 11) (j := 22) (n := 37) (b := 103) (p := 32) dX12_tryRoutes_29 rfl rfl (by decide) (by decide) rfl (r_95_22 hF) rfl ?_
        refine we_iconst (v := 0) (p := 33) dX12_tryRoutes_32 (by decide) rfl ?_
        refine we_aload_n (p := 34) dX12_tryRoutes_33 rfl rfl ?_
        refine we_getR (c := 11) (j := 23) (n := 37) (b := 104) (p := 37) dX12_tryRoutes_34 rfl rfl (by decide) (by decide) rfl (r_95_23 hF) rfl ?_
        refine we_iconst (v := 0) (p := 38) dX12_tryRoutes_37 (by decide) rfl ?_
        refine we_iload_n (p := 39) dX12_tryRoutes_38 rfl rfl ?_
        refine we_callS_v (p := 42) (k' := 0) (a := [.ref 103, .int 0, .ref 104, .int 0, .int (nI n)]) (rr := []) dX12_tryRoutes_39 rfl rfl rfl rfl rfl (rc_st rfl) (Nat.le_of_ble_eq_true rfl) (Nat.le_of_ble_eq_true rfl) (by omega) (y_copyE (p := 103) (a := 0) (q := 104) (b := 0) (n := n) rfl (by decide) rfl (by decide) (by decide) (by omega) (by omega) (by decide) (by decide) rfl rfl rfl) (Or.inl rfl) rfl ?_
        refine we_aload_n (p := 43) dX12_tryRoutes_42 rfl rfl ?_
        refine we_dup_ref (p := 44) dX12_tryRoutes_43 rfl ?_
        refine wf_getI (c := 11) (j := 24) (n := 37) (v := a.1) (p := 47) dX12_tryRoutes_44 rfl rfl (by decide) (by decide) (Or.inl rfl) ((congrFun (cp_ne (by decide)) 24).trans hg.1) rfl ?_
        refine we_iconst (v := 1) (p := 48) dX12_tryRoutes_47 (by decide) rfl ?_
        refine we_iadd (p := 49) dX12_tryRoutes_48 rfl ?_
        refine we_putI (c := 11) (j := 24) (n := 37)  (p := 52) dX12_tryRoutes_49 rfl rfl (by decide) (by decide) rfl rfl rfl ?_
        exact wv_ret dX12_tryRoutes_52 rfl (⟨rfl, _, _, _, rfl, (cp_Fm (by decide) (by decide) (by decide)).f (by omega) (by omega), Fr.rf.u (by omega) (by omega), rfl, by
      have e : rtS D s n 0 k u h miss row a = (a.1 + 1, miss, fun i => if i < n then nI (row i) else a.2.2 i) := if_pos (Or.inr (Int64.not_le.mp (fun z => hc19 ((lg_cmp_ge _ _).mpr z))))
      rw [e]
      exact ⟨hu_eq, hu_eq, fun i hi => (congrFun (hu_ne (by decide)) i).trans ((cp_in (by omega) (by omega)).trans (by simp only [Nat.zero_add, Nat.sub_zero]; exact (hr i (by omega)).trans (if_pos hi).symm))⟩, fun i hi => (congrFun (hu_ne (by decide)) i).trans ((congrFun (cp_ne (by decide)) i).trans (hr i hi))⟩)
  | d + 1 => by
    intro k h x u um y miss row a I J hx hy hh hu hk hM hs hg hr
    have hD := hW.c
    have hH := hW.h
    have hT := hW.t
    have bt := hT.2
    obtain ⟨b0, b1, b2, b3, b4, b5, b6⟩ := hD.2
    refine we_iload_n (p := 1) dX12_tryRoutes_0 rfl rfl ?_
    refine we_iload_n (p := 2) dX12_tryRoutes_1 rfl rfl ?_
    refine we_icmp_ne (t := 53) (p := 5) dX12_tryRoutes_2 (by decide) rfl rfl (fun hc2 => ?_) (fun hc2 => absurd hc2 (by rw [hx]; exact fun z => absurd ((nI_eq (by omega) (by omega)).mp z) (by omega)))
    refine we_aload_n (p := 54) dX12_tryRoutes_53 rfl rfl ?_
    refine we_getR (c := 11) (j := 17) (n := 37) (b := 100) (p := 57) dX12_tryRoutes_54 rfl rfl (by decide) (by decide) rfl (r_95_17 hF) rfl ?_
    refine we_iconst (v := 0) (p := 58) dX12_tryRoutes_57 (by decide) rfl ?_
    refine wf_iald (n := 6) (i := 0) (v := s 0) (p := 59) dX12_tryRoutes_58 rfl (by decide) (by decide) (by decide) (hs 0 (by decide)) rfl ?_
    refine we_iload_n (p := 60) dX12_tryRoutes_59 rfl rfl ?_
    refine we_iadd (p := 61) dX12_tryRoutes_60 rfl ?_
    refine we_iconst (v := 1) (p := 62) dX12_tryRoutes_61 (by decide) rfl ?_
    refine we_iadd (p := 63) dX12_tryRoutes_62 rfl ?_
    refine we_istore (ls1 := [.ref 95, .int x, .int (nI n), .int y, .int um, .long miss, .null, .int (((s 0) + x) + 1), .null, .null]) (p := 65) dX12_tryRoutes_63 rfl rfl ?_
    rw [show s 0 + x + 1 = lan s k by rw [hx]; exact lan_eq]
    refine we_iconst (v := 0) (p := 66) dX12_tryRoutes_65 (by decide) rfl ?_
    refine we_istore (ls1 := [.ref 95, .int x, .int (nI n), .int y, .int um, .long miss, .null, .int (lan s k), .int 0, .null]) (p := 68) dX12_tryRoutes_66 rfl rfl ?_
    exact y_rext_L hF hW hn (y_rext hF hW hn d) hx hy hh hu hk (dN D 2) 0 I J a _ (by omega) hM hs hg hr
def fwS (t b f : Int32) : Int32 := if t = 0 then 1 else if b = 0 then 2 else if f ≤ 0 then 0 else 5
set_option maxRecDepth 10000 in
theorem y_freeWhy {I : Nat → Nat → Int32} {J : Nat → Nat → Int64} {F : Nat → Nat → Option Nat} {nc ns : Nat} {s : Nat → Int32} (hF : RFok F) (hs : stM I s) {t b : Int32} : Ev 0 mX12_freeWhy 0 [.ref 95, .int t, .int b] [] ((SH, nc, ns), I, J, F) (some (.int (fwS t b (s 2)))) ((SH, nc, ns), I, J, F) := by
  refine e_iload_n (p := 1) dX12_freeWhy_0 rfl rfl ?_
  refine e_if_ne (t := 8) (p := 4) dX12_freeWhy_1 (by decide) rfl rfl (fun hc1 => ?_) (fun hc1 => ?_)
  · skip
    refine e_iload_n (p := 9) dX12_freeWhy_8 rfl rfl ?_
    refine e_if_ne (t := 16) (p := 12) dX12_freeWhy_9 (by decide) rfl rfl (fun hc9 => ?_) (fun hc9 => ?_)
    · skip
      refine e_aload_n (p := 17) dX12_freeWhy_16 rfl rfl ?_
      refine e_getR (c := 11) (j := 17) (n := 37) (b := 100) (p := 20) dX12_freeWhy_17 rfl rfl (by decide) (by decide) rfl (r_95_17 hF) rfl ?_
      refine e_iconst (v := 2) (p := 21) dX12_freeWhy_20 (by decide) rfl ?_
      refine f_iald (n := 6) (i := 2) (v := s 2) (p := 22) dX12_freeWhy_21 rfl (by decide) (by decide) (by decide) (hs 2 (by decide)) rfl ?_
      refine e_if_le (t := 29) (p := 25) dX12_freeWhy_22 (by decide) rfl rfl (fun hc22 => ?_) (fun hc22 => ?_)
      · skip
        refine e_iconst (v := 0) (p := 30) dX12_freeWhy_29 (by decide) rfl ?_
        exact e_iretE dX12_freeWhy_30 rfl rfl (by decide) ⟨by simp only [fwS, hc1, hc9, hc22, ↓reduceIte], rfl⟩
      · skip
        refine e_iconst (v := 5) (p := 26) dX12_freeWhy_25 (by decide) rfl ?_
        refine e_goto (p := 30) dX12_freeWhy_26 (by decide) rfl ?_
        exact e_iretE dX12_freeWhy_30 rfl rfl (by decide) ⟨by simp only [fwS, hc1, hc9, hc22, ↓reduceIte], rfl⟩
    · skip
      refine e_iconst (v := 2) (p := 13) dX12_freeWhy_12 (by decide) rfl ?_
      refine e_goto (p := 30) dX12_freeWhy_13 (by decide) rfl ?_
      exact e_iretE dX12_freeWhy_30 rfl rfl (by decide) ⟨by simp only [fwS, hc1, hc9, ↓reduceIte], rfl⟩
  · skip
    refine e_iconst (v := 1) (p := 5) dX12_freeWhy_4 (by decide) rfl ?_
    refine e_goto (p := 30) dX12_freeWhy_5 (by decide) rfl ?_
    exact e_iretE dX12_freeWhy_30 rfl rfl (by decide) ⟨by simp only [fwS, hc1, ↓reduceIte], rfl⟩
theorem fw_ok {f : Int32} (h : f ≤ 0) : fwS 1 1 f = 0 := by
  unfold fwS
  rw [if_neg (by decide), if_neg (by decide), if_pos h]
set_option maxRecDepth 10000 in
theorem y_routeWhy_no {I : Nat → Nat → Int32} {J : Nat → Nat → Int64} {F : Nat → Nat → Option Nat} {nc ns : Nat} {D : oD} (hF : RFok F) (hM : oM I 98 D) (hW : WF D) (hO : I 95 14 = tol D) {s : Nat → Int32} (hs : stM I s) {v : Int32} (ht : ¬ fwS (tol D) (inS v 1 3) (s 2) = 0)  : Ev 9 mX12_routeWhy 0 [.ref 95, .int v, .null] [] ((SH, nc, ns), I, J, F) (some (.int (fwS (tol D) (inS v 1 3) (s 2)))) ((SH, nc, ns), I, J, F) := by
  have hD := hW.c
  have hH := hW.h
  have hT := hW.t
  have bt := hT.2
  obtain ⟨b0, b1, b2, b3, b4, b5, b6⟩ := hD.2
  refine e_aload_n (p := 1) dX12_routeWhy_0 rfl rfl ?_
  refine e_aload_n (p := 2) dX12_routeWhy_1 rfl rfl ?_
  refine f_getI (c := 11) (j := 14) (n := 37) (v := tol D) (p := 5) dX12_routeWhy_2 rfl rfl (by decide) (by decide) (Or.inr rfl) hO rfl ?_
  refine e_iload_n (p := 6) dX12_routeWhy_5 rfl rfl ?_
  refine e_iconst (v := 1) (p := 7) dX12_routeWhy_6 (by decide) rfl ?_
  refine e_iconst (v := 3) (p := 8) dX12_routeWhy_7 (by decide) rfl ?_
  refine e_callS_int (p := 11) (k' := 0) (a := [.int v, .int 1, .int 3]) (rr := [.int (tol D), .ref 95]) dX12_routeWhy_8 rfl rfl rfl rfl rfl (rc_st rfl) (Nat.le_of_ble_eq_true rfl) (Nat.le_of_ble_eq_true rfl) (by decide) (y_in  ) (Or.inl rfl) rfl ?_
  refine e_callV_int (p := 14) (k' := 0) (a := [.ref 95, .int (tol D), .int (inS v 1 3)]) (rr := []) dX12_routeWhy_11 rfl rfl rfl rfl (rc_of rfl rfl (by decide) ⟨rfl, by decide⟩) (Nat.le_of_ble_eq_true rfl) (Nat.le_of_ble_eq_true rfl) (by decide) (y_freeWhy hF hs ) (Or.inl rfl) rfl ?_
  refine e_istore_n (ls1 := [.ref 95, .int v, .int (fwS (tol D) (inS v 1 3) (s 2))]) (p := 15) dX12_routeWhy_14 rfl rfl ?_
  refine e_iload_n (p := 16) dX12_routeWhy_15 rfl rfl ?_
  refine e_if_eq (t := 21) (p := 19) dX12_routeWhy_16 (by decide) rfl rfl (fun hc16 => absurd hc16 ht) (fun hc16 => ?_)
  refine e_iload_n (p := 20) dX12_routeWhy_19 rfl rfl ?_
  exact e_iretE dX12_routeWhy_20 rfl rfl (by decide) ⟨rfl, rfl⟩
set_option maxRecDepth 10000 in
theorem y_routeWhy {I : Nat → Nat → Int32} {J : Nat → Nat → Int64} {F : Nat → Nat → Option Nat} {nc ns : Nat} {D : oD} (hF : RFok F) (hM : oM I 98 D) (hW : WF D) (hO : I 95 14 = tol D) {s : Nat → Int32} (hs : stM I s) (hS : WFs D s) (ht1 : tol D = 1) (hfr : s 2 ≤ 0) {n : Nat} (h1n : 1 ≤ n) (hn : n ≤ 3) {l : Int64} {f : Nat → Int32} (hl : J 95 25 = l) (hf : I 104 = f) : Ew 9 mX12_routeWhy 0 [.ref 95, .int (nI n), .null] [] ((SH, nc, ns), I, J, F) (Ret nc ns (some (.int 0)) (fun I' J' F' => Fm 103 105 24 25 I I' ∧ Fr 95 96 J J' ∧ F' = F ∧ rM n I' J' (rout0 D s n l f))) := by
  have hD := hW.c
  have hH := hW.h
  have hT := hW.t
  have bt := hT.2
  obtain ⟨b0, b1, b2, b3, b4, b5, b6⟩ := hD.2
  have hat := hS.at_ (tol_h hW ht1)
  refine we_aload_n (p := 1) dX12_routeWhy_0 rfl rfl ?_
  refine we_aload_n (p := 2) dX12_routeWhy_1 rfl rfl ?_
  refine wf_getI (c := 11) (j := 14) (n := 37) (v := 1) (p := 5) dX12_routeWhy_2 rfl rfl (by decide) (by decide) (Or.inr rfl) (hO.trans ht1) rfl ?_
  refine we_iload_n (p := 6) dX12_routeWhy_5 rfl rfl ?_
  refine we_iconst (v := 1) (p := 7) dX12_routeWhy_6 (by decide) rfl ?_
  refine we_iconst (v := 3) (p := 8) dX12_routeWhy_7 (by decide) rfl ?_
  refine we_callS_int (p := 11) (k' := 0) (a := [.int (nI n), .int 1, .int 3]) (rr := [.int 1, .ref 95]) dX12_routeWhy_8 rfl rfl rfl rfl rfl (rc_st rfl) (Nat.le_of_ble_eq_true rfl) (Nat.le_of_ble_eq_true rfl) (by omega) (Ev.i (in_ok (a := 1) (b := 3) (n := n) (by omega) (by omega) (by omega)) (y_in  )) (Or.inl rfl) rfl ?_
  refine we_callV_int (p := 14) (k' := 0) (a := [.ref 95, .int 1, .int 1]) (rr := []) dX12_routeWhy_11 rfl rfl rfl rfl (rc_of rfl rfl (by decide) ⟨rfl, by decide⟩) (Nat.le_of_ble_eq_true rfl) (Nat.le_of_ble_eq_true rfl) (by omega) (Ev.i (fw_ok hfr) (y_freeWhy hF hs )) (Or.inl rfl) rfl ?_
  refine we_istore_n (ls1 := [.ref 95, .int (nI n), .int 0]) (p := 15) dX12_routeWhy_14 rfl rfl ?_
  refine we_iload_n (p := 16) dX12_routeWhy_15 rfl rfl ?_
  refine we_if_eq (t := 21) (p := 19) dX12_routeWhy_16 (by decide) rfl rfl (fun hc16 => ?_) (fun hc16 => absurd (by decide) hc16)
  refine we_aload_n (p := 22) dX12_routeWhy_21 rfl rfl ?_
  refine we_iconst (v := 0) (p := 23) dX12_routeWhy_22 (by decide) rfl ?_
  refine we_putI (c := 11) (j := 24) (n := 37)  (p := 26) dX12_routeWhy_23 rfl rfl (by decide) (by decide) rfl rfl rfl ?_
  refine we_aload_n (p := 27) dX12_routeWhy_26 rfl rfl ?_
  refine we_iconst (v := 0) (p := 28) dX12_routeWhy_27 (by decide) rfl ?_
  refine we_iload_n (p := 29) dX12_routeWhy_28 rfl rfl ?_
  refine we_aload_n (p := 30) dX12_routeWhy_29 rfl rfl ?_
  refine we_getR (c := 11) (j := 17) (n := 37) (b := 100) (p := 33) dX12_routeWhy_30 rfl rfl (by decide) (by decide) rfl (r_95_17 hF) rfl ?_
  refine we_iconst (v := 1) (p := 34) dX12_routeWhy_33 (by decide) rfl ?_
  refine wf_iald (n := 6) (i := 1) (v := s 1) (p := 35) dX12_routeWhy_34 rfl (by decide) (by decide) (by decide) ((stM_u hs (by decide)) 1 (by decide)) rfl ?_
  refine we_aload_n (p := 36) dX12_routeWhy_35 rfl rfl ?_
  refine we_getR (c := 11) (j := 17) (n := 37) (b := 100) (p := 39) dX12_routeWhy_36 rfl rfl (by decide) (by decide) rfl (r_95_17 hF) rfl ?_
  refine we_iconst (v := 4) (p := 40) dX12_routeWhy_39 (by decide) rfl ?_
  refine wf_iald (n := 6) (i := 4) (v := s 4) (p := 41) dX12_routeWhy_40 rfl (by decide) (by decide) (by decide) ((stM_u hs (by decide)) 4 (by decide)) rfl ?_
  refine we_lconst (v := 1) (p := 42) dX12_routeWhy_41 (by decide) rfl ?_
  obtain ⟨_, _, e1, rfl, I1, J1, F1, rfl, ⟨f1, k1, rfl, g1, r1⟩⟩ := y_rext hF hW hn n 0 (s 1).toNatClampNeg 0 0 (s 4) (s 1) 1 (fun _ => 0) (0, l, f) (hp_u I 95 24 0) J rfl hat.1 hat.2.2 (by rw [Int32.or_zero]) (by omega) (oM_u hM (by decide)) (stM_u hs (by decide)) ⟨hu_eq, hl, fun i hi => (congrFun (hu_ne (by decide)) i).trans (congrFun hf i)⟩ (fun i hi => absurd hi (by omega))
  refine we_callV_v (p := 45) (k' := (n + 5)) (a := [.ref 95, .int 0, .int (nI n), .int (s 1), .int (s 4), .long 1]) (rr := []) dX12_routeWhy_42 rfl rfl rfl rfl (rc_of rfl rfl (by decide) ⟨rfl, by decide⟩) (Nat.le_of_ble_eq_true rfl) (Nat.le_of_ble_eq_true rfl) (by omega) e1 (Or.inl rfl) rfl ?_
  refine we_iconst (v := 0) (p := 46) dX12_routeWhy_45 (by decide) rfl ?_
  exact wi_ret dX12_routeWhy_46 rfl rfl (by decide) (⟨rfl, _, _, _, rfl, (Fm.rf.f (by omega) (by omega)).tr f1, k1, rfl, g1⟩)
