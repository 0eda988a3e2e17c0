/-! The law: led, its loop. -/
theorem led_eq {b i : Int32} : ∀ m j (n : Int32), j + m ≤ 32 → ledC b j m (i - n) = ledG b i j m n
  | 0, j, n, _ => rfl
  | m + 1, j, n, h => by
    rw [ledC, ledG]
    have e1 : (b >>> (nI j &&& 31)) &&& 1 = 0 ↔ hbS b (nI j) = 0 := by
      rw [hb_tb (by omega), tb_at (by omega)]
    have e2 : i - n = 0 ↔ n = i := by
      constructor
      · intro z
        have : i - n + n = 0 + n := by rw [z]
        rw [Int32.sub_add_cancel, Int32.zero_add] at this
        exact this.symm
      · intro z
        rw [z, Int32.sub_self]
    by_cases c1 : hbS b (nI j) = 0
    · rw [if_pos c1, if_pos (e1.mpr c1)]
      exact led_eq m (j + 1) n (by omega)
    · rw [if_neg c1, if_neg (fun z => c1 (e1.mp z))]
      by_cases c2 : n = i
      · rw [if_pos c2, if_pos (e2.mpr c2)]
      · rw [if_neg c2, if_neg (fun z => c2 (e2.mp z))]
        have e3 : i - n + -1 = i - (n + 1) := by
          first
            | rw [Int32.sub_eq_add_neg, Int32.sub_eq_add_neg i (n + 1), Int32.neg_add, Int32.sub_eq_add_neg, Int32.add_assoc]
            | rw [Int32.sub_eq_add_neg, Int32.sub_eq_add_neg i (n + 1), Int32.neg_add, Int32.add_assoc]
        rw [e3]
        exact led_eq m (j + 1) (n + 1) (by omega)
theorem ledC_none {b : Int32} : ∀ m j a, j + m ≤ 32 → (∀ k, j ≤ k → k < 32 → tb b k = false) → ledC b j m a = none
  | 0, _, _, _, _ => rfl
  | m + 1, j, a, h, z => by
    rw [ledC, if_pos ((tb_0 (by omega)).mpr (z j (by omega) (by omega)))]
    exact ledC_none m (j + 1) a (by omega) (fun k h1 h2 => z k (by omega) h2)
theorem ledC_cut {b : Int32} {m2 : Nat} : ∀ m j a, j + m + m2 ≤ 32 → (∀ k, j + m ≤ k → k < 32 → tb b k = false) → ledC b j (m + m2) a = ledC b j m a
  | 0, j, a, h, z => by
    rw [Nat.zero_add]
    exact ledC_none m2 j a (by omega) (fun k h1 h2 => z k (by omega) h2)
  | m + 1, j, a, h, z => by
    rw [show m + 1 + m2 = (m + m2) + 1 by omega, ledC, ledC]
    have i1 := fun a => ledC_cut (m2 := m2) m (j + 1) a (by omega) (fun k (h1 : j + 1 + m ≤ k) h2 => z k (by omega) h2)
    rw [i1, i1]
theorem ledG_neg {b i : Int32} (hi : ¬ 0 ≤ i) : ∀ m j a, a + m < 1000 → ledG b i j m (nI a) = none
  | 0, _, _, _ => rfl
  | m + 1, j, a, h => by
    rw [ledG]
    split
    · exact ledG_neg hi m (j + 1) a (by omega)
    · rw [if_neg (fun z => hi (by rw [← z]; exact nI_le (a := 0) (b := a) (by omega) (by omega))), nI_1]
      exact ledG_neg hi m (j + 1) (a + 1) (by omega)
theorem led_s {D : oD} {s : Nat → Int32} {i : Int32} (hW : WF D) (hS : WFs D s) : ledC (s 5) 0 6 i = ledG (s 5) i 0 (dN D 4) 0 := by
  have b4 := hW.c.2.2.2.2.2.1
  obtain ⟨-, -, -, -, b, hb, e5⟩ := hS
  have e := ledC_cut (b := s 5) (m2 := 6 - dN D 4) (dN D 4) 0 i (by omega) (fun k h1 h2 => by rw [e5]; exact tb_lt hb (by omega) h2)
  rw [show dN D 4 + (6 - dN D 4) = 6 by omega] at e
  rw [e]
  have e2 := led_eq (b := s 5) (i := i) (dN D 4) 0 0 (by omega)
  rw [Int32.sub_zero] at e2
  exact e2
section
variable {d pc : Nat} {ls r : List Value} {h h1 : hp_H} {Q : Option Value → hp_H → Prop} {a v : Int32}
theorem w_led_ok (hd : decode (mC mL_law) pc = .ok (.invokestatic 220, 3)) (hrc : ev_rc mX11_led h [.ref 0, .int a] = true) (hs : (hp_sh h)[111]? = some (13, 1)) (hc : (r.map fun v => v.category).sum ≤ 9) (hcall : Ev d mX11_led 0 [.ref 0, .int a, .null] [] h (some (.int v)) h1) (e : h1.1 = h.1) (q : Ew (d + 2) mL_law (pc + 3) ls (.int 0 :: r) (hp_sJ h1 111 0 v.toInt64) Q) : Ew (d + 2) mL_law pc ls (.ref 111 :: .int a :: .ref 0 :: r) h Q := by
  obtain ⟨n1, c⟩ := hcall
  obtain ⟨r', h2, ⟨n2, q⟩, z⟩ := q
  refine ⟨r', h2, ⟨max n1 n2 + 1, ?_⟩, z⟩
  show ev_step (ev (d + 1) (max n1 n2)) (ev d (max n1 n2)) (ev (d + 2) (max n1 n2)) mL_law pc ls _ h = _
  unfold ev_step
  rw [hd]
  try dsimp only
  rw [if_pos (by decide), show ev_stp mL_law (.invokestatic 220) pc ls (.ref 111 :: .int a :: .ref 0 :: r) h = none from rfl]
  try dsimp only
  rw [show ev_ret mL_law (.invokestatic 220) (.ref 111 :: .int a :: .ref 0 :: r) h = none from rfl]
  try dsimp only
  unfold ev_cal
  rw [show ev_isC (.invokestatic 220) = some 220 from rfl]
  try dsimp only
  rw [show ev_ct (mO mL_law) 220 = none from rfl]
  try dsimp only
  unfold ev_led
  change (@ite _ _ _ _ _) = _
  rw [if_pos ⟨hrc, by decide, hs, hc⟩, show ev_entry [.ref 0, .int a] 3 = [.ref 0, .int a, .null] from rfl, ev_nn (Nat.le_max_left n1 n2) _ _ _ _ _ _ c]
  try dsimp only
  rw [if_pos ⟨by rw [show hp_sh h1 = hp_sh h from congrArg Prod.fst e]; exact hs, e⟩]
  exact ev_nn (Nat.le_max_right n1 n2) _ _ _ _ _ _ q
theorem w_led_no (hd : decode (mC mL_law) pc = .ok (.invokestatic 220, 3)) (hrc : ev_rc mX11_led h [.ref 0, .int a] = true) (hs : (hp_sh h)[111]? = some (13, 1)) (hc : (r.map fun v => v.category).sum ≤ 9) (hcall : Ev d mX11_led 0 [.ref 0, .int a, .null] [] h (some .null) h1) (e : h1.1 = h.1) (q : Ew (d + 2) mL_law (pc + 3) ls (.int 1 :: r) ((h1.1.1, h1.1.2.1 + 1, h1.1.2.2 + 6), h1.2) Q) : Ew (d + 2) mL_law pc ls (.ref 111 :: .int a :: .ref 0 :: r) h Q := by
  obtain ⟨n1, c⟩ := hcall
  obtain ⟨r', h2, ⟨n2, q⟩, z⟩ := q
  refine ⟨r', h2, ⟨max n1 n2 + 1, ?_⟩, z⟩
  show ev_step (ev (d + 1) (max n1 n2)) (ev d (max n1 n2)) (ev (d + 2) (max n1 n2)) mL_law pc ls _ h = _
  unfold ev_step
  rw [hd]
  try dsimp only
  rw [if_pos (by decide), show ev_stp mL_law (.invokestatic 220) pc ls (.ref 111 :: .int a :: .ref 0 :: r) h = none from rfl]
  try dsimp only
  rw [show ev_ret mL_law (.invokestatic 220) (.ref 111 :: .int a :: .ref 0 :: r) h = none from rfl]
  try dsimp only
  unfold ev_cal
  rw [show ev_isC (.invokestatic 220) = some 220 from rfl]
  try dsimp only
  rw [show ev_ct (mO mL_law) 220 = none from rfl]
  try dsimp only
  unfold ev_led
  change (@ite _ _ _ _ _) = _
  rw [if_pos ⟨hrc, by decide, hs, hc⟩, show ev_entry [.ref 0, .int a] 3 = [.ref 0, .int a, .null] from rfl, ev_nn (Nat.le_max_left n1 n2) _ _ _ _ _ _ c]
  try dsimp only
  rw [if_pos e]
  exact ev_nn (Nat.le_max_right n1 n2) _ _ _ _ _ _ q
end
theorem CR.J {I : Nat → Nat → Int32} {J J' : Nat → Nat → Int64} {F : Nat → Nat → Option Nat} {x : sg} (hw : WD x) (h : CR I J F x) (hJ : J' 21 = J 21) : CR I J' F x := by
  obtain ⟨D, s, K, U, M, V, L, T, t, fa, p, pm⟩ := x
  obtain ⟨o, q, g1, g2, g3, g4, g5, g6, g7, g8, g9, g10, g11, g12, g13, g14, g15, g16, g17, g18⟩ := h
  exact ⟨o, q, g1, g2, g3, g4, g5, g6, g7, g8, g9, g10, g11, g12, g13, g14, g15, g16, g17, fun k hk => by rw [hJ]; exact g18 k hk⟩
theorem CR.u95 {I : Nat → Nat → Int32} {J : Nat → Nat → Int64} {F : Nat → Nat → Option Nat} {x : sg} {y : Int32} {j : Nat} (hw : WD x) (h : CR I J F x) : CR (hp_u I 95 j y) J F x := h.f hw fM2.rf.u
theorem MR.uz {I : Nat → Nat → Int32} {x : sg} {y : Int32} (h : MR I x) : MR (hp_u I 95 0 y) x := by
  obtain ⟨D, s, K, U, M, V, L, T, t, fa, p, pm⟩ := x
  exact MRe.uz h
/-- led on both sides -/
theorem led_two {I : Nat → Nat → Int32} {J : Nat → Nat → Int64} {F : Nat → Nat → Option Nat} {x : sg} {nc ns : Nat} {i : Int32} (hw : WD x) (hC : CR I J F x) (hM : MR I x) :
    (∃ k : Nat, Ev 1 mX11_led 0 [.ref 0, .int i, .null] [] ((SH, nc, ns), I, J, F) (some (.int (nI k))) ((SH, nc, ns), I, J, F) ∧ ∀ J nc ns, Ev 1 mX12_led 0 [.ref 95, .int i, .null, .null] [] ((SH, nc, ns), I, J, F) (some (.int (nI k))) ((SH, nc, ns), hp_u I 95 0 0, J, F)) ∨
    (Ev 1 mX11_led 0 [.ref 0, .int i, .null] [] ((SH, nc, ns), I, J, F) (some .null) ((SH, nc, ns), I, J, F) ∧ ∀ J nc ns, Ev 1 mX12_led 0 [.ref 95, .int i, .null, .null] [] ((SH, nc, ns), I, J, F) (some (.int 0)) ((SH, nc, ns), hp_u I 95 0 1, J, F)) := by
  obtain ⟨D, s, K, U, M, V, L, T, t, fa, p, pm⟩ := x
  obtain ⟨hW, hS, -⟩ := hw
  obtain ⟨o, q, g1, g2, g3, g4, g5, g6, g7, g8, -⟩ := hC
  obtain ⟨m1, m2, m3, -⟩ := hM
  have hle := led_s (i := i) hW hS
  have kb : ∀ m j n k, j + m ≤ 32 → ledG (s 5) i j m n = some k → k < 32 := by
    intro m
    induction m with
    | zero => intro j n k _ z; cases z
    | succ m ih =>
      intro j n k hj z
      rw [ledG] at z
      split at z
      · exact ih (j + 1) n k (by omega) z
      · split at z
        · cases z; omega
        · exact ih (j + 1) _ k (by omega) z
  have b4 := hW.c.2.2.2.2.2.1
  rcases tol_01 (D := D) with h | h
  · have d4 := tol_0 hW h (i := 4) (by omega)
    refine Or.inr ⟨?_, fun J nc ns => q_led_u g4 m1 hW m2 m3 h⟩
    by_cases hi : 0 ≤ i
    · refine c_led_no g8 g4 hi ?_
      rw [hle, d4]
      rfl
    · exact c_led_neg g8 g4 hi
  · by_cases hi : 0 ≤ i
    · cases hG : ledG (s 5) i 0 (dN D 4) 0 with
      | none =>
        refine Or.inr ⟨c_led_no g8 g4 hi (by rw [hle, hG]; rfl), fun J nc ns => ?_⟩
        have q := q_led_t (J := J) (nc := nc) (ns := ns) (i := i) g4 m1 hW m2 m3 h
        rw [hG] at q
        exact q
      | some k =>
        have hk := kb _ _ _ _ (by omega) hG
        refine Or.inl ⟨k, ?_, fun J nc ns => ?_⟩
        · have q := c_led_ok (J := J) (nc := nc) (ns := ns) g8 g4 hi (by
            rw [hle, hG]
            show ¬ nI k = -2
            intro z
            have := congrArg Int32.toInt z
            rw [nI_toInt (by omega)] at this
            have h2 : (-2 : Int32).toInt = -2 := by decide
            rw [h2] at this
            omega)
          rw [hle, hG] at q
          exact q
        · have q := q_led_t (J := J) (nc := nc) (ns := ns) (i := i) g4 m1 hW m2 m3 h
          rw [hG] at q
          exact q
    · have hG := ledG_neg (b := s 5) hi (dN D 4) 0 0 (by omega)
      refine Or.inr ⟨c_led_neg g8 g4 hi, fun J nc ns => ?_⟩
      have q := q_led_t (J := J) (nc := nc) (ns := ns) (i := i) g4 m1 hW m2 m3 h
      rw [show ledG (s 5) i 0 (dN D 4) 0 = none from hG] at q
      exact q
set_option maxRecDepth 10000 in
theorem l_led {n j : Nat} {z5 z6 : Value} {I : Nat → Nat → Int32} {J : Nat → Nat → Int64} {F : Nat → Nat → Option Nat} {nc ns : Nat} {Q : Option Value → hp_H → Prop} (hv : Lv n I J F) (hj : 6 * j + 6 ≤ n) (hn : n ≤ 3072) (kk : ∀ I' J' F' nc' ns' y5 y6, nc' ≤ nc + 1 → ns' ≤ ns + 6 → Lv n I' J' F' → Ew 12 mL_law 1849 (lL j y5 y6) [] ((SH, nc', ns'), I', J', F') Q) : Ew 12 mL_law 1755 (lL j z5 z6) [] ((SH, nc, ns), I, J, F) Q := by
  obtain ⟨⟨x, hw, hC, hM⟩, hX⟩ := hv
  refine we_aload_n (p := 1756) dL_law_1755 rfl rfl ?_
  refine lw_arg (c := 1) (v := I sp_X (6 * j + 1)) (p := 1762) dL_law_1756 dL_law_1757 dL_law_1759 dL_law_1760 dL_law_1761 (by decide) hX (by omega) hn rfl rfl ?_
  refine we_aload_n (p := 1763) dL_law_1762 rfl rfl ?_
  rcases led_two (nc := nc) (ns := ns) (i := I sp_X (6 * j + 1)) hw hC hM with ⟨k, m1, m2⟩ | ⟨m1, m2⟩
  · refine w_led_ok (d := 10) dL_law_1763 (rc_of rfl rfl (by decide) ⟨rfl, by decide⟩) rfl (Nat.le_of_ble_eq_true rfl) (m1.up (by decide)) rfl ?_
    show Ew 12 mL_law 1766 (lL j z5 z6) [.int 0] ((SH, nc, ns), I, hp_u J 111 0 (nI k).toInt64, F) Q
    refine we_istore (ls1 := [.ref sp_X, .ref 0, .ref 95, .ref 111, .int (nI (6 * j)), .int 0, z6]) (p := 1768) dL_law_1766 rfl rfl ?_
    refine we_aload_n (p := 1769) dL_law_1768 rfl rfl ?_
    refine lw_arg (c := 1) (v := I sp_X (6 * j + 1)) (p := 1775) dL_law_1769 dL_law_1770 dL_law_1772 dL_law_1773 dL_law_1774 (by decide) hX (by omega) hn rfl rfl ?_
    refine we_callV_int (p := 1778) (k' := 1) (a := [.ref 95, .int (I sp_X (6 * j + 1))]) (rr := []) dL_law_1775 rfl rfl rfl rfl (rc_of rfl rfl (by decide) ⟨rfl, by decide⟩) (Nat.le_of_ble_eq_true rfl) (Nat.le_of_ble_eq_true rfl) (by decide) (m2 _ _ _) (Or.inl rfl) rfl ?_
    refine we_istore (ls1 := lL j (.int 0) (.int (nI k))) (p := 1780) dL_law_1778 rfl rfl ?_
    refine we_aload_n (p := 1781) dL_law_1780 rfl rfl ?_
    refine we_callV_int (p := 1784) (k' := 0) (a := [.ref 95]) (rr := []) dL_law_1781 rfl rfl rfl rfl (rc_of rfl rfl (by decide) ⟨rfl, by decide⟩) (Nat.le_of_ble_eq_true rfl) (Nat.le_of_ble_eq_true rfl) (by decide) (Ev.i (show hp_u I 95 0 0 95 0 = 0 from hu_eq) (q_thrown hC.rf)) (Or.inl rfl) rfl ?_
    refine we_iload (p := 1786) dL_law_1784 rfl rfl ?_
    refine we_icmp_eq (t := 1791) (p := 1789) dL_law_1786 (by decide) rfl rfl (fun _ => ?_) (fun z => absurd rfl z)
    refine we_iload (p := 1793) dL_law_1791 rfl rfl ?_
    refine we_if_ne (t := 1808) (p := 1796) dL_law_1793 (by decide) rfl rfl (fun z => absurd rfl z) (fun _ => ?_)
    refine we_aload_n (p := 1797) dL_law_1796 rfl rfl ?_
    refine we_iconst (v := 0) (p := 1798) dL_law_1797 (by decide) rfl ?_
    refine wf_lald (n := 1) (i := 0) (p := 1799) dL_law_1798 rfl (by decide) (by decide) rfl ?_
    refine we_iload (p := 1801) dL_law_1799 rfl rfl ?_
    refine we_i2l (p := 1802) dL_law_1801 rfl ?_
    refine we_lcmp (p := 1803) dL_law_1802 rfl ?_
    refine we_if_eq (t := 1808) (p := 1806) dL_law_1803 (by decide) rfl rfl (fun _ => ?_) (fun z => absurd (by rw [hu_eq]; exact lg_same _) z)
    refine we_goto (p := 1849) dL_law_1808 (by decide) rfl ?_
    exact kk _ _ _ _ _ _ _ (by omega) (by omega) ⟨⟨x, hw, (hC.J hw (hu_ne (by decide))).u95 hw, hM.uz⟩, hX⟩
  · refine w_led_no (d := 10) dL_law_1763 (rc_of rfl rfl (by decide) ⟨rfl, by decide⟩) rfl (Nat.le_of_ble_eq_true rfl) (m1.up (by decide)) rfl ?_
    show Ew 12 mL_law 1766 (lL j z5 z6) [.int 1] ((SH, nc + 1, ns + 6), I, J, F) Q
    refine we_istore (ls1 := [.ref sp_X, .ref 0, .ref 95, .ref 111, .int (nI (6 * j)), .int 1, z6]) (p := 1768) dL_law_1766 rfl rfl ?_
    refine we_aload_n (p := 1769) dL_law_1768 rfl rfl ?_
    refine lw_arg (c := 1) (v := I sp_X (6 * j + 1)) (p := 1775) dL_law_1769 dL_law_1770 dL_law_1772 dL_law_1773 dL_law_1774 (by decide) hX (by omega) hn rfl rfl ?_
    refine we_callV_int (p := 1778) (k' := 1) (a := [.ref 95, .int (I sp_X (6 * j + 1))]) (rr := []) dL_law_1775 rfl rfl rfl rfl (rc_of rfl rfl (by decide) ⟨rfl, by decide⟩) (Nat.le_of_ble_eq_true rfl) (Nat.le_of_ble_eq_true rfl) (by decide) (m2 _ _ _) (Or.inl rfl) rfl ?_
    refine we_istore (ls1 := lL j (.int 1) (.int 0)) (p := 1780) dL_law_1778 rfl rfl ?_
    refine we_aload_n (p := 1781) dL_law_1780 rfl rfl ?_
    refine we_callV_int (p := 1784) (k' := 0) (a := [.ref 95]) (rr := []) dL_law_1781 rfl rfl rfl rfl (rc_of rfl rfl (by decide) ⟨rfl, by decide⟩) (Nat.le_of_ble_eq_true rfl) (Nat.le_of_ble_eq_true rfl) (by decide) (Ev.i (show hp_u I 95 0 1 95 0 = 1 from hu_eq) (q_thrown hC.rf)) (Or.inl rfl) rfl ?_
    refine we_iload (p := 1786) dL_law_1784 rfl rfl ?_
    refine we_icmp_eq (t := 1791) (p := 1789) dL_law_1786 (by decide) rfl rfl (fun _ => ?_) (fun z => absurd rfl z)
    refine we_iload (p := 1793) dL_law_1791 rfl rfl ?_
    refine we_if_ne (t := 1808) (p := 1796) dL_law_1793 (by decide) rfl rfl (fun _ => ?_) (fun z => absurd z (by decide))
    refine we_goto (p := 1849) dL_law_1808 (by decide) rfl ?_
    exact kk _ _ _ _ _ _ _ (by omega) (by omega) ⟨⟨x, hw, hC.u95 hw, hM.uz⟩, hX⟩
