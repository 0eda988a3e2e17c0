/-! Letters: the reference seeks. -/
def poM (D : oD) (s : Nat → Int32) (n : Nat) : Nat → Nat → Nat → Int32 → (Nat → Nat) → pA → pA
  | 0, _, _, bm, row, a => setP n row (onesS (bm &&& (s 5 ^^^ -1))) a
  | d + 1, k, h, bm, row, a => gN (fun g a => if canS D h (nI g) = 0 then a else poM D s n d (k + 1) g (bm ||| dueS D (nI g) (lan s k)) (upN row k g) a) 0 (dN D 0) a
def pstM (D : oD) (s : Nat → Int32) (n : Nat) (f : Nat → Int32) : pA := poM D s n n 0 (s 1).toNatClampNeg (s 5) (fun _ => 0) (-1, f)
def pM (n : Nat) (I : Nat → Nat → Int32) (a : pA) : Prop := I 95 28 = a.1 ∧ ∀ i, i < n → I 106 i = a.2 i
theorem pM_u {I : Nat → Nat → Int32} {n k j : Nat} {v : Int32} {a : pA} (h : pM n I a) (hk : k ≠ 95 ∧ k ≠ 106) : pM n (hp_u I k j v) a := ⟨(congrFun (hu_ne (by omega)) 28).trans h.1, A_u h.2 (by omega)⟩
set_option maxRecDepth 10000 in
theorem y_pext_L {J : Nat → Nat → Int64} {F : Nat → Nat → Option Nat} {nc ns : Nat} {D : oD} {s : Nat → Int32} {n : Nat} (hF : RFok F) (hW : WF D) (hn : n ≤ 5) {d k h : Nat} {x y bm : Int32} {row : Nat → Nat} (hS : ∀ (k h : Nat) (x y bm : Int32) (row : Nat → Nat) (a : pA) (I : Nat → Nat → Int32), x = nI k → y = nI h → h < 6 → k + d = n → oM I 98 D → stM I s → pM n I a → gR I 105 row k → Ew (d + 2) mX12_tryPorts 0 [.ref 95, .int x, .int (nI n), .int y, .int bm, .null] [] ((SH, nc, ns), I, J, F) (Ret nc ns none (fun I' J' F' => Fm 105 107 28 29 I I' ∧ J' = J ∧ F' = F ∧ pM n I' (poM D s n d k h bm row a) ∧ gR I' 105 row k))) (hx : x = nI k) (hy : y = nI h) (hh : h < 6) (hk : k + (d + 1) = n) : ∀ (m j : Nat) (I : Nat → Nat → Int32) (a : pA), j + m = dN D 0 → oM I 98 D → stM I s → pM n I a → gR I 105 row k → Ew (d + 1 + 2) mX12_tryPorts 55 [.ref 95, .int x, .int (nI n), .int y, .int bm, .int (nI j)] [] ((SH, nc, ns), I, J, F) (Ret nc ns none (fun I' J' F' => Fm 105 107 28 29 I I' ∧ J' = J ∧ F' = F ∧ pM n I' (gN (fun g a => if canS D h (nI g) = 0 then a else poM D s n d (k + 1) g (bm ||| dueS D (nI g) (lan s k)) (upN row k g) a) j m a) ∧ gR I' 105 row k))
  | 0, j, I, a, hj, hM, hs, hg, hr => by
    have hD := hW.c
    have hH := hW.h
    have hT := hW.t
    have bt := hT.2
    obtain ⟨b0, b1, b2, b3, b4, b5, b6⟩ := hD.2
    refine we_iload (p := 57) dX12_tryPorts_55 rfl rfl ?_
    refine we_aload_n (p := 58) dX12_tryPorts_57 rfl rfl ?_
    refine we_getR (c := 11) (j := 15) (n := 37) (b := 98) (p := 61) dX12_tryPorts_58 rfl rfl (by decide) (by decide) rfl (r_95_15 hF) rfl ?_
    refine we_iconst (v := 2) (p := 62) dX12_tryPorts_61 (by decide) rfl ?_
    refine wf_iald (n := 276) (i := 2) (v := nI (dN D 0)) (p := 63) dX12_tryPorts_62 rfl (by decide) (by decide) (by decide) (mNn (i := 0) hM hD (by decide)) rfl ?_
    refine we_icmp_ge (t := 122) (p := 66) dX12_tryPorts_63 (by decide) rfl rfl (fun hc63 => ?_) (fun hc63 => absurd (nle (by omega) (by omega)) hc63)
    exact wv_ret dX12_tryPorts_122 rfl (⟨rfl, _, _, _, rfl, Fm.rf, rfl, rfl, hg, hr⟩)
  | m + 1, j, I, a, hj, hM, hs, hg, hr => by
    have hD := hW.c
    have hH := hW.h
    have hT := hW.t
    have bt := hT.2
    obtain ⟨b0, b1, b2, b3, b4, b5, b6⟩ := hD.2
    refine we_iload (p := 57) dX12_tryPorts_55 rfl rfl ?_
    refine we_aload_n (p := 58) dX12_tryPorts_57 rfl rfl ?_
    refine we_getR (c := 11) (j := 15) (n := 37) (b := 98) (p := 61) dX12_tryPorts_58 rfl rfl (by decide) (by decide) rfl (r_95_15 hF) rfl ?_
    refine we_iconst (v := 2) (p := 62) dX12_tryPorts_61 (by decide) rfl ?_
    refine wf_iald (n := 276) (i := 2) (v := nI (dN D 0)) (p := 63) dX12_tryPorts_62 rfl (by decide) (by decide) (by decide) (mNn (i := 0) hM hD (by decide)) rfl ?_
    refine we_icmp_ge (t := 122) (p := 66) dX12_tryPorts_63 (by decide) rfl rfl (fun hc63 => absurd hc63 (nge (by omega) (by omega))) (fun hc63 => ?_)
    refine we_aload_n (p := 67) dX12_tryPorts_66 rfl rfl ?_
    refine we_iload_n (p := 68) dX12_tryPorts_67 rfl rfl ?_
    refine we_iload (p := 70) dX12_tryPorts_68 rfl rfl ?_
    refine we_callV_int (p := 73) (k' := 1) (a := [.ref 95, .int y, .int (nI j)]) (rr := []) dX12_tryPorts_70 rfl rfl rfl rfl (rc_of rfl rfl (by decide) ⟨rfl, by decide⟩) (Nat.le_of_ble_eq_true rfl) (Nat.le_of_ble_eq_true rfl) (by omega) (y_canBe hF hM hW hy rfl hh (by omega)) (Or.inl rfl) rfl ?_
    refine we_if_ne (t := 79) (p := 76) dX12_tryPorts_73 (by decide) rfl rfl (fun hc73 => ?_) (fun hc73 => ?_)
    · skip
      refine we_aload_n (p := 80) dX12_tryPorts_79 rfl rfl ?_
      refine we_getR (c := 11) (j := 26) (n := 37) (b := 105) (p := 83) dX12_tryPorts_80 rfl rfl (by decide) (by decide) rfl (r_95_26 hF) rfl ?_
      refine we_iload_n (p := 84) dX12_tryPorts_83 rfl rfl ?_
      refine we_iload (p := 86) dX12_tryPorts_84 rfl rfl ?_
      refine wf_iast (n := 5) (i := k) (p := 87) dX12_tryPorts_86 rfl (by decide) (in_ix hx (by omega) (by decide)) (cl_ix hx (by omega)) rfl ?_
      refine we_aload_n (p := 88) dX12_tryPorts_87 rfl rfl ?_
      refine we_iload_n (p := 89) dX12_tryPorts_88 rfl rfl ?_
      refine we_iconst (v := 1) (p := 90) dX12_tryPorts_89 (by decide) rfl ?_
      refine we_iadd (p := 91) dX12_tryPorts_90 rfl ?_
      refine we_iload_n (p := 92) dX12_tryPorts_91 rfl rfl ?_
      refine we_iload (p := 94) dX12_tryPorts_92 rfl rfl ?_
      refine we_iload (p := 96) dX12_tryPorts_94 rfl rfl ?_
      refine we_aload_n (p := 97) dX12_tryPorts_96 rfl rfl ?_
      refine we_iload (p := 99) dX12_tryPorts_97 rfl rfl ?_
      refine we_aload_n (p := 100) dX12_tryPorts_99 rfl rfl ?_
      refine we_getR (c := 11) (j := 17) (n := 37) (b := 100) (p := 103) dX12_tryPorts_100 rfl rfl (by decide) (by decide) rfl (r_95_17 hF) rfl ?_
      refine we_iconst (v := 0) (p := 104) dX12_tryPorts_103 (by decide) rfl ?_
      refine wf_iald (n := 6) (i := 0) (v := s 0) (p := 105) dX12_tryPorts_104 rfl (by decide) (by decide) (by decide) ((stM_u hs (by decide)) 0 (by decide)) rfl ?_
      refine we_iload_n (p := 106) dX12_tryPorts_105 rfl rfl ?_
      refine we_iadd (p := 107) dX12_tryPorts_106 rfl ?_
      refine we_iconst (v := 1) (p := 108) dX12_tryPorts_107 (by decide) rfl ?_
      refine we_iadd (p := 109) dX12_tryPorts_108 rfl ?_
      rw [show s 0 + x + 1 = lan s k by rw [hx]; exact lan_eq]
      refine we_callV_int (p := 112) (k' := 0) (a := [.ref 95, .int (nI j), .int (lan s k)]) (rr := [.int bm, .int (nI j), .int (nI n), .int (x + 1), .ref 95]) dX12_tryPorts_109 rfl rfl rfl rfl (rc_of rfl rfl (by decide) ⟨rfl, by decide⟩) (Nat.le_of_ble_eq_true rfl) (Nat.le_of_ble_eq_true rfl) (by omega) (y_lettersTo hF (oM_u hM (by decide)) hW ) (Or.inl rfl) rfl ?_
      refine we_ior (p := 113) dX12_tryPorts_112 rfl ?_
      obtain ⟨_, _, e1, rfl, I1, J1, F1, rfl, ⟨f1, rfl, rfl, g1, r1⟩⟩ := hS (k + 1) j (x + 1) (nI j) (bm ||| dueS D (nI j) (lan s k)) (upN row k j) a (hp_u I 105 k (nI j)) (by rw [hx, nI_1]) rfl (by omega) (by omega) (oM_u hM (by decide)) (stM_u hs (by decide)) (pM_u hg (by omega)) (gR_up hr)
      refine we_callV_v (p := 116) (k' := (d + 2)) (a := [.ref 95, .int (x + 1), .int (nI n), .int (nI j), .int (bm ||| (dueS D (nI j) (lan s k)))]) (rr := []) dX12_tryPorts_113 rfl rfl rfl rfl (rc_of rfl rfl (by decide) ⟨rfl, by decide⟩) (Nat.le_of_ble_eq_true rfl) (Nat.le_of_ble_eq_true rfl) (by omega) e1 (Or.inl rfl) rfl ?_
      refine we_iinc (ls1 := [.ref 95, .int x, .int (nI n), .int y, .int bm, .int ((nI j) + 1)]) (p := 119) dX12_tryPorts_116 rfl rfl rfl ?_
      refine we_goto (p := 55) dX12_tryPorts_119 (by decide) rfl ?_
      rw [nI_1]
      refine (y_pext_L hF hW hn hS hx hy hh hk m (j + 1) I1 _ (by omega) (oM_fr hM ((f1.1 98 (by omega) (by omega)).trans (hu_ne (by omega)))) (stM_fr hs ((f1.1 100 (by omega) (by omega)).trans (hu_ne (by omega)))) g1 (gR_dn r1)).mono ?_
      rw [gN_s, if_neg hc73]
      rintro r h ⟨h1, I2, J2, F2, h2, h3, h4, h5, h6, h7⟩
      exact ⟨h1, I2, J2, F2, h2, ((Fm.rf.u (by omega) (by omega) (by omega)).tr f1).tr h3, h4, h5, h6, h7⟩
    · skip
      refine we_goto (p := 116) dX12_tryPorts_76 (by decide) rfl ?_
      refine we_iinc (ls1 := [.ref 95, .int x, .int (nI n), .int y, .int bm, .int ((nI j) + 1)]) (p := 119) dX12_tryPorts_116 rfl rfl rfl ?_
      refine we_goto (p := 55) dX12_tryPorts_119 (by decide) rfl ?_
      rw [nI_1]
      refine (y_pext_L hF hW hn hS hx hy hh hk m (j + 1) I a (by omega) hM hs hg hr).mono ?_
      rw [gN_s, if_pos hc73]
      exact fun _ _ z => z
set_option maxRecDepth 10000 in
theorem y_pext {J : Nat → Nat → Int64} {F : Nat → Nat → Option Nat} {nc ns : Nat} {D : oD} {s : Nat → Int32} {n : Nat} (hF : RFok F) (hW : WF D) (hn : n ≤ 5) : ∀ d, ∀ (k h : Nat) (x y bm : Int32) (row : Nat → Nat) (a : pA) (I : Nat → Nat → Int32), x = nI k → y = nI h → h < 6 → k + d = n → oM I 98 D → stM I s → pM n I a → gR I 105 row k → Ew (d + 2) mX12_tryPorts 0 [.ref 95, .int x, .int (nI n), .int y, .int bm, .null] [] ((SH, nc, ns), I, J, F) (Ret nc ns none (fun I' J' F' => Fm 105 107 28 29 I I' ∧ J' = J ∧ F' = F ∧ pM n I' (poM D s n d k h bm row a) ∧ gR I' 105 row k))
  | 0 => by
    intro k h x y bm row a I hx hy hh hk hM hs hg hr
    have hD := hW.c
    have hH := hW.h
    have hT := hW.t
    have bt := hT.2
    obtain ⟨b0, b1, b2, b3, b4, b5, b6⟩ := hD.2
    refine we_iload_n (p := 1) dX12_tryPorts_0 rfl rfl ?_
    refine we_iload_n (p := 2) dX12_tryPorts_1 rfl rfl ?_
    refine we_icmp_ne (t := 52) (p := 5) dX12_tryPorts_2 (by decide) rfl rfl (fun hc2 => absurd (by rw [hx, show k = n by omega]) hc2) (fun hc2 => ?_)
    refine we_iload (p := 7) dX12_tryPorts_5 rfl rfl ?_
    refine we_aload_n (p := 8) dX12_tryPorts_7 rfl rfl ?_
    refine we_getR (c := 11) (j := 17) (n := 37) (b := 100) (p := 11) dX12_tryPorts_8 rfl rfl (by decide) (by decide) rfl (r_95_17 hF) rfl ?_
    refine we_iconst (v := 5) (p := 12) dX12_tryPorts_11 (by decide) rfl ?_
    refine wf_iald (n := 6) (i := 5) (v := s 5) (p := 13) dX12_tryPorts_12 rfl (by decide) (by decide) (by decide) (hs 5 (by decide)) rfl ?_
    refine we_iconst (v := -1) (p := 14) dX12_tryPorts_13 (by decide) rfl ?_
    refine we_ixor (p := 15) dX12_tryPorts_14 rfl ?_
    refine we_iand (p := 16) dX12_tryPorts_15 rfl ?_
    refine we_callS_int (p := 19) (k' := 0) (a := [.int (bm &&& ((s 5) ^^^ (-1)))]) (rr := []) dX12_tryPorts_16 rfl rfl rfl rfl rfl (rc_st rfl) (Nat.le_of_ble_eq_true rfl) (Nat.le_of_ble_eq_true rfl) (by omega) (y_ones  ) (Or.inl rfl) rfl ?_
    refine we_istore (ls1 := [.ref 95, .int x, .int (nI n), .int y, .int bm, .int (onesS (bm &&& ((s 5) ^^^ (-1))))]) (p := 21) dX12_tryPorts_19 rfl rfl ?_
    refine we_iload (p := 23) dX12_tryPorts_21 rfl rfl ?_
    refine we_aload_n (p := 24) dX12_tryPorts_23 rfl rfl ?_
    refine wf_getI (c := 11) (j := 28) (n := 37) (v := a.1) (p := 27) dX12_tryPorts_24 rfl rfl (by decide) (by decide) (Or.inl rfl) hg.1 rfl ?_
    refine we_icmp_gt (t := 31) (p := 30) dX12_tryPorts_27 (by decide) rfl rfl (fun hc27 => ?_) (fun hc27 => ?_)
    · skip
      refine we_aload_n (p := 32) dX12_tryPorts_31 rfl rfl ?_
      refine we_iload (p := 34) dX12_tryPorts_32 rfl rfl ?_
      refine we_putI (c := 11) (j := 28) (n := 37)  (p := 37) dX12_tryPorts_34 rfl rfl (by decide) (by decide) rfl rfl rfl ?_
      refine we_aload_n (p := 38) dX12_tryPorts_37 rfl rfl ?_
      refine we_getR (c := 11) (j := 26) (n := 37) (b := 105) (p := 41) dX12_tryPorts_38 rfl rfl (by decide) (by decide) rfl (r_95_26 hF) rfl ?_
      refine we_iconst (v := 0) (p := 42) dX12_tryPorts_41 (by decide) rfl ?_
      refine we_aload_n (p := 43) dX12_tryPorts_42 rfl rfl ?_
      refine we_getR (c := 11) (j := 27) (n := 37) (b := 106) (p := 46) dX12_tryPorts_43 rfl rfl (by decide) (by decide) rfl (r_95_27 hF) rfl ?_
      refine we_iconst (v := 0) (p := 47) dX12_tryPorts_46 (by decide) rfl ?_
      refine we_iload_n (p := 48) dX12_tryPorts_47 rfl rfl ?_
      refine we_callS_v (p := 51) (k' := 0) (a := [.ref 105, .int 0, .ref 106, .int 0, .int (nI n)]) (rr := []) dX12_tryPorts_48 rfl rfl rfl rfl rfl (rc_st rfl) (Nat.le_of_ble_eq_true rfl) (Nat.le_of_ble_eq_true rfl) (by omega) (y_copyE (p := 105) (a := 0) (q := 106) (b := 0) (n := n) rfl (by decide) rfl (by decide) (by decide) (by omega) (by omega) (by decide) (by decide) rfl rfl rfl) (Or.inl rfl) rfl ?_
      exact wv_ret dX12_tryPorts_51 rfl (⟨rfl, _, _, _, rfl, (Fm.rf.f (by omega) (by omega)).tr (cp_Fm (by decide) (by decide) (by decide)), rfl, rfl, by
      have e : poM D s n 0 k h bm row a = (onesS (bm &&& (s 5 ^^^ -1)), fun i => if i < n then nI (row i) else a.2 i) := if_neg (Int32.not_le.mpr hc27)
      rw [e]
      exact ⟨(congrFun (cp_ne (by decide)) 28).trans hu_eq, fun i hi => (cp_in (by omega) (by omega)).trans (by simp only [Nat.zero_add, Nat.sub_zero]; exact (congrFun (hu_ne (by decide)) i).trans ((hr i (by omega)).trans (if_pos hi).symm))⟩, fun i hi => (congrFun (cp_ne (by decide)) i).trans ((congrFun (hu_ne (by decide)) i).trans (hr i hi))⟩)
    · skip
      exact wv_ret dX12_tryPorts_30 rfl (⟨rfl, _, _, _, rfl, Fm.rf, rfl, rfl, by
      have e : poM D s n 0 k h bm row a = a := if_pos (Int32.not_lt.mp hc27)
      rw [e]
      exact hg, hr⟩)
  | d + 1 => by
    intro k h x y bm row a I hx hy hh hk hM hs hg hr
    have hD := hW.c
    have hH := hW.h
    have hT := hW.t
    have bt := hT.2
    obtain ⟨b0, b1, b2, b3, b4, b5, b6⟩ := hD.2
    refine we_iload_n (p := 1) dX12_tryPorts_0 rfl rfl ?_
    refine we_iload_n (p := 2) dX12_tryPorts_1 rfl rfl ?_
    refine we_icmp_ne (t := 52) (p := 5) dX12_tryPorts_2 (by decide) rfl rfl (fun hc2 => ?_) (fun hc2 => absurd hc2 (by rw [hx]; exact fun z => absurd ((nI_eq (by omega) (by omega)).mp z) (by omega)))
    refine we_iconst (v := 0) (p := 53) dX12_tryPorts_52 (by decide) rfl ?_
    refine we_istore (ls1 := [.ref 95, .int x, .int (nI n), .int y, .int bm, .int 0]) (p := 55) dX12_tryPorts_53 rfl rfl ?_
    exact y_pext_L hF hW hn (y_pext hF hW hn d) hx hy hh hk (dN D 0) 0 I a (by omega) hM hs hg hr
set_option maxRecDepth 10000 in
theorem y_lettersWhy_no {I : Nat → Nat → Int32} {J : Nat → Nat → Int64} {F : Nat → Nat → Option Nat} {nc ns : Nat} {D : oD} (hF : RFok F) (hM : oM I 98 D) (hW : WF D) (hO : I 95 14 = tol D) {s : Nat → Int32} (hs : stM I s) {v : Int32} (ht : ¬ fwS (tol D) (inS v 0 5) (s 2) = 0)  : Ev 8 mX12_lettersWhy 0 [.ref 95, .int v, .null] [] ((SH, nc, ns), I, J, F) (some (.int (fwS (tol D) (inS v 0 5) (s 2)))) ((SH, nc, ns), I, J, F) := by
  have hD := hW.c
  have hH := hW.h
  have hT := hW.t
  have bt := hT.2
  obtain ⟨b0, b1, b2, b3, b4, b5, b6⟩ := hD.2
  refine e_aload_n (p := 1) dX12_lettersWhy_0 rfl rfl ?_
  refine e_aload_n (p := 2) dX12_lettersWhy_1 rfl rfl ?_
  refine f_getI (c := 11) (j := 14) (n := 37) (v := tol D) (p := 5) dX12_lettersWhy_2 rfl rfl (by decide) (by decide) (Or.inr rfl) hO rfl ?_
  refine e_iload_n (p := 6) dX12_lettersWhy_5 rfl rfl ?_
  refine e_iconst (v := 0) (p := 7) dX12_lettersWhy_6 (by decide) rfl ?_
  refine e_iconst (v := 5) (p := 8) dX12_lettersWhy_7 (by decide) rfl ?_
  refine e_callS_int (p := 11) (k' := 0) (a := [.int v, .int 0, .int 5]) (rr := [.int (tol D), .ref 95]) dX12_lettersWhy_8 rfl rfl rfl rfl rfl (rc_st rfl) (Nat.le_of_ble_eq_true rfl) (Nat.le_of_ble_eq_true rfl) (by decide) (y_in  ) (Or.inl rfl) rfl ?_
  refine e_callV_int (p := 14) (k' := 0) (a := [.ref 95, .int (tol D), .int (inS v 0 5)]) (rr := []) dX12_lettersWhy_11 rfl rfl rfl rfl (rc_of rfl rfl (by decide) ⟨rfl, by decide⟩) (Nat.le_of_ble_eq_true rfl) (Nat.le_of_ble_eq_true rfl) (by decide) (y_freeWhy hF hs ) (Or.inl rfl) rfl ?_
  refine e_istore_n (ls1 := [.ref 95, .int v, .int (fwS (tol D) (inS v 0 5) (s 2))]) (p := 15) dX12_lettersWhy_14 rfl rfl ?_
  refine e_iload_n (p := 16) dX12_lettersWhy_15 rfl rfl ?_
  refine e_if_eq (t := 21) (p := 19) dX12_lettersWhy_16 (by decide) rfl rfl (fun hc16 => absurd hc16 ht) (fun hc16 => ?_)
  refine e_iload_n (p := 20) dX12_lettersWhy_19 rfl rfl ?_
  exact e_iretE dX12_lettersWhy_20 rfl rfl (by decide) ⟨rfl, rfl⟩
set_option maxRecDepth 10000 in
theorem y_lettersWhy {I : Nat → Nat → Int32} {J : Nat → Nat → Int64} {F : Nat → Nat → Option Nat} {nc ns : Nat} {D : oD} (hF : RFok F) (hM : oM I 98 D) (hW : WF D) (hO : I 95 14 = tol D) {s : Nat → Int32} (hs : stM I s) (hS : WFs D s) (ht1 : tol D = 1) (hfr : s 2 ≤ 0) {n : Nat} (hn : n ≤ 5) {f : Nat → Int32} (hf : I 106 = f) : Ew 8 mX12_lettersWhy 0 [.ref 95, .int (nI n), .null] [] ((SH, nc, ns), I, J, F) (Ret nc ns (some (.int 0)) (fun I' J' F' => Fm 105 107 28 29 I I' ∧ J' = J ∧ F' = F ∧ pM n I' (pstM D s n f))) := by
  have hD := hW.c
  have hH := hW.h
  have hT := hW.t
  have bt := hT.2
  obtain ⟨b0, b1, b2, b3, b4, b5, b6⟩ := hD.2
  have hat := hS.at_ (tol_h hW ht1)
  refine we_aload_n (p := 1) dX12_lettersWhy_0 rfl rfl ?_
  refine we_aload_n (p := 2) dX12_lettersWhy_1 rfl rfl ?_
  refine wf_getI (c := 11) (j := 14) (n := 37) (v := 1) (p := 5) dX12_lettersWhy_2 rfl rfl (by decide) (by decide) (Or.inr rfl) (hO.trans ht1) rfl ?_
  refine we_iload_n (p := 6) dX12_lettersWhy_5 rfl rfl ?_
  refine we_iconst (v := 0) (p := 7) dX12_lettersWhy_6 (by decide) rfl ?_
  refine we_iconst (v := 5) (p := 8) dX12_lettersWhy_7 (by decide) rfl ?_
  refine we_callS_int (p := 11) (k' := 0) (a := [.int (nI n), .int 0, .int 5]) (rr := [.int 1, .ref 95]) dX12_lettersWhy_8 rfl rfl rfl rfl rfl (rc_st rfl) (Nat.le_of_ble_eq_true rfl) (Nat.le_of_ble_eq_true rfl) (by omega) (Ev.i (in_ok (a := 0) (b := 5) (n := n) (by omega) (by omega) (by omega)) (y_in  )) (Or.inl rfl) rfl ?_
  refine we_callV_int (p := 14) (k' := 0) (a := [.ref 95, .int 1, .int 1]) (rr := []) dX12_lettersWhy_11 rfl rfl rfl rfl (rc_of rfl rfl (by decide) ⟨rfl, by decide⟩) (Nat.le_of_ble_eq_true rfl) (Nat.le_of_ble_eq_true rfl) (by omega) (Ev.i (fw_ok hfr) (y_freeWhy hF hs )) (Or.inl rfl) rfl ?_
  refine we_istore_n (ls1 := [.ref 95, .int (nI n), .int 0]) (p := 15) dX12_lettersWhy_14 rfl rfl ?_
  refine we_iload_n (p := 16) dX12_lettersWhy_15 rfl rfl ?_
  refine we_if_eq (t := 21) (p := 19) dX12_lettersWhy_16 (by decide) rfl rfl (fun hc16 => ?_) (fun hc16 => absurd (by decide) hc16)
  refine we_aload_n (p := 22) dX12_lettersWhy_21 rfl rfl ?_
  refine we_iconst (v := -1) (p := 23) dX12_lettersWhy_22 (by decide) rfl ?_
  refine we_putI (c := 11) (j := 28) (n := 37)  (p := 26) dX12_lettersWhy_23 rfl rfl (by decide) (by decide) rfl rfl rfl ?_
  refine we_aload_n (p := 27) dX12_lettersWhy_26 rfl rfl ?_
  refine we_iconst (v := 0) (p := 28) dX12_lettersWhy_27 (by decide) rfl ?_
  refine we_iload_n (p := 29) dX12_lettersWhy_28 rfl rfl ?_
  refine we_aload_n (p := 30) dX12_lettersWhy_29 rfl rfl ?_
  refine we_getR (c := 11) (j := 17) (n := 37) (b := 100) (p := 33) dX12_lettersWhy_30 rfl rfl (by decide) (by decide) rfl (r_95_17 hF) rfl ?_
  refine we_iconst (v := 1) (p := 34) dX12_lettersWhy_33 (by decide) rfl ?_
  refine wf_iald (n := 6) (i := 1) (v := s 1) (p := 35) dX12_lettersWhy_34 rfl (by decide) (by decide) (by decide) ((stM_u hs (by decide)) 1 (by decide)) rfl ?_
  refine we_aload_n (p := 36) dX12_lettersWhy_35 rfl rfl ?_
  refine we_getR (c := 11) (j := 17) (n := 37) (b := 100) (p := 39) dX12_lettersWhy_36 rfl rfl (by decide) (by decide) rfl (r_95_17 hF) rfl ?_
  refine we_iconst (v := 5) (p := 40) dX12_lettersWhy_39 (by decide) rfl ?_
  refine wf_iald (n := 6) (i := 5) (v := s 5) (p := 41) dX12_lettersWhy_40 rfl (by decide) (by decide) (by decide) ((stM_u hs (by decide)) 5 (by decide)) rfl ?_
  obtain ⟨_, _, e1, rfl, I1, J1, F1, rfl, ⟨f1, rfl, rfl, g1, r1⟩⟩ := y_pext hF hW hn n 0 (s 1).toNatClampNeg 0 (s 1) (s 5) (fun _ => 0) (-1, f) (hp_u I 95 28 (-1)) rfl hat.1 hat.2.2 (by omega) (oM_u hM (by decide)) (stM_u hs (by decide)) ⟨hu_eq, fun i hi => (congrFun (hu_ne (by decide)) i).trans (congrFun hf i)⟩ (fun i hi => absurd hi (by omega))
  refine we_callV_v (p := 44) (k' := (n + 2)) (a := [.ref 95, .int 0, .int (nI n), .int (s 1), .int (s 5)]) (rr := []) dX12_lettersWhy_41 rfl rfl rfl rfl (rc_of rfl rfl (by decide) ⟨rfl, by decide⟩) (Nat.le_of_ble_eq_true rfl) (Nat.le_of_ble_eq_true rfl) (by omega) e1 (Or.inl rfl) rfl ?_
  refine we_iconst (v := 0) (p := 45) dX12_lettersWhy_44 (by decide) rfl ?_
  exact wi_ret dX12_lettersWhy_45 rfl rfl (by decide) (⟨rfl, _, _, _, rfl, (Fm.rf.f (by omega) (by omega)).tr f1, rfl, rfl, g1⟩)
set_option maxRecDepth 10000 in
theorem q_letters_no {I : Nat → Nat → Int32} {J : Nat → Nat → Int64} {F : Nat → Nat → Option Nat} {nc ns : Nat} {D : oD} (hF : RFok F) (hM : oM I 98 D) (hW : WF D) (hO : I 95 14 = tol D) {s : Nat → Int32} (hs : stM I s) {v : Int32} (ht : ¬ (fwS (tol D) (inS v 0 5) (s 2)) = 0) : Ev 9 mX12_letters 0 [.ref 95, .int v, .null] [] ((SH, nc, ns), I, J, F) (some (.int (-1))) ((SH, nc, ns), hp_u (hp_u I 95 0 0) 95 11 (fwS (tol D) (inS v 0 5) (s 2)), J, F) := by
  have hD := hW.c
  have hH := hW.h
  have hT := hW.t
  have bt := hT.2
  obtain ⟨b0, b1, b2, b3, b4, b5, b6⟩ := hD.2
  refine e_aload_n (p := 1) dX12_letters_0 rfl rfl ?_
  refine e_callV_v (p := 4) (k' := 0) (a := [.ref 95]) (rr := []) dX12_letters_1 rfl rfl rfl rfl (rc_of rfl rfl (by decide) ⟨rfl, by decide⟩) (Nat.le_of_ble_eq_true rfl) (Nat.le_of_ble_eq_true rfl) (by decide) y_good (Or.inl rfl) rfl ?_
  refine e_aload_n (p := 5) dX12_letters_4 rfl rfl ?_
  refine e_iload_n (p := 6) dX12_letters_5 rfl rfl ?_
  refine e_callV_int (p := 9) (k' := 8) (a := [.ref 95, .int v]) (rr := []) dX12_letters_6 rfl rfl rfl rfl (rc_of rfl rfl (by decide) ⟨rfl, by decide⟩) (Nat.le_of_ble_eq_true rfl) (Nat.le_of_ble_eq_true rfl) (by decide) (y_lettersWhy_no hF (oM_u (oM_u hM (by decide)) (by decide)) hW (I_u (I_u hO (by decide)) (by decide)) (stM_u (stM_u hs (by decide)) (by decide)) ht) (Or.inl rfl) rfl ?_
  refine e_istore_n (ls1 := [.ref 95, .int v, .int (fwS (tol D) (inS v 0 5) (s 2))]) (p := 10) dX12_letters_9 rfl rfl ?_
  refine e_iload_n (p := 11) dX12_letters_10 rfl rfl ?_
  refine e_if_eq (t := 22) (p := 14) dX12_letters_11 (by decide) rfl rfl (fun hc11 => absurd hc11 ht) (fun hc11 => ?_)
  refine e_aload_n (p := 15) dX12_letters_14 rfl rfl ?_
  refine e_iload_n (p := 16) dX12_letters_15 rfl rfl ?_
  refine e_callV_int (p := 19) (k' := 0) (a := [.ref 95, .int (fwS (tol D) (inS v 0 5) (s 2))]) (rr := []) dX12_letters_16 rfl rfl rfl rfl (rc_of rfl rfl (by decide) ⟨rfl, by decide⟩) (Nat.le_of_ble_eq_true rfl) (Nat.le_of_ble_eq_true rfl) (by decide) y_no (Or.inl rfl) rfl ?_
  refine e_goto (p := 26) dX12_letters_19 (by decide) rfl ?_
  exact e_iretE dX12_letters_26 rfl rfl (by decide) ⟨rfl, hpq rfl⟩
set_option maxRecDepth 10000 in
theorem q_letters_ok {I : Nat → Nat → Int32} {J : Nat → Nat → Int64} {F : Nat → Nat → Option Nat} {nc ns : Nat} {D : oD} (hF : RFok F) (hM : oM I 98 D) (hW : WF D) (hO : I 95 14 = tol D) {s : Nat → Int32} (hs : stM I s) (hS : WFs D s) (ht1 : tol D = 1) (hfr : s 2 ≤ 0) {n : Nat} (hn : n ≤ 5) : Ew 9 mX12_letters 0 [.ref 95, .int (nI n), .null] [] ((SH, nc, ns), I, J, F) (QM nc ns I J F (.int ((pstM D s n (I 106)).1)) 0) := by
  have hD := hW.c
  have hH := hW.h
  have hT := hW.t
  have bt := hT.2
  obtain ⟨b0, b1, b2, b3, b4, b5, b6⟩ := hD.2
  refine we_aload_n (p := 1) dX12_letters_0 rfl rfl ?_
  refine we_callV_v (p := 4) (k' := 0) (a := [.ref 95]) (rr := []) dX12_letters_1 rfl rfl rfl rfl (rc_of rfl rfl (by decide) ⟨rfl, by decide⟩) (Nat.le_of_ble_eq_true rfl) (Nat.le_of_ble_eq_true rfl) (by decide) y_good (Or.inl rfl) rfl ?_
  refine we_aload_n (p := 5) dX12_letters_4 rfl rfl ?_
  refine we_iload_n (p := 6) dX12_letters_5 rfl rfl ?_
  obtain ⟨_, _, e1, rfl, I1, J1, F1, rfl, ⟨f1, rfl, rfl, hg⟩⟩ := y_lettersWhy (I := (hp_u (hp_u I 95 0 0) 95 11 0)) hF (oM_u (oM_u hM (by decide)) (by decide)) hW (I_u (I_u hO (by decide)) (by decide)) (stM_u (stM_u hs (by decide)) (by decide)) hS ht1 hfr hn (f := I 106) ((hu_ne (by decide)).trans (hu_ne (by decide)))
  refine we_callV_int (p := 9) (k' := 8) (a := [.ref 95, .int (nI n)]) (rr := []) dX12_letters_6 rfl rfl rfl rfl (rc_of rfl rfl (by decide) ⟨rfl, by decide⟩) (Nat.le_of_ble_eq_true rfl) (Nat.le_of_ble_eq_true rfl) (by decide) e1 (Or.inl rfl) rfl ?_
  refine we_istore_n (ls1 := [.ref 95, .int (nI n), .int 0]) (p := 10) dX12_letters_9 rfl rfl ?_
  refine we_iload_n (p := 11) dX12_letters_10 rfl rfl ?_
  refine we_if_eq (t := 22) (p := 14) dX12_letters_11 (by decide) rfl rfl (fun hc11 => ?_) (fun hc11 => absurd (by decide) hc11)
  refine we_aload_n (p := 23) dX12_letters_22 rfl rfl ?_
  refine wf_getI (c := 11) (j := 28) (n := 37) (v := (pstM D s n (I 106)).1) (p := 26) dX12_letters_23 rfl rfl (by decide) (by decide) (Or.inl rfl) hg.1 rfl ?_
  exact wi_ret dX12_letters_26 rfl rfl (by decide) (⟨rfl, _, _, _, rfl, f1.wd (by omega) (by omega) (by omega) (by omega), Fr.rf, rfl⟩)
set_option maxRecDepth 10000 in
theorem q_lettersAt_no {I : Nat → Nat → Int32} {J : Nat → Nat → Int64} {F : Nat → Nat → Option Nat} {nc ns : Nat} {D : oD} (hF : RFok F) (hM : oM I 98 D) (hW : WF D) (hO : I 95 14 = tol D) {s : Nat → Int32} (hs : stM I s) {v i : Int32} (ht : ¬ (fwS (tol D) (inS v 0 5) (s 2)) = 0) : Ev 9 mX12_lettersAt 0 [.ref 95, .int v, .int i, .null] [] ((SH, nc, ns), I, J, F) (some (.int (-1))) ((SH, nc, ns), hp_u (hp_u I 95 0 0) 95 11 (fwS (tol D) (inS v 0 5) (s 2)), J, F) := by
  have hD := hW.c
  have hH := hW.h
  have hT := hW.t
  have bt := hT.2
  obtain ⟨b0, b1, b2, b3, b4, b5, b6⟩ := hD.2
  refine e_aload_n (p := 1) dX12_lettersAt_0 rfl rfl ?_
  refine e_callV_v (p := 4) (k' := 0) (a := [.ref 95]) (rr := []) dX12_lettersAt_1 rfl rfl rfl rfl (rc_of rfl rfl (by decide) ⟨rfl, by decide⟩) (Nat.le_of_ble_eq_true rfl) (Nat.le_of_ble_eq_true rfl) (by decide) y_good (Or.inl rfl) rfl ?_
  refine e_aload_n (p := 5) dX12_lettersAt_4 rfl rfl ?_
  refine e_iload_n (p := 6) dX12_lettersAt_5 rfl rfl ?_
  refine e_callV_int (p := 9) (k' := 8) (a := [.ref 95, .int v]) (rr := []) dX12_lettersAt_6 rfl rfl rfl rfl (rc_of rfl rfl (by decide) ⟨rfl, by decide⟩) (Nat.le_of_ble_eq_true rfl) (Nat.le_of_ble_eq_true rfl) (by decide) (y_lettersWhy_no hF (oM_u (oM_u hM (by decide)) (by decide)) hW (I_u (I_u hO (by decide)) (by decide)) (stM_u (stM_u hs (by decide)) (by decide)) ht) (Or.inl rfl) rfl ?_
  refine e_istore_n (ls1 := [.ref 95, .int v, .int i, .int (fwS (tol D) (inS v 0 5) (s 2))]) (p := 10) dX12_lettersAt_9 rfl rfl ?_
  refine e_iload_n (p := 11) dX12_lettersAt_10 rfl rfl ?_
  refine e_if_ne (t := 27) (p := 14) dX12_lettersAt_11 (by decide) rfl rfl (fun hc11 => ?_) (fun hc11 => absurd hc11 ht)
  refine e_iload_n (p := 28) dX12_lettersAt_27 rfl rfl ?_
  refine e_if_eq (t := 39) (p := 31) dX12_lettersAt_28 (by decide) rfl rfl (fun hc28 => absurd hc28 ht) (fun hc28 => ?_)
  refine e_aload_n (p := 32) dX12_lettersAt_31 rfl rfl ?_
  refine e_iload_n (p := 33) dX12_lettersAt_32 rfl rfl ?_
  refine e_callV_int (p := 36) (k' := 0) (a := [.ref 95, .int (fwS (tol D) (inS v 0 5) (s 2))]) (rr := []) dX12_lettersAt_33 rfl rfl rfl rfl (rc_of rfl rfl (by decide) ⟨rfl, by decide⟩) (Nat.le_of_ble_eq_true rfl) (Nat.le_of_ble_eq_true rfl) (by decide) y_no (Or.inl rfl) rfl ?_
  refine e_goto (p := 45) dX12_lettersAt_36 (by decide) rfl ?_
  exact e_iretE dX12_lettersAt_45 rfl rfl (by decide) ⟨rfl, hpq rfl⟩
set_option maxRecDepth 10000 in
theorem q_lettersAt_ok1 {I : Nat → Nat → Int32} {J : Nat → Nat → Int64} {F : Nat → Nat → Option Nat} {nc ns : Nat} {D : oD} (hF : RFok F) (hM : oM I 98 D) (hW : WF D) (hO : I 95 14 = tol D) {s : Nat → Int32} (hs : stM I s) (hS : WFs D s) (ht1 : tol D = 1) (hfr : s 2 ≤ 0) {n : Nat} (hn : n ≤ 5) {i : Int32} (hix : ixB i n = 0) : Ew 9 mX12_lettersAt 0 [.ref 95, .int (nI n), .int i, .null] [] ((SH, nc, ns), I, J, F) (QM nc ns I J F (.int (-1)) 1) := by
  have hD := hW.c
  have hH := hW.h
  have hT := hW.t
  have bt := hT.2
  obtain ⟨b0, b1, b2, b3, b4, b5, b6⟩ := hD.2
  refine we_aload_n (p := 1) dX12_lettersAt_0 rfl rfl ?_
  refine we_callV_v (p := 4) (k' := 0) (a := [.ref 95]) (rr := []) dX12_lettersAt_1 rfl rfl rfl rfl (rc_of rfl rfl (by decide) ⟨rfl, by decide⟩) (Nat.le_of_ble_eq_true rfl) (Nat.le_of_ble_eq_true rfl) (by decide) y_good (Or.inl rfl) rfl ?_
  refine we_aload_n (p := 5) dX12_lettersAt_4 rfl rfl ?_
  refine we_iload_n (p := 6) dX12_lettersAt_5 rfl rfl ?_
  obtain ⟨_, _, e1, rfl, I1, J1, F1, rfl, ⟨f1, rfl, rfl, hg⟩⟩ := y_lettersWhy (I := (hp_u (hp_u I 95 0 0) 95 11 0)) hF (oM_u (oM_u hM (by decide)) (by decide)) hW (I_u (I_u hO (by decide)) (by decide)) (stM_u (stM_u hs (by decide)) (by decide)) hS ht1 hfr hn (f := I 106) ((hu_ne (by decide)).trans (hu_ne (by decide)))
  refine we_callV_int (p := 9) (k' := 8) (a := [.ref 95, .int (nI n)]) (rr := []) dX12_lettersAt_6 rfl rfl rfl rfl (rc_of rfl rfl (by decide) ⟨rfl, by decide⟩) (Nat.le_of_ble_eq_true rfl) (Nat.le_of_ble_eq_true rfl) (by decide) e1 (Or.inl rfl) rfl ?_
  refine we_istore_n (ls1 := [.ref 95, .int (nI n), .int i, .int 0]) (p := 10) dX12_lettersAt_9 rfl rfl ?_
  refine we_iload_n (p := 11) dX12_lettersAt_10 rfl rfl ?_
  refine we_if_ne (t := 27) (p := 14) dX12_lettersAt_11 (by decide) rfl rfl (fun hc11 => absurd (by decide) hc11) (fun hc11 => ?_)
  refine we_iload_n (p := 15) dX12_lettersAt_14 rfl rfl ?_
  refine we_iconst (v := 0) (p := 16) dX12_lettersAt_15 (by decide) rfl ?_
  refine we_iload_n (p := 17) dX12_lettersAt_16 rfl rfl ?_
  refine we_iconst (v := 1) (p := 18) dX12_lettersAt_17 (by decide) rfl ?_
  refine we_isub (p := 19) dX12_lettersAt_18 rfl ?_
  refine we_callS_int (p := 22) (k' := 0) (a := [.int i, .int 0, .int ((nI n) - 1)]) (rr := []) dX12_lettersAt_19 rfl rfl rfl rfl rfl (rc_st rfl) (Nat.le_of_ble_eq_true rfl) (Nat.le_of_ble_eq_true rfl) (by decide) (Ev.i (in_ix1 (by omega)) (y_in)) (Or.inl rfl) rfl ?_
  refine we_if_ne (t := 27) (p := 25) dX12_lettersAt_22 (by decide) rfl rfl (fun hc22 => absurd hix hc22) (fun hc22 => ?_)
  refine we_iconst (v := 1) (p := 26) dX12_lettersAt_25 (by decide) rfl ?_
  refine we_istore_n (ls1 := [.ref 95, .int (nI n), .int i, .int 1]) (p := 27) dX12_lettersAt_26 rfl rfl ?_
  refine we_iload_n (p := 28) dX12_lettersAt_27 rfl rfl ?_
  refine we_if_eq (t := 39) (p := 31) dX12_lettersAt_28 (by decide) rfl rfl (fun hc28 => absurd hc28 (by decide)) (fun hc28 => ?_)
  refine we_aload_n (p := 32) dX12_lettersAt_31 rfl rfl ?_
  refine we_iload_n (p := 33) dX12_lettersAt_32 rfl rfl ?_
  refine we_callV_int (p := 36) (k' := 0) (a := [.ref 95, .int 1]) (rr := []) dX12_lettersAt_33 rfl rfl rfl rfl (rc_of rfl rfl (by decide) ⟨rfl, by decide⟩) (Nat.le_of_ble_eq_true rfl) (Nat.le_of_ble_eq_true rfl) (by decide) y_no (Or.inl rfl) rfl ?_
  refine we_goto (p := 45) dX12_lettersAt_36 (by decide) rfl ?_
  exact wi_ret dX12_lettersAt_45 rfl rfl (by decide) (⟨rfl, _, _, _, rfl, (f1.wd (by omega) (by omega) (by omega) (by omega)).re, Fr.rf, rfl⟩)
set_option maxRecDepth 10000 in
theorem q_lettersAt_ok {I : Nat → Nat → Int32} {J : Nat → Nat → Int64} {F : Nat → Nat → Option Nat} {nc ns : Nat} {D : oD} (hF : RFok F) (hM : oM I 98 D) (hW : WF D) (hO : I 95 14 = tol D) {s : Nat → Int32} (hs : stM I s) (hS : WFs D s) (ht1 : tol D = 1) (hfr : s 2 ≤ 0) {n : Nat} (hn : n ≤ 5) {i : Nat} (hi : i < n) : Ew 9 mX12_lettersAt 0 [.ref 95, .int (nI n), .int (nI i), .null] [] ((SH, nc, ns), I, J, F) (QM nc ns I J F (.int ((pstM D s n (I 106)).2 i)) 0) := by
  have hD := hW.c
  have hH := hW.h
  have hT := hW.t
  have bt := hT.2
  obtain ⟨b0, b1, b2, b3, b4, b5, b6⟩ := hD.2
  refine we_aload_n (p := 1) dX12_lettersAt_0 rfl rfl ?_
  refine we_callV_v (p := 4) (k' := 0) (a := [.ref 95]) (rr := []) dX12_lettersAt_1 rfl rfl rfl rfl (rc_of rfl rfl (by decide) ⟨rfl, by decide⟩) (Nat.le_of_ble_eq_true rfl) (Nat.le_of_ble_eq_true rfl) (by decide) y_good (Or.inl rfl) rfl ?_
  refine we_aload_n (p := 5) dX12_lettersAt_4 rfl rfl ?_
  refine we_iload_n (p := 6) dX12_lettersAt_5 rfl rfl ?_
  obtain ⟨_, _, e1, rfl, I1, J1, F1, rfl, ⟨f1, rfl, rfl, hg⟩⟩ := y_lettersWhy (I := (hp_u (hp_u I 95 0 0) 95 11 0)) hF (oM_u (oM_u hM (by decide)) (by decide)) hW (I_u (I_u hO (by decide)) (by decide)) (stM_u (stM_u hs (by decide)) (by decide)) hS ht1 hfr hn (f := I 106) ((hu_ne (by decide)).trans (hu_ne (by decide)))
  refine we_callV_int (p := 9) (k' := 8) (a := [.ref 95, .int (nI n)]) (rr := []) dX12_lettersAt_6 rfl rfl rfl rfl (rc_of rfl rfl (by decide) ⟨rfl, by decide⟩) (Nat.le_of_ble_eq_true rfl) (Nat.le_of_ble_eq_true rfl) (by decide) e1 (Or.inl rfl) rfl ?_
  refine we_istore_n (ls1 := [.ref 95, .int (nI n), .int (nI i), .int 0]) (p := 10) dX12_lettersAt_9 rfl rfl ?_
  refine we_iload_n (p := 11) dX12_lettersAt_10 rfl rfl ?_
  refine we_if_ne (t := 27) (p := 14) dX12_lettersAt_11 (by decide) rfl rfl (fun hc11 => absurd (by decide) hc11) (fun hc11 => ?_)
  refine we_iload_n (p := 15) dX12_lettersAt_14 rfl rfl ?_
  refine we_iconst (v := 0) (p := 16) dX12_lettersAt_15 (by decide) rfl ?_
  refine we_iload_n (p := 17) dX12_lettersAt_16 rfl rfl ?_
  refine we_iconst (v := 1) (p := 18) dX12_lettersAt_17 (by decide) rfl ?_
  refine we_isub (p := 19) dX12_lettersAt_18 rfl ?_
  refine we_callS_int (p := 22) (k' := 0) (a := [.int (nI i), .int 0, .int ((nI n) - 1)]) (rr := []) dX12_lettersAt_19 rfl rfl rfl rfl rfl (rc_st rfl) (Nat.le_of_ble_eq_true rfl) (Nat.le_of_ble_eq_true rfl) (by decide) (Ev.i ((in_ix1 (by omega)).trans (ixB_ok (by omega) (by omega))) (y_in)) (Or.inl rfl) rfl ?_
  refine we_if_ne (t := 27) (p := 25) dX12_lettersAt_22 (by decide) rfl rfl (fun hc22 => ?_) (fun hc22 => absurd hc22 (by decide))
  refine we_iload_n (p := 28) dX12_lettersAt_27 rfl rfl ?_
  refine we_if_eq (t := 39) (p := 31) dX12_lettersAt_28 (by decide) rfl rfl (fun hc28 => ?_) (fun hc28 => absurd (by decide) hc28)
  refine we_aload_n (p := 40) dX12_lettersAt_39 rfl rfl ?_
  refine we_getR (c := 11) (j := 27) (n := 37) (b := 106) (p := 43) dX12_lettersAt_40 rfl rfl (by decide) (by decide) rfl (r_95_27 hF) rfl ?_
  refine we_iload_n (p := 44) dX12_lettersAt_43 rfl rfl ?_
  refine wf_iald (n := 5) (i := i) (v := (pstM D s n (I 106)).2 i) (p := 45) dX12_lettersAt_44 rfl (by decide) (in_nJ (by omega) (by decide)) (nI_cl (by omega)) (hg.2 i (by omega)) rfl ?_
  exact wi_ret dX12_lettersAt_45 rfl rfl (by decide) (⟨rfl, _, _, _, rfl, f1.wd (by omega) (by omega) (by omega) (by omega), Fr.rf, rfl⟩)
