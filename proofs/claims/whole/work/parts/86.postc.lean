/-! Letters: the class seeks. -/
abbrev pA : Type := Int32 × (Nat → Int32)
def setP (n : Nat) (row : Nat → Nat) (many : Int32) (a : pA) : pA := if many ≤ a.1 then a else (many, fun i => if i < n then nI (row i) else a.2 i)
def dueC (D : oD) (s : Nat → Int32) (k g : Nat) : Int32 := dueS D (nI g) (lan s k) &&& (s 5 ^^^ -1)
def openS (D : oD) (s : Nat → Int32) (k : Nat) : Int32 := gN (fun g a => a ||| dueC D s k g) 0 (dN D 0) 0
def poC (D : oD) (s : Nat → Int32) (n : Nat) : Nat → Nat → Nat → Int32 → (Nat → Nat) → pA → pA
  | 0, _, _, br, row, a => setP n row (bcS br) a
  | d + 1, k, h, br, row, a => if bcS (br ||| openS D s k) ≤ a.1 then a else gN (fun g a => if canS D h (nI g) = 0 then a else poC D s n d (k + 1) g (br ||| dueC D s k g) (upN row k g) a) 0 (dN D 0) a
def post0 (D : oD) (s : Nat → Int32) (n : Nat) (f : Nat → Int32) : pA := poC D s n n 0 (s 1).toNatClampNeg 0 (fun _ => 0) (-1, f)
def pI (D : oD) (s : Nat → Int32) (n : Nat) (I : Nat → Nat → Int32) (a : pA) : Prop := I 72 1 = a.1 ∧ I 72 5 = nI n ∧ (∀ i, i < n → I 73 i = a.2 i) ∧ (∀ i, i < n → I 81 i = openS D s i) ∧ ∀ i, i < n → ∀ g, g < dN D 0 → I (76 + i) g = dueC D s i g
theorem pI_u {D : oD} {s : Nat → Int32} {n k j : Nat} {v : Int32} {I : Nat → Nat → Int32} {a : pA} (hn : n ≤ 5) (h : pI D s n I a) (hk : k = 74) : pI D s n (hp_u I k j v) a := ⟨(congrFun (hu_ne (by omega)) 1).trans h.1, (congrFun (hu_ne (by omega)) 5).trans h.2.1, A_u h.2.2.1 (by omega), A_u h.2.2.2.1 (by omega), B_u h.2.2.2.2 (by omega)⟩
set_option maxRecDepth 10000 in
theorem x_pset_L {J : Nat → Nat → Int64} {F : Nat → Nat → Option Nat} {nc ns : Nat} {I0 : Nat → Nat → Int32} {n : Nat} {row : Nat → Nat} {many : Int32} (hF : RFok F) (hn : n ≤ 5) (h5 : I0 72 5 = nI n) (hr : gR I0 74 row n)  {Q : Option Value → hp_H → Prop} : ∀ (m j : Nat) (I : Nat → Nat → Int32), j + m = n → (Fr 73 74 I0 I ∧ (∀ i, i < j → I 73 i = nI (row i)) ∧ ∀ i, j ≤ i → I 73 i = I0 73 i) → (∀ (I : Nat → Nat → Int32), (Fr 73 74 I0 I ∧ (∀ i, i < n → I 73 i = nI (row i)) ∧ ∀ i, n ≤ i → I 73 i = I0 73 i) → Ew 0 mX6_settle 41 [.ref 72, .int many, .int (nI n)] [] ((SH, nc, ns), I, J, F) Q) → Ew 0 mX6_settle 15 [.ref 72, .int many, .int (nI j)] [] ((SH, nc, ns), I, J, F) Q
  | 0, j, I, hj, hI, hq => by
    have g5 : I 72 5 = nI n := (congrFun (hI.1 72 (by omega)) 5).trans h5
    have g74 : ∀ i, i < n → I 74 i = nI (row i) := fun i hi => (congrFun (hI.1 74 (by omega)) i).trans (hr i hi)
    have hjN : j = n := by omega
    refine we_iload_n (p := 16) dX6_settle_15 rfl rfl ?_
    refine we_aload_n (p := 17) dX6_settle_16 rfl rfl ?_
    refine wf_getI (c := 6) (j := 5) (n := 6) (v := nI n) (p := 20) dX6_settle_17 rfl rfl (by decide) (by decide) (Or.inl rfl) g5 rfl ?_
    refine we_icmp_ge (t := 41) (p := 23) dX6_settle_20 (by decide) rfl rfl (fun hc20 => ?_) (fun hc20 => absurd (nI_le (a := n) (b := j) (by omega) (by omega)) hc20)
    subst hjN; exact hq _ hI
  | m + 1, j, I, hj, hI, hq => by
    have g5 : I 72 5 = nI n := (congrFun (hI.1 72 (by omega)) 5).trans h5
    have g74 : ∀ i, i < n → I 74 i = nI (row i) := fun i hi => (congrFun (hI.1 74 (by omega)) i).trans (hr i hi)
    refine we_iload_n (p := 16) dX6_settle_15 rfl rfl ?_
    refine we_aload_n (p := 17) dX6_settle_16 rfl rfl ?_
    refine wf_getI (c := 6) (j := 5) (n := 6) (v := nI n) (p := 20) dX6_settle_17 rfl rfl (by decide) (by decide) (Or.inl rfl) g5 rfl ?_
    refine we_icmp_ge (t := 41) (p := 23) dX6_settle_20 (by decide) rfl rfl (fun hc20 => absurd hc20 (nI_ge (a := j) (b := n) (by omega) (by omega))) (fun hc20 => ?_)
    refine we_aload_n (p := 24) dX6_settle_23 rfl rfl ?_
    refine we_getR (c := 6) (j := 0) (n := 6) (b := 73) (p := 27) dX6_settle_24 rfl rfl (by decide) (by decide) rfl (r_72_0 hF) rfl ?_
    refine we_iload_n (p := 28) dX6_settle_27 rfl rfl ?_
    refine we_aload_n (p := 29) dX6_settle_28 rfl rfl ?_
    refine we_getR (c := 6) (j := 2) (n := 6) (b := 74) (p := 32) dX6_settle_29 rfl rfl (by decide) (by decide) rfl (r_72_2 hF) rfl ?_
    refine we_iload_n (p := 33) dX6_settle_32 rfl rfl ?_
    refine wf_iald (n := 5) (i := j) (v := nI (row j)) (p := 34) dX6_settle_33 rfl (by decide) (in_nJ (by omega) (by decide)) (nI_cl (by omega)) (g74 j (by omega)) rfl ?_
    refine wf_iast (n := 5) (i := j) (p := 35) dX6_settle_34 rfl (by decide) (in_nJ (by omega) (by decide)) (nI_cl (by omega)) rfl ?_
    refine we_iinc (ls1 := [.ref 72, .int many, .int ((nI j) + 1)]) (p := 38) dX6_settle_35 rfl rfl rfl ?_
    refine we_goto (p := 15) dX6_settle_38 (by decide) rfl ?_
    rw [nI_1]
    refine x_pset_L hF hn h5 hr m (j + 1) _  (by omega) ?_ hq
    refine ⟨hI.1.u (by omega) (by omega), fun i hi => ?_, fun i hi => ?_⟩
    · rw [hu_if]
      by_cases c : i = j
      · rw [if_pos c, c]
      · rw [if_neg c]
        exact hI.2.1 i (by omega)
    · rw [hu_if, if_neg (by omega)]
      exact hI.2.2 i (by omega)
set_option maxRecDepth 10000 in
theorem x_psettle {I : Nat → Nat → Int32} {J : Nat → Nat → Int64} {F : Nat → Nat → Option Nat} {nc ns : Nat} {D : oD} {s : Nat → Int32} {n : Nat} {row : Nat → Nat} {many : Int32} {a : pA} (hF : RFok F) (hn : n ≤ 5) (hg : pI D s n I a) (hr : gR I 74 row n) : Ew 0 mX6_settle 0 [.ref 72, .int many, .null] [] ((SH, nc, ns), I, J, F) (Ret nc ns none (fun I' J' F' => Fr 72 82 I I' ∧ I' 74 = I 74 ∧ J' = J ∧ F' = F ∧ pI D s n I' (setP n row many a))) := by
  refine we_iload_n (p := 1) dX6_settle_0 rfl rfl ?_
  refine we_aload_n (p := 2) dX6_settle_1 rfl rfl ?_
  refine wf_getI (c := 6) (j := 1) (n := 6) (v := a.1) (p := 5) dX6_settle_2 rfl rfl (by decide) (by decide) (Or.inl rfl) hg.1 rfl ?_
  refine we_icmp_le (t := 41) (p := 8) dX6_settle_5 (by decide) rfl rfl (fun hc5 => ?_) (fun hc5 => ?_)
  · skip
    exact wv_ret dX6_settle_41 rfl (⟨rfl, _, _, _, rfl, Fr.rf, rfl, rfl, rfl, by
    have e : setP n row many a = a := if_pos hc5
    rw [e]
    exact hg⟩)
  · skip
    refine we_aload_n (p := 9) dX6_settle_8 rfl rfl ?_
    refine we_iload_n (p := 10) dX6_settle_9 rfl rfl ?_
    refine we_putI (c := 6) (j := 1) (n := 6)  (p := 13) dX6_settle_10 rfl rfl (by decide) (by decide) rfl rfl rfl ?_
    refine we_iconst (v := 0) (p := 14) dX6_settle_13 (by decide) rfl ?_
    refine we_istore_n (ls1 := [.ref 72, .int many, .int 0]) (p := 15) dX6_settle_14 rfl rfl ?_
    refine x_pset_L (I0 := (hp_u I 72 1 many)) hF hn ((hu_nj (by decide)).trans hg.2.1) (fun i hi => (congrFun (hu_ne (by decide)) i).trans (hr i hi)) n 0 _ (by omega) ⟨Fr.rf, fun i hi => absurd hi (by omega), fun i hi => rfl⟩ (fun I1 hI1 => ?_)
    exact wv_ret dX6_settle_41 rfl (⟨rfl, _, _, _, rfl, (Fr.rf.u (by omega) (by omega)).tr (hI1.1.wd (by omega) (by omega)), (hI1.1 74 (by omega)).trans (hu_ne (by decide)), rfl, rfl, by
    have e : setP n row many a = (many, fun i => if i < n then nI (row i) else a.2 i) := if_neg hc5
    rw [e]
    exact ⟨(congrFun (hI1.1 72 (by omega)) 1).trans hu_eq, (congrFun (hI1.1 72 (by omega)) 5).trans ((hu_nj (by decide)).trans hg.2.1), fun i hi => (hI1.2.1 i hi).trans (if_pos hi).symm, fun i hi => (congrFun ((hI1.1 81 (by omega)).trans (hu_ne (by decide))) i).trans (hg.2.2.2.1 i hi), fun i hi g hg2 => (congrFun ((hI1.1 (76 + i) (by omega)).trans (hu_ne (by omega))) g).trans (hg.2.2.2.2 i hi g hg2)⟩⟩)
set_option maxRecDepth 10000 in
theorem x_pext_L {J : Nat → Nat → Int64} {F : Nat → Nat → Option Nat} {nc ns : Nat} {o : Nat} {D : oD} {s : Nat → Int32} {n : Nat} (ho : isO o) (hF : RFok F) (hW : WF D) (hn : n ≤ 5) {d k h : Nat} {x y br : Int32} {row : Nat → Nat} (hS : ∀ (k h : Nat) (x y br : Int32) (row : Nat → Nat) (a : pA) (I : Nat → Nat → Int32), x = nI k → y = nI h → h < 6 → k + d = n → oC I o D → pI D s n I a → gR I 74 row k → Ew (d + 2) mX6_extend 0 [.ref 72, .ref o, .int x, .int y, .int br, .null] [] ((SH, nc, ns), I, J, F) (Ret nc ns none (fun I' J' F' => Fr 72 82 I I' ∧ J' = J ∧ F' = F ∧ pI D s n I' (poC D s n d k h br row a) ∧ gR I' 74 row k))) (hx : x = nI k) (hy : y = nI h) (hh : h < 6) (hk : k + (d + 1) = n) : ∀ (m j : Nat) (I : Nat → Nat → Int32) (a : pA), j + m = dN D 0 → oC I o D → pI D s n I a → gR I 74 row k → Ew (d + 1 + 2) mX6_extend 41 [.ref 72, .ref o, .int x, .int y, .int br, .int (nI j)] [] ((SH, nc, ns), I, J, F) (Ret nc ns none (fun I' J' F' => Fr 72 82 I I' ∧ J' = J ∧ F' = F ∧ pI D s n I' (gN (fun g a => if canS D h (nI g) = 0 then a else poC D s n d (k + 1) g (br ||| dueC D s k g) (upN row k g) a) j m a) ∧ gR I' 74 row k))
  | 0, j, I, a, hj, hC, hg, hr => by
    have hD := hW.c
    have hH := hW.h
    have hT := hW.t
    have bt := hT.2
    obtain ⟨b0, b1, b2, b3, b4, b5, b6⟩ := hD.2
    refine we_iload (p := 43) dX6_extend_41 rfl rfl ?_
    refine we_aload_n (p := 44) dX6_extend_43 rfl rfl ?_
    refine we_getR (c := 4) (j := 2) (n := 18) (b := (o + 1)) (p := 47) dX6_extend_44 rfl (s_o ho) (l_o0 ho) (by decide) rfl (r_o2 hF ho) rfl ?_
    refine we_iconst (v := 0) (p := 48) dX6_extend_47 (by decide) rfl ?_
    refine wf_iald (n := 7) (i := 0) (v := nI (dN D 0)) (p := 49) dX6_extend_48 (s_o1 ho) (l_o ho 1 (by decide)) (by decide) (by decide) (cN hC hD (by decide)) rfl ?_
    refine we_icmp_ge (t := 98) (p := 52) dX6_extend_49 (by decide) rfl rfl (fun hc49 => ?_) (fun hc49 => absurd (nle (by omega) (by omega)) hc49)
    exact wv_ret dX6_extend_98 rfl (⟨rfl, _, _, _, rfl, Fr.rf, rfl, rfl, hg, hr⟩)
  | m + 1, j, I, a, hj, hC, hg, hr => by
    have hD := hW.c
    have hH := hW.h
    have hT := hW.t
    have bt := hT.2
    obtain ⟨b0, b1, b2, b3, b4, b5, b6⟩ := hD.2
    refine we_iload (p := 43) dX6_extend_41 rfl rfl ?_
    refine we_aload_n (p := 44) dX6_extend_43 rfl rfl ?_
    refine we_getR (c := 4) (j := 2) (n := 18) (b := (o + 1)) (p := 47) dX6_extend_44 rfl (s_o ho) (l_o0 ho) (by decide) rfl (r_o2 hF ho) rfl ?_
    refine we_iconst (v := 0) (p := 48) dX6_extend_47 (by decide) rfl ?_
    refine wf_iald (n := 7) (i := 0) (v := nI (dN D 0)) (p := 49) dX6_extend_48 (s_o1 ho) (l_o ho 1 (by decide)) (by decide) (by decide) (cN hC hD (by decide)) rfl ?_
    refine we_icmp_ge (t := 98) (p := 52) dX6_extend_49 (by decide) rfl rfl (fun hc49 => absurd hc49 (nge (by omega) (by omega))) (fun hc49 => ?_)
    refine we_aload_n (p := 53) dX6_extend_52 rfl rfl ?_
    refine we_iload_n (p := 54) dX6_extend_53 rfl rfl ?_
    refine we_iload (p := 56) dX6_extend_54 rfl rfl ?_
    refine we_callV_int (p := 59) (k' := 1) (a := [.ref o, .int y, .int (nI j)]) (rr := []) dX6_extend_56 rfl rfl rfl rfl (rc_of rfl (s_o ho) (l_o0 ho) ⟨rfl, by decide⟩) (Nat.le_of_ble_eq_true rfl) (Nat.le_of_ble_eq_true rfl) (by omega) (x_can ho hF hC hW.c hy hh) (Or.inl rfl) rfl ?_
    refine we_if_eq (t := 92) (p := 62) dX6_extend_59 (by decide) rfl rfl (fun hc59 => ?_) (fun hc59 => ?_)
    · skip
      refine we_iinc (ls1 := [.ref 72, .ref o, .int x, .int y, .int br, .int ((nI j) + 1)]) (p := 95) dX6_extend_92 rfl rfl rfl ?_
      refine we_goto (p := 41) dX6_extend_95 (by decide) rfl ?_
      rw [nI_1]
      refine (x_pext_L ho hF hW hn hS hx hy hh hk m (j + 1) I a (by omega) hC hg hr).mono ?_
      rw [gN_s, if_pos hc59]
      exact fun _ _ z => z
    · skip
      refine we_aload_n (p := 63) dX6_extend_62 rfl rfl ?_
      refine we_getR (c := 6) (j := 2) (n := 6) (b := 74) (p := 66) dX6_extend_63 rfl rfl (by decide) (by decide) rfl (r_72_2 hF) rfl ?_
      refine we_iload_n (p := 67) dX6_extend_66 rfl rfl ?_
      refine we_iload (p := 69) dX6_extend_67 rfl rfl ?_
      refine wf_iast (n := 5) (i := k) (p := 70) dX6_extend_69 rfl (by decide) (in_ix hx (by omega) (by decide)) (cl_ix hx (by omega)) rfl ?_
      refine we_aload_n (p := 71) dX6_extend_70 rfl rfl ?_
      refine we_aload_n (p := 72) dX6_extend_71 rfl rfl ?_
      refine we_iload_n (p := 73) dX6_extend_72 rfl rfl ?_
      refine we_iconst (v := 1) (p := 74) dX6_extend_73 (by decide) rfl ?_
      refine we_iadd (p := 75) dX6_extend_74 rfl ?_
      refine we_iload (p := 77) dX6_extend_75 rfl rfl ?_
      refine we_iload (p := 79) dX6_extend_77 rfl rfl ?_
      refine we_aload_n (p := 80) dX6_extend_79 rfl rfl ?_
      refine we_getR (c := 6) (j := 3) (n := 6) (b := 75) (p := 83) dX6_extend_80 rfl rfl (by decide) (by decide) rfl (r_72_3 hF) rfl ?_
      refine we_iload_n (p := 84) dX6_extend_83 rfl rfl ?_
      refine wf_aald (c := 16) (n := 5) (b := (76 + k)) (i := k) (p := 85) dX6_extend_84 rfl (by decide) (in_ix hx (by omega) (by decide)) (cl_ix hx (by omega)) (fm_75 hF (by omega)) rfl ?_
      refine we_iload (p := 87) dX6_extend_85 rfl rfl ?_
      refine wf_iald (n := 6) (i := j) (v := dueC D s k j) (p := 88) dX6_extend_87 (sf_75 (by omega)) (by omega) (in_nJ (by omega) (by decide)) (nI_cl (by omega)) ((B_u hg.2.2.2.2 (by omega)) k (by omega) j (by omega)) rfl ?_
      refine we_ior (p := 89) dX6_extend_88 rfl ?_
      obtain ⟨_, _, e1, rfl, I1, J1, F1, rfl, ⟨f1, rfl, rfl, g1, r1⟩⟩ := hS (k + 1) j (x + 1) (nI j) (br ||| dueC D s k j) (upN row k j) a (hp_u I 74 k (nI j)) (by rw [hx, nI_1]) rfl (by omega) (by omega) (oC_u hC ho (by omega)) (pI_u hn hg rfl) (gR_up hr)
      refine we_callV_v (p := 92) (k' := (d + 2)) (a := [.ref 72, .ref o, .int (x + 1), .int (nI j), .int (br ||| (dueC D s k j))]) (rr := []) dX6_extend_89 rfl rfl rfl rfl (rc_of rfl rfl (by decide) ⟨rfl, by decide⟩) (Nat.le_of_ble_eq_true rfl) (Nat.le_of_ble_eq_true rfl) (by omega) e1 (Or.inl rfl) rfl ?_
      refine we_iinc (ls1 := [.ref 72, .ref o, .int x, .int y, .int br, .int ((nI j) + 1)]) (p := 95) dX6_extend_92 rfl rfl rfl ?_
      refine we_goto (p := 41) dX6_extend_95 (by decide) rfl ?_
      rw [nI_1]
      refine (x_pext_L ho hF hW hn hS hx hy hh hk m (j + 1) I1 _ (by omega) (oC_fr hC ho (fun q h1 h2 => (f1 q (by omega)).trans (hu_ne (by omega)))) g1 (gR_dn r1)).mono ?_
      rw [gN_s, if_neg hc59]
      rintro r h ⟨h1, I2, J2, F2, h2, h3, h4, h5, h6, h7⟩
      exact ⟨h1, I2, J2, F2, h2, ((Fr.rf.u (by omega) (by omega)).tr f1).tr h3, h4, h5, h6, h7⟩
set_option maxRecDepth 10000 in
theorem x_pext {J : Nat → Nat → Int64} {F : Nat → Nat → Option Nat} {nc ns : Nat} {o : Nat} {D : oD} {s : Nat → Int32} {n : Nat} (ho : isO o) (hF : RFok F) (hW : WF D) (hn : n ≤ 5) : ∀ d, ∀ (k h : Nat) (x y br : Int32) (row : Nat → Nat) (a : pA) (I : Nat → Nat → Int32), x = nI k → y = nI h → h < 6 → k + d = n → oC I o D → pI D s n I a → gR I 74 row k → Ew (d + 2) mX6_extend 0 [.ref 72, .ref o, .int x, .int y, .int br, .null] [] ((SH, nc, ns), I, J, F) (Ret nc ns none (fun I' J' F' => Fr 72 82 I I' ∧ J' = J ∧ F' = F ∧ pI D s n I' (poC D s n d k h br row a) ∧ gR I' 74 row k))
  | 0 => by
    intro k h x y br row a I hx hy hh hk hC hg hr
    have hD := hW.c
    have hH := hW.h
    have hT := hW.t
    have bt := hT.2
    obtain ⟨b0, b1, b2, b3, b4, b5, b6⟩ := hD.2
    refine we_iload_n (p := 1) dX6_extend_0 rfl rfl ?_
    refine we_aload_n (p := 2) dX6_extend_1 rfl rfl ?_
    refine wf_getI (c := 6) (j := 5) (n := 6) (v := nI n) (p := 5) dX6_extend_2 rfl rfl (by decide) (by decide) (Or.inl rfl) hg.2.1 rfl ?_
    refine we_icmp_lt (t := 18) (p := 8) dX6_extend_5 (by decide) rfl rfl (fun hc5 => absurd hc5 (by rw [hx]; exact nI_nlt (by omega) (by omega))) (fun hc5 => ?_)
    refine we_aload_n (p := 9) dX6_extend_8 rfl rfl ?_
    refine we_iload (p := 11) dX6_extend_9 rfl rfl ?_
    refine we_callS_int (p := 14) (k' := 0) (a := [.int br]) (rr := [.ref 72]) dX6_extend_11 rfl rfl rfl rfl rfl (rc_st rfl) (Nat.le_of_ble_eq_true rfl) (Nat.le_of_ble_eq_true rfl) (by omega) x_bitCount (Or.inl rfl) rfl ?_
    obtain ⟨_, _, e1, rfl, I1, J1, F1, rfl, ⟨f1, q1, rfl, rfl, g1⟩⟩ := x_psettle (row := row) (many := bcS br) hF hn hg (fun i hi => hr i (by omega))
    refine we_callV_v (p := 17) (k' := 0) (a := [.ref 72, .int (bcS br)]) (rr := []) dX6_extend_14 rfl rfl rfl rfl (rc_of rfl rfl (by decide) ⟨rfl, by decide⟩) (Nat.le_of_ble_eq_true rfl) (Nat.le_of_ble_eq_true rfl) (by omega) e1 (Or.inl rfl) rfl ?_
    exact wv_ret dX6_extend_17 rfl (⟨rfl, _, _, _, rfl, f1, rfl, rfl, g1, fun i hi => (congrFun q1 i).trans (hr i hi)⟩)
  | d + 1 => by
    intro k h x y br row a I hx hy hh hk hC hg hr
    have hD := hW.c
    have hH := hW.h
    have hT := hW.t
    have bt := hT.2
    obtain ⟨b0, b1, b2, b3, b4, b5, b6⟩ := hD.2
    refine we_iload_n (p := 1) dX6_extend_0 rfl rfl ?_
    refine we_aload_n (p := 2) dX6_extend_1 rfl rfl ?_
    refine wf_getI (c := 6) (j := 5) (n := 6) (v := nI n) (p := 5) dX6_extend_2 rfl rfl (by decide) (by decide) (Or.inl rfl) hg.2.1 rfl ?_
    refine we_icmp_lt (t := 18) (p := 8) dX6_extend_5 (by decide) rfl rfl (fun hc5 => ?_) (fun hc5 => absurd (by rw [hx]; exact nI_lt (by omega) (by omega)) hc5)
    refine we_iload (p := 20) dX6_extend_18 rfl rfl ?_
    refine we_aload_n (p := 21) dX6_extend_20 rfl rfl ?_
    refine we_getR (c := 6) (j := 4) (n := 6) (b := 81) (p := 24) dX6_extend_21 rfl rfl (by decide) (by decide) rfl (r_72_4 hF) rfl ?_
    refine we_iload_n (p := 25) dX6_extend_24 rfl rfl ?_
    refine wf_iald (n := 5) (i := k) (v := openS D s k) (p := 26) dX6_extend_25 rfl (by decide) (in_ix hx (by omega) (by decide)) (cl_ix hx (by omega)) (hg.2.2.2.1 k (by omega)) rfl ?_
    refine we_ior (p := 27) dX6_extend_26 rfl ?_
    refine we_callS_int (p := 30) (k' := 0) (a := [.int (br ||| (openS D s k))]) (rr := []) dX6_extend_27 rfl rfl rfl rfl rfl (rc_st rfl) (Nat.le_of_ble_eq_true rfl) (Nat.le_of_ble_eq_true rfl) (by omega) x_bitCount (Or.inl rfl) rfl ?_
    refine we_aload_n (p := 31) dX6_extend_30 rfl rfl ?_
    refine wf_getI (c := 6) (j := 1) (n := 6) (v := a.1) (p := 34) dX6_extend_31 rfl rfl (by decide) (by decide) (Or.inl rfl) hg.1 rfl ?_
    refine we_icmp_gt (t := 38) (p := 37) dX6_extend_34 (by decide) rfl rfl (fun hc34 => ?_) (fun hc34 => ?_)
    · skip
      refine we_iconst (v := 0) (p := 39) dX6_extend_38 (by decide) rfl ?_
      refine we_istore (ls1 := [.ref 72, .ref o, .int x, .int y, .int br, .int 0]) (p := 41) dX6_extend_39 rfl rfl ?_
      rw [poC, if_neg (Int32.not_le.mpr hc34)]
      exact x_pext_L ho hF hW hn (x_pext ho hF hW hn d) hx hy hh hk (dN D 0) 0 I a (by omega) hC hg hr
    · skip
      exact wv_ret dX6_extend_37 rfl (⟨rfl, _, _, _, rfl, Fr.rf, rfl, rfl, by rw [poC, if_pos (Int32.not_lt.mp hc34)]; exact hg, hr⟩)
set_option maxRecDepth 10000 in
theorem x_due_i {J : Nat → Nat → Int64} {F : Nat → Nat → Option Nat} {nc ns : Nat} {I0 : Nat → Nat → Int32} {o : Nat} {D : oD} {s : Nat → Int32} {n : Nat} (ho : isO o) (hF : RFok F) (hC0 : oC I0 o D) (hW : WF D) (hm0 : mo I0 42 s) (hn : n ≤ 5) (h50 : I0 72 5 = nI n) {k : Nat} (hk : k < n)  {Q : Option Value → hp_H → Prop} : ∀ (m j : Nat) (I : Nat → Nat → Int32), j + m = dN D 0 → (Fr 76 82 I0 I ∧ (∀ i, i < k → I 81 i = openS D s i) ∧ (∀ i, i < k → ∀ g, g < dN D 0 → I (76 + i) g = dueC D s i g) ∧ I 81 k = gN (fun g a => a ||| dueC D s k g) 0 j 0 ∧ ∀ g, g < j → I (76 + k) g = dueC D s k g) → (∀ (I : Nat → Nat → Int32), (Fr 76 82 I0 I ∧ (∀ i, i < k → I 81 i = openS D s i) ∧ (∀ i, i < k → ∀ g, g < dN D 0 → I (76 + i) g = dueC D s i g) ∧ I 81 k = gN (fun g a => a ||| dueC D s k g) 0 (dN D 0) 0 ∧ ∀ g, g < (dN D 0) → I (76 + k) g = dueC D s k g) → Ew 8 mX6_seek 106 [.ref 72, .ref o, .ref 42, .int (nI n), .int (nI k), .int (nI (dN D 0))] [] ((SH, nc, ns), I, J, F) Q) → Ew 8 mX6_seek 37 [.ref 72, .ref o, .ref 42, .int (nI n), .int (nI k), .int (nI j)] [] ((SH, nc, ns), I, J, F) Q
  | 0, j, I, hj, hI, hq => by
    have hD := hW.c
    have hH := hW.h
    have hT := hW.t
    have bt := hT.2
    obtain ⟨b0, b1, b2, b3, b4, b5, b6⟩ := hD.2
    have hC : oC I o D := oC_fr hC0 ho (fun k h1 h2 => hI.1 k (by omega))
    have hm : mo I 42 s := mo_fr hm0 (hI.1 42 (by omega))
    have h5 : I 72 5 = nI n := (congrFun (hI.1 72 (by omega)) 5).trans h50
    obtain rfl : j = dN D 0 := by omega
    refine we_iload (p := 39) dX6_seek_37 rfl rfl ?_
    refine we_aload_n (p := 40) dX6_seek_39 rfl rfl ?_
    refine we_getR (c := 4) (j := 2) (n := 18) (b := (o + 1)) (p := 43) dX6_seek_40 rfl (s_o ho) (l_o0 ho) (by decide) rfl (r_o2 hF ho) rfl ?_
    refine we_iconst (v := 0) (p := 44) dX6_seek_43 (by decide) rfl ?_
    refine wf_iald (n := 7) (i := 0) (v := nI (dN D 0)) (p := 45) dX6_seek_44 (s_o1 ho) (l_o ho 1 (by decide)) (by decide) (by decide) (cN hC hD (by decide)) rfl ?_
    refine we_icmp_ge (t := 106) (p := 48) dX6_seek_45 (by decide) rfl rfl (fun hc45 => ?_) (fun hc45 => absurd (nle (by omega) (by omega)) hc45)
    exact hq _  hI
  | m + 1, j, I, hj, hI, hq => by
    have hD := hW.c
    have hH := hW.h
    have hT := hW.t
    have bt := hT.2
    obtain ⟨b0, b1, b2, b3, b4, b5, b6⟩ := hD.2
    have hC : oC I o D := oC_fr hC0 ho (fun k h1 h2 => hI.1 k (by omega))
    have hm : mo I 42 s := mo_fr hm0 (hI.1 42 (by omega))
    have h5 : I 72 5 = nI n := (congrFun (hI.1 72 (by omega)) 5).trans h50
    refine we_iload (p := 39) dX6_seek_37 rfl rfl ?_
    refine we_aload_n (p := 40) dX6_seek_39 rfl rfl ?_
    refine we_getR (c := 4) (j := 2) (n := 18) (b := (o + 1)) (p := 43) dX6_seek_40 rfl (s_o ho) (l_o0 ho) (by decide) rfl (r_o2 hF ho) rfl ?_
    refine we_iconst (v := 0) (p := 44) dX6_seek_43 (by decide) rfl ?_
    refine wf_iald (n := 7) (i := 0) (v := nI (dN D 0)) (p := 45) dX6_seek_44 (s_o1 ho) (l_o ho 1 (by decide)) (by decide) (by decide) (cN hC hD (by decide)) rfl ?_
    refine we_icmp_ge (t := 106) (p := 48) dX6_seek_45 (by decide) rfl rfl (fun hc45 => absurd hc45 (nge (by omega) (by omega))) (fun hc45 => ?_)
    refine we_aload_n (p := 49) dX6_seek_48 rfl rfl ?_
    refine we_getR (c := 6) (j := 3) (n := 6) (b := 75) (p := 52) dX6_seek_49 rfl rfl (by decide) (by decide) rfl (r_72_3 hF) rfl ?_
    refine we_iload (p := 54) dX6_seek_52 rfl rfl ?_
    refine wf_aald (c := 16) (n := 5) (b := (76 + k)) (i := k) (p := 55) dX6_seek_54 rfl (by decide) (in_nJ (by omega) (by decide)) (nI_cl (by omega)) (fm_75 hF (by omega)) rfl ?_
    refine we_iload (p := 57) dX6_seek_55 rfl rfl ?_
    refine we_aload_n (p := 58) dX6_seek_57 rfl rfl ?_
    refine we_iload (p := 60) dX6_seek_58 rfl rfl ?_
    refine we_aload_n (p := 61) dX6_seek_60 rfl rfl ?_
    refine wf_getI (c := 3) (j := 0) (n := 6) (v := s 0) (p := 64) dX6_seek_61 rfl rfl (by decide) (by decide) (Or.inl rfl) hm.1 rfl ?_
    refine we_iconst (v := 1) (p := 65) dX6_seek_64 (by decide) rfl ?_
    refine we_iadd (p := 66) dX6_seek_65 rfl ?_
    refine we_iload (p := 68) dX6_seek_66 rfl rfl ?_
    refine we_iadd (p := 69) dX6_seek_68 rfl ?_
    refine we_callV_int (p := 72) (k' := 0) (a := [.ref o, .int (nI j), .int (((s 0) + 1) + (nI k))]) (rr := [.int (nI j), .ref (76 + k)]) dX6_seek_69 rfl rfl rfl rfl (rc_of rfl (s_o ho) (l_o0 ho) ⟨rfl, by decide⟩) (Nat.le_of_ble_eq_true rfl) (Nat.le_of_ble_eq_true rfl) (by decide) (x_lettersDue ho hF hC hW.c ) (Or.inl rfl) rfl ?_
    refine we_aload_n (p := 73) dX6_seek_72 rfl rfl ?_
    refine wf_getI (c := 3) (j := 3) (n := 6) (v := s 5) (p := 76) dX6_seek_73 rfl rfl (by decide) (by decide) (Or.inl rfl) hm.2.2.2.1 rfl ?_
    refine we_iconst (v := -1) (p := 77) dX6_seek_76 (by decide) rfl ?_
    refine we_ixor (p := 78) dX6_seek_77 rfl ?_
    refine we_iand (p := 79) dX6_seek_78 rfl ?_
    refine wf_iast (n := 6) (i := j) (p := 80) dX6_seek_79 (sf_75 (by omega)) (by omega) (in_nJ (by omega) (by decide)) (nI_cl (by omega)) rfl ?_
    refine we_aload_n (p := 81) dX6_seek_80 rfl rfl ?_
    refine we_getR (c := 6) (j := 4) (n := 6) (b := 81) (p := 84) dX6_seek_81 rfl rfl (by decide) (by decide) rfl (r_72_4 hF) rfl ?_
    refine we_iload (p := 86) dX6_seek_84 rfl rfl ?_
    refine we_dup2 (p := 87) dX6_seek_86 rfl ?_
    refine wf_iald (n := 5) (i := k) (v := I 81 k) (p := 88) dX6_seek_87 rfl (by decide) (in_nJ (by omega) (by decide)) (nI_cl (by omega)) (congrFun (hu_ne (by omega)) k) rfl ?_
    refine we_aload_n (p := 89) dX6_seek_88 rfl rfl ?_
    refine we_getR (c := 6) (j := 3) (n := 6) (b := 75) (p := 92) dX6_seek_89 rfl rfl (by decide) (by decide) rfl (r_72_3 hF) rfl ?_
    refine we_iload (p := 94) dX6_seek_92 rfl rfl ?_
    refine wf_aald (c := 16) (n := 5) (b := (76 + k)) (i := k) (p := 95) dX6_seek_94 rfl (by decide) (in_nJ (by omega) (by decide)) (nI_cl (by omega)) (fm_75 hF (by omega)) rfl ?_
    refine we_iload (p := 97) dX6_seek_95 rfl rfl ?_
    refine wf_iald (n := 6) (i := j) (v := dueC D s k j) (p := 98) dX6_seek_97 (sf_75 (by omega)) (by omega) (in_nJ (by omega) (by decide)) (nI_cl (by omega)) hu_eq rfl ?_
    refine we_ior (p := 99) dX6_seek_98 rfl ?_
    refine wf_iast (n := 5) (i := k) (p := 100) dX6_seek_99 rfl (by decide) (in_nJ (by omega) (by decide)) (nI_cl (by omega)) rfl ?_
    refine we_iinc (ls1 := [.ref 72, .ref o, .ref 42, .int (nI n), .int (nI k), .int ((nI j) + 1)]) (p := 103) dX6_seek_100 rfl rfl rfl ?_
    refine we_goto (p := 37) dX6_seek_103 (by decide) rfl ?_
    rw [nI_1]
    refine x_due_i ho hF hC0 hW hm0 hn h50 hk m (j + 1) _  (by omega) ?_ hq
    refine ⟨(hI.1.u (by omega) (by omega)).u (by omega) (by omega), fun i hi => ?_, fun i hi g hg => ?_, ?_, fun g hg => ?_⟩
    · rw [hu_nj (by omega), hu_ne (by omega)]
      exact hI.2.1 i hi
    · rw [hu_ne (by omega), hu_ne (by omega)]
      exact hI.2.2.1 i hi g hg
    · rw [hu_eq, gN_snoc, Nat.zero_add, ← hI.2.2.2.1]
    · rw [hu_ne (by omega), hu_if]
      by_cases c : g = j
      · rw [if_pos c, c]
        rfl
      · rw [if_neg c]
        exact hI.2.2.2.2 g (by omega)
set_option maxRecDepth 10000 in
theorem x_dues {J : Nat → Nat → Int64} {F : Nat → Nat → Option Nat} {nc ns : Nat} {I0 : Nat → Nat → Int32} {o : Nat} {D : oD} {s : Nat → Int32} {n : Nat} (ho : isO o) (hF : RFok F) (hC0 : oC I0 o D) (hW : WF D) (hm0 : mo I0 42 s) (hn : n ≤ 5) (h50 : I0 72 5 = nI n)  {Q : Option Value → hp_H → Prop} : ∀ (m j : Nat) (I : Nat → Nat → Int32) (z : Value), j + m = n → (Fr 76 82 I0 I ∧ (∀ i, i < j → I 81 i = openS D s i) ∧ (∀ i, i < j → ∀ g, g < dN D 0 → I (76 + i) g = dueC D s i g)) → (∀ (I : Nat → Nat → Int32) (z : Value), (Fr 76 82 I0 I ∧ (∀ i, i < n → I 81 i = openS D s i) ∧ (∀ i, i < n → ∀ g, g < dN D 0 → I (76 + i) g = dueC D s i g)) → Ew 8 mX6_seek 112 [.ref 72, .ref o, .ref 42, .int (nI n), .int (nI n), z] [] ((SH, nc, ns), I, J, F) Q) → Ew 8 mX6_seek 17 [.ref 72, .ref o, .ref 42, .int (nI n), .int (nI j), z] [] ((SH, nc, ns), I, J, F) Q
  | 0, j, I, z, hj, hI, hq => by
    have hD := hW.c
    have hH := hW.h
    have hT := hW.t
    have bt := hT.2
    obtain ⟨b0, b1, b2, b3, b4, b5, b6⟩ := hD.2
    have hC : oC I o D := oC_fr hC0 ho (fun k h1 h2 => hI.1 k (by omega))
    have hm : mo I 42 s := mo_fr hm0 (hI.1 42 (by omega))
    have h5 : I 72 5 = nI n := (congrFun (hI.1 72 (by omega)) 5).trans h50
    have hjN : j = n := by omega
    refine we_iload (p := 19) dX6_seek_17 rfl rfl ?_
    refine we_aload_n (p := 20) dX6_seek_19 rfl rfl ?_
    refine wf_getI (c := 6) (j := 5) (n := 6) (v := nI n) (p := 23) dX6_seek_20 rfl rfl (by decide) (by decide) (Or.inl rfl) h5 rfl ?_
    refine we_icmp_ge (t := 112) (p := 26) dX6_seek_23 (by decide) rfl rfl (fun hc23 => ?_) (fun hc23 => absurd (nI_le (a := n) (b := j) (by omega) (by omega)) hc23)
    subst hjN; exact hq _ _ hI
  | m + 1, j, I, z, hj, hI, hq => by
    have hD := hW.c
    have hH := hW.h
    have hT := hW.t
    have bt := hT.2
    obtain ⟨b0, b1, b2, b3, b4, b5, b6⟩ := hD.2
    have hC : oC I o D := oC_fr hC0 ho (fun k h1 h2 => hI.1 k (by omega))
    have hm : mo I 42 s := mo_fr hm0 (hI.1 42 (by omega))
    have h5 : I 72 5 = nI n := (congrFun (hI.1 72 (by omega)) 5).trans h50
    refine we_iload (p := 19) dX6_seek_17 rfl rfl ?_
    refine we_aload_n (p := 20) dX6_seek_19 rfl rfl ?_
    refine wf_getI (c := 6) (j := 5) (n := 6) (v := nI n) (p := 23) dX6_seek_20 rfl rfl (by decide) (by decide) (Or.inl rfl) h5 rfl ?_
    refine we_icmp_ge (t := 112) (p := 26) dX6_seek_23 (by decide) rfl rfl (fun hc23 => absurd hc23 (nI_ge (a := j) (b := n) (by omega) (by omega))) (fun hc23 => ?_)
    refine we_aload_n (p := 27) dX6_seek_26 rfl rfl ?_
    refine we_getR (c := 6) (j := 4) (n := 6) (b := 81) (p := 30) dX6_seek_27 rfl rfl (by decide) (by decide) rfl (r_72_4 hF) rfl ?_
    refine we_iload (p := 32) dX6_seek_30 rfl rfl ?_
    refine we_iconst (v := 0) (p := 33) dX6_seek_32 (by decide) rfl ?_
    refine wf_iast (n := 5) (i := j) (p := 34) dX6_seek_33 rfl (by decide) (in_nJ (by omega) (by decide)) (nI_cl (by omega)) rfl ?_
    refine we_iconst (v := 0) (p := 35) dX6_seek_34 (by decide) rfl ?_
    refine we_istore (ls1 := [.ref 72, .ref o, .ref 42, .int (nI n), .int (nI j), .int 0]) (p := 37) dX6_seek_35 rfl rfl ?_
    refine x_due_i ho hF hC0 hW hm0 hn h50 (by omega) (dN D 0) 0 _ (by omega) ⟨hI.1.u (by omega) (by omega), fun i hi => ?_, fun i hi g hg => ?_, hu_eq, fun g hg => absurd hg (by omega)⟩ (fun I1 hI1 => ?_)
    · rw [hu_nj (by omega)]
      exact hI.2.1 i hi
    · rw [hu_ne (by omega)]
      exact hI.2.2 i hi g hg
    refine we_iinc (ls1 := [.ref 72, .ref o, .ref 42, .int (nI n), .int ((nI j) + 1), .int (nI (dN D 0))]) (p := 109) dX6_seek_106 rfl rfl rfl ?_
    refine we_goto (p := 17) dX6_seek_109 (by decide) rfl ?_
    rw [nI_1]
    refine x_dues ho hF hC0 hW hm0 hn h50 m (j + 1) _ _ (by omega) ?_ hq
    refine ⟨hI1.1, fun i hi => ?_, fun i hi g hg => ?_⟩
    · by_cases c : i = j
      · rw [c]
        exact hI1.2.2.2.1
      · exact hI1.2.1 i (by omega)
    · by_cases c : i = j
      · rw [c]
        exact hI1.2.2.2.2 g hg
      · exact hI1.2.2.1 i (by omega) g hg
set_option maxRecDepth 10000 in
theorem x_pseek {I : Nat → Nat → Int32} {J : Nat → Nat → Int64} {F : Nat → Nat → Option Nat} {nc ns : Nat} {o : Nat} {D : oD} {s : Nat → Int32} {n : Nat} (ho : isO o) (hF : RFok F) (hC : oC I o D) (hW : WF D) (hm : mo I 42 s) (hS : WFs D s) (ht1 : tol D = 1) (hn : n ≤ 5) {f : Nat → Int32} (hf : I 73 = f) : Ew 8 mX6_seek 0 [.ref 72, .ref o, .ref 42, .int (nI n), .null, .null] [] ((SH, nc, ns), I, J, F) (Ret nc ns none (fun I' J' F' => Fr 72 82 I I' ∧ J' = J ∧ F' = F ∧ pI D s n I' (post0 D s n f))) := by
  have hD := hW.c
  have hH := hW.h
  have hT := hW.t
  have bt := hT.2
  obtain ⟨b0, b1, b2, b3, b4, b5, b6⟩ := hD.2
  have hat := hS.at_ (tol_h hW ht1)
  refine we_aload_n (p := 1) dX6_seek_0 rfl rfl ?_
  refine we_iload_n (p := 2) dX6_seek_1 rfl rfl ?_
  refine we_iconst (v := 5) (p := 3) dX6_seek_2 (by decide) rfl ?_
  refine we_min (p := 6) dX6_seek_3 rfl (Nat.le_of_ble_eq_true rfl) rfl ?_
  rw [if_neg (show ¬ (5 : Int32) < nI n from nI_nlt (a := 5) (b := n) hn (by omega))]
  refine we_putI (c := 6) (j := 5) (n := 6)  (p := 9) dX6_seek_6 rfl rfl (by decide) (by decide) rfl rfl rfl ?_
  refine we_aload_n (p := 10) dX6_seek_9 rfl rfl ?_
  refine we_iconst (v := -1) (p := 11) dX6_seek_10 (by decide) rfl ?_
  refine we_putI (c := 6) (j := 1) (n := 6)  (p := 14) dX6_seek_11 rfl rfl (by decide) (by decide) rfl rfl rfl ?_
  refine we_iconst (v := 0) (p := 15) dX6_seek_14 (by decide) rfl ?_
  refine we_istore (ls1 := [.ref 72, .ref o, .ref 42, .int (nI n), .int 0, .null]) (p := 17) dX6_seek_15 rfl rfl ?_
  refine x_dues (I0 := (hp_u (hp_u I 72 5 (nI n)) 72 1 (-1))) ho hF (oC_u (oC_u hC ho (by decide)) ho (by decide)) hW (mo_u (mo_u hm (by decide)) (by decide)) hn ((hu_nj (by decide)).trans hu_eq) n 0 _ _ (by omega) ⟨Fr.rf, fun i hi => absurd hi (by omega), fun i hi => absurd hi (by omega)⟩ (fun I1 z hI1 => ?_)
  have hfi : Fr 72 82 I I1 := ((Fr.rf.u (by omega) (by omega)).u (by omega) (by omega)).tr (hI1.1.wd (by omega) (by omega))
  have hg1 : pI D s n I1 (-1, f) := ⟨(congrFun (hI1.1 72 (by omega)) 1).trans hu_eq, (congrFun (hI1.1 72 (by omega)) 5).trans ((hu_nj (by decide)).trans hu_eq), fun i hi => (congrFun ((hI1.1 73 (by omega)).trans ((hu_ne (by decide)).trans ((hu_ne (by decide)).trans hf))) i), hI1.2.1, hI1.2.2⟩
  have hC1 := oC_fr hC ho (fun q h1 h2 => hfi q (by omega))
  have hm1 := mo_fr hm (hfi 42 (by omega))
  refine we_aload_n (p := 113) dX6_seek_112 rfl rfl ?_
  refine we_aload_n (p := 114) dX6_seek_113 rfl rfl ?_
  refine we_iconst (v := 0) (p := 115) dX6_seek_114 (by decide) rfl ?_
  refine we_aload_n (p := 116) dX6_seek_115 rfl rfl ?_
  refine wf_getI (c := 3) (j := 1) (n := 6) (v := s 1) (p := 119) dX6_seek_116 rfl rfl (by decide) (by decide) (Or.inl rfl) hm1.2.1 rfl ?_
  refine we_iconst (v := 0) (p := 120) dX6_seek_119 (by decide) rfl ?_
  obtain ⟨_, _, e2, rfl, I2, J2, F2, rfl, ⟨f2, rfl, rfl, g2, r2⟩⟩ := x_pext ho hF hW hn n 0 (s 1).toNatClampNeg 0 (s 1) 0 (fun _ => 0) (-1, f) I1 rfl hat.1 hat.2.2 (by omega) hC1 hg1 (fun i hi => absurd hi (by omega))
  refine we_callV_v (p := 123) (k' := (n + 2)) (a := [.ref 72, .ref o, .int 0, .int (s 1), .int 0]) (rr := []) dX6_seek_120 rfl rfl rfl rfl (rc_of rfl rfl (by decide) ⟨rfl, by decide⟩) (Nat.le_of_ble_eq_true rfl) (Nat.le_of_ble_eq_true rfl) (by omega) e2 (Or.inl rfl) rfl ?_
  exact wv_ret dX6_seek_123 rfl (⟨rfl, _, _, _, rfl, hfi.tr f2, rfl, rfl, g2⟩)
set_option maxRecDepth 10000 in
theorem c_letters_no {I : Nat → Nat → Int32} {J : Nat → Nat → Int64} {F : Nat → Nat → Option Nat} {nc ns : Nat} {o : Nat} {D : oD} {s : Nat → Int32} (ho : isO o) (hF : RFok F) (hoF : F 0 2 = some o) (hC : oC I o D) (hW : WF D) (hm : mo I 42 s) (hS : WFs D s) {v : Int32} (ht : ¬ (eiS (toS D) (eiS (nuS v 0 5) (frD s))) = 0) : Ev 9 mX11_letters 0 [.ref 0, .int v] [] ((SH, nc, ns), I, J, F) (some (.int (-1))) ((SH, nc, ns), hp_u I 0 10 (eiS (toS D) (eiS (nuS v 0 5) (frD s))), J, F) := by
  have hD := hW.c
  have hH := hW.h
  have hT := hW.t
  have bt := hT.2
  obtain ⟨b0, b1, b2, b3, b4, b5, b6⟩ := hD.2
  refine e_aload_n (p := 1) dX11_letters_0 rfl rfl ?_
  refine e_aload_n (p := 2) dX11_letters_1 rfl rfl ?_
  refine e_iload_n (p := 3) dX11_letters_2 rfl rfl ?_
  refine e_iconst (v := 0) (p := 4) dX11_letters_3 (by decide) rfl ?_
  refine e_iconst (v := 5) (p := 5) dX11_letters_4 (by decide) rfl ?_
  refine e_callV_int (p := 8) (k' := 2) (a := [.ref 0, .int v, .int 0, .int 5]) (rr := [.ref 0]) dX11_letters_5 rfl rfl rfl rfl (rc_of rfl rfl (by decide) ⟨rfl, by decide⟩) (Nat.le_of_ble_eq_true rfl) (Nat.le_of_ble_eq_true rfl) (by decide) (x_ofPlan ho hF hoF hC hW hm hS) (Or.inl rfl) rfl ?_
  refine e_callV_int (p := 11) (k' := 0) (a := [.ref 0, .int (eiS (toS D) (eiS (nuS v 0 5) (frD s)))]) (rr := []) dX11_letters_8 rfl rfl rfl rfl (rc_of rfl rfl (by decide) ⟨rfl, by decide⟩) (Nat.le_of_ble_eq_true rfl) (Nat.le_of_ble_eq_true rfl) (by decide) x_refused (Or.inl rfl) rfl ?_
  refine e_if_eq (t := 16) (p := 14) dX11_letters_11 (by decide) rfl rfl (fun hc11 => absurd hc11 (rf_ne ht)) (fun hc11 => ?_)
  refine e_iconst (v := -1) (p := 15) dX11_letters_14 (by decide) rfl ?_
  exact e_iretE dX11_letters_15 rfl rfl (by decide) ⟨rfl, rfl⟩
set_option maxRecDepth 10000 in
theorem c_letters_ok {I : Nat → Nat → Int32} {J : Nat → Nat → Int64} {F : Nat → Nat → Option Nat} {nc ns : Nat} {o : Nat} {D : oD} {s : Nat → Int32} (ho : isO o) (hF : RFok F) (hoF : F 0 2 = some o) (hC : oC I o D) (hW : WF D) (hm : mo I 42 s) (hS : WFs D s) (ht1 : tol D = 1) (hfr : s 2 ≤ 0) {n : Nat} (hn : n ≤ 5) : Ew 9 mX11_letters 0 [.ref 0, .int (nI n)] [] ((SH, nc, ns), I, J, F) (QC nc ns I J F (.int ((post0 D s n (I 73)).1)) 0) := by
  have hD := hW.c
  have hH := hW.h
  have hT := hW.t
  have bt := hT.2
  obtain ⟨b0, b1, b2, b3, b4, b5, b6⟩ := hD.2
  refine we_aload_n (p := 1) dX11_letters_0 rfl rfl ?_
  refine we_aload_n (p := 2) dX11_letters_1 rfl rfl ?_
  refine we_iload_n (p := 3) dX11_letters_2 rfl rfl ?_
  refine we_iconst (v := 0) (p := 4) dX11_letters_3 (by decide) rfl ?_
  refine we_iconst (v := 5) (p := 5) dX11_letters_4 (by decide) rfl ?_
  refine we_callV_int (p := 8) (k' := 2) (a := [.ref 0, .int (nI n), .int 0, .int 5]) (rr := [.ref 0]) dX11_letters_5 rfl rfl rfl rfl (rc_of rfl rfl (by decide) ⟨rfl, by decide⟩) (Nat.le_of_ble_eq_true rfl) (Nat.le_of_ble_eq_true rfl) (by decide) (x_ofPlan_ok ho hF hoF hC hW hm hS ht1 hfr (nu_ok (a := 0) (b := 5) (n := n) (by omega) (by omega) (by omega))) (Or.inl rfl) rfl ?_
  refine we_callV_int (p := 11) (k' := 0) (a := [.ref 0, .int 0]) (rr := []) dX11_letters_8 rfl rfl rfl rfl (rc_of rfl rfl (by decide) ⟨rfl, by decide⟩) (Nat.le_of_ble_eq_true rfl) (Nat.le_of_ble_eq_true rfl) (by decide) (Ev.i (show rfS 0 = 0 by decide) (x_refused)) (Or.inl rfl) rfl ?_
  refine we_if_eq (t := 16) (p := 14) dX11_letters_11 (by decide) rfl rfl (fun hc11 => ?_) (fun hc11 => absurd (by decide) hc11)
  refine we_aload_n (p := 17) dX11_letters_16 rfl rfl ?_
  refine we_getR (c := 10) (j := 6) (n := 13) (b := 72) (p := 20) dX11_letters_17 rfl rfl (by decide) (by decide) rfl (r_0_6 hF) rfl ?_
  refine we_aload_n (p := 21) dX11_letters_20 rfl rfl ?_
  refine we_getR (c := 10) (j := 2) (n := 13) (b := o) (p := 24) dX11_letters_21 rfl rfl (by decide) (by decide) rfl hoF rfl ?_
  refine we_aload_n (p := 25) dX11_letters_24 rfl rfl ?_
  refine we_getR (c := 10) (j := 3) (n := 13) (b := 42) (p := 28) dX11_letters_25 rfl rfl (by decide) (by decide) rfl (r_0_3 hF) rfl ?_
  refine we_iload_n (p := 29) dX11_letters_28 rfl rfl ?_
  obtain ⟨_, _, e1, rfl, I1, J1, F1, rfl, ⟨f1, rfl, rfl, hg⟩⟩ := x_pseek (I := (hp_u I 0 10 0)) (n := n) ho hF (oC_u hC ho (by decide)) hW (mo_u hm (by decide)) hS ht1 hn (f := I 73) (hu_ne (by decide))
  refine we_callV_v (p := 32) (k' := 8) (a := [.ref 72, .ref o, .ref 42, .int (nI n)]) (rr := []) dX11_letters_29 rfl rfl rfl rfl (rc_of rfl rfl (by decide) ⟨rfl, by decide⟩) (Nat.le_of_ble_eq_true rfl) (Nat.le_of_ble_eq_true rfl) (by decide) e1 (Or.inl rfl) rfl ?_
  refine we_aload_n (p := 33) dX11_letters_32 rfl rfl ?_
  refine we_getR (c := 10) (j := 6) (n := 13) (b := 72) (p := 36) dX11_letters_33 rfl rfl (by decide) (by decide) rfl (r_0_6 hF) rfl ?_
  refine wf_getI (c := 6) (j := 1) (n := 6) (v := (post0 D s n (I 73)).1) (p := 39) dX11_letters_36 rfl rfl (by decide) (by decide) (Or.inl rfl) hg.1 rfl ?_
  exact wi_ret dX11_letters_39 rfl rfl (by decide) (⟨rfl, _, _, _, rfl, f1.wd (by omega) (by omega), Fr.rf, rfl⟩)
def ixV (v m : Int32) : Int32 := if v < 0 then 1 else if m ≤ v then 1 else 0
set_option maxRecDepth 10000 in
theorem x_ofIndexV {I : Nat → Nat → Int32} {J : Nat → Nat → Int64} {F : Nat → Nat → Option Nat} {nc ns : Nat} {v m : Int32} : Ev 0 mX11_ofIndex 0 [.int v, .int m] [] ((SH, nc, ns), I, J, F) (some (.int (ixV v m))) ((SH, nc, ns), I, J, F) := by
  refine e_iload_n (p := 1) dX11_ofIndex_0 rfl rfl ?_
  refine e_if_lt (t := 13) (p := 4) dX11_ofIndex_1 (by decide) rfl rfl (fun hc1 => ?_) (fun hc1 => ?_)
  · skip
    refine e_iconst (v := 1) (p := 14) dX11_ofIndex_13 (by decide) rfl ?_
    exact e_iretE dX11_ofIndex_14 rfl rfl (by decide) ⟨by simp only [ixV, hc1, (Int32.not_le.mpr hc1), ↓reduceIte], rfl⟩
  · skip
    refine e_iload_n (p := 5) dX11_ofIndex_4 rfl rfl ?_
    refine e_iload_n (p := 6) dX11_ofIndex_5 rfl rfl ?_
    refine e_icmp_ge (t := 13) (p := 9) dX11_ofIndex_6 (by decide) rfl rfl (fun hc6 => ?_) (fun hc6 => ?_)
    · skip
      refine e_iconst (v := 1) (p := 14) dX11_ofIndex_13 (by decide) rfl ?_
      exact e_iretE dX11_ofIndex_14 rfl rfl (by decide) ⟨by simp only [ixV, hc1, hc6, (Int32.not_lt.mp hc1), (Int32.not_lt.mpr hc6), ↓reduceIte], rfl⟩
    · skip
      refine e_iconst (v := 0) (p := 10) dX11_ofIndex_9 (by decide) rfl ?_
      refine e_goto (p := 14) dX11_ofIndex_10 (by decide) rfl ?_
      exact e_iretE dX11_ofIndex_14 rfl rfl (by decide) ⟨by simp only [ixV, hc1, hc6, (Int32.not_lt.mp hc1), (Int32.not_le.mp hc6), ↓reduceIte], rfl⟩
set_option maxRecDepth 10000 in
theorem c_lettersAt_no {I : Nat → Nat → Int32} {J : Nat → Nat → Int64} {F : Nat → Nat → Option Nat} {nc ns : Nat} {o : Nat} {D : oD} {s : Nat → Int32} (ho : isO o) (hF : RFok F) (hoF : F 0 2 = some o) (hC : oC I o D) (hW : WF D) (hm : mo I 42 s) (hS : WFs D s) {v i : Int32} (ht : ¬ (eiS (eiS (toS D) (eiS (nuS v 0 5) (frD s))) (ixV i v)) = 0) : Ev 9 mX11_lettersAt 0 [.ref 0, .int v, .int i] [] ((SH, nc, ns), I, J, F) (some (.int (-1))) ((SH, nc, ns), hp_u I 0 10 (eiS (eiS (toS D) (eiS (nuS v 0 5) (frD s))) (ixV i v)), J, F) := by
  have hD := hW.c
  have hH := hW.h
  have hT := hW.t
  have bt := hT.2
  obtain ⟨b0, b1, b2, b3, b4, b5, b6⟩ := hD.2
  refine e_aload_n (p := 1) dX11_lettersAt_0 rfl rfl ?_
  refine e_aload_n (p := 2) dX11_lettersAt_1 rfl rfl ?_
  refine e_iload_n (p := 3) dX11_lettersAt_2 rfl rfl ?_
  refine e_iconst (v := 0) (p := 4) dX11_lettersAt_3 (by decide) rfl ?_
  refine e_iconst (v := 5) (p := 5) dX11_lettersAt_4 (by decide) rfl ?_
  refine e_callV_int (p := 8) (k' := 2) (a := [.ref 0, .int v, .int 0, .int 5]) (rr := [.ref 0]) dX11_lettersAt_5 rfl rfl rfl rfl (rc_of rfl rfl (by decide) ⟨rfl, by decide⟩) (Nat.le_of_ble_eq_true rfl) (Nat.le_of_ble_eq_true rfl) (by decide) (x_ofPlan ho hF hoF hC hW hm hS) (Or.inl rfl) rfl ?_
  refine e_iload_n (p := 9) dX11_lettersAt_8 rfl rfl ?_
  refine e_iload_n (p := 10) dX11_lettersAt_9 rfl rfl ?_
  refine e_callS_int (p := 13) (k' := 0) (a := [.int i, .int v]) (rr := [.int (eiS (toS D) (eiS (nuS v 0 5) (frD s))), .ref 0]) dX11_lettersAt_10 rfl rfl rfl rfl rfl (rc_st rfl) (Nat.le_of_ble_eq_true rfl) (Nat.le_of_ble_eq_true rfl) (by decide) x_ofIndexV (Or.inl rfl) rfl ?_
  refine e_callS_int (p := 16) (k' := 0) (a := [.int (eiS (toS D) (eiS (nuS v 0 5) (frD s))), .int (ixV i v)]) (rr := [.ref 0]) dX11_lettersAt_13 rfl rfl rfl rfl rfl (rc_st rfl) (Nat.le_of_ble_eq_true rfl) (Nat.le_of_ble_eq_true rfl) (by decide) x_either (Or.inl rfl) rfl ?_
  refine e_callV_int (p := 19) (k' := 0) (a := [.ref 0, .int (eiS (eiS (toS D) (eiS (nuS v 0 5) (frD s))) (ixV i v))]) (rr := []) dX11_lettersAt_16 rfl rfl rfl rfl (rc_of rfl rfl (by decide) ⟨rfl, by decide⟩) (Nat.le_of_ble_eq_true rfl) (Nat.le_of_ble_eq_true rfl) (by decide) x_refused (Or.inl rfl) rfl ?_
  refine e_if_eq (t := 24) (p := 22) dX11_lettersAt_19 (by decide) rfl rfl (fun hc19 => absurd hc19 (rf_ne ht)) (fun hc19 => ?_)
  refine e_iconst (v := -1) (p := 23) dX11_lettersAt_22 (by decide) rfl ?_
  exact e_iretE dX11_lettersAt_23 rfl rfl (by decide) ⟨rfl, rfl⟩
set_option maxRecDepth 10000 in
theorem c_lettersAt_ok {I : Nat → Nat → Int32} {J : Nat → Nat → Int64} {F : Nat → Nat → Option Nat} {nc ns : Nat} {o : Nat} {D : oD} {s : Nat → Int32} (ho : isO o) (hF : RFok F) (hoF : F 0 2 = some o) (hC : oC I o D) (hW : WF D) (hm : mo I 42 s) (hS : WFs D s) (ht1 : tol D = 1) (hfr : s 2 ≤ 0) {n : Nat} (hn : n ≤ 5) {i : Nat} (hi : i < n) : Ew 9 mX11_lettersAt 0 [.ref 0, .int (nI n), .int (nI i)] [] ((SH, nc, ns), I, J, F) (QC nc ns I J F (.int ((post0 D s n (I 73)).2 i)) 0) := by
  have hD := hW.c
  have hH := hW.h
  have hT := hW.t
  have bt := hT.2
  obtain ⟨b0, b1, b2, b3, b4, b5, b6⟩ := hD.2
  refine we_aload_n (p := 1) dX11_lettersAt_0 rfl rfl ?_
  refine we_aload_n (p := 2) dX11_lettersAt_1 rfl rfl ?_
  refine we_iload_n (p := 3) dX11_lettersAt_2 rfl rfl ?_
  refine we_iconst (v := 0) (p := 4) dX11_lettersAt_3 (by decide) rfl ?_
  refine we_iconst (v := 5) (p := 5) dX11_lettersAt_4 (by decide) rfl ?_
  refine we_callV_int (p := 8) (k' := 2) (a := [.ref 0, .int (nI n), .int 0, .int 5]) (rr := [.ref 0]) dX11_lettersAt_5 rfl rfl rfl rfl (rc_of rfl rfl (by decide) ⟨rfl, by decide⟩) (Nat.le_of_ble_eq_true rfl) (Nat.le_of_ble_eq_true rfl) (by decide) (x_ofPlan_ok ho hF hoF hC hW hm hS ht1 hfr (nu_ok (a := 0) (b := 5) (n := n) (by omega) (by omega) (by omega))) (Or.inl rfl) rfl ?_
  refine we_iload_n (p := 9) dX11_lettersAt_8 rfl rfl ?_
  refine we_iload_n (p := 10) dX11_lettersAt_9 rfl rfl ?_
  refine we_callS_int (p := 13) (k' := 0) (a := [.int (nI i), .int (nI n)]) (rr := [.int 0, .ref 0]) dX11_lettersAt_10 rfl rfl rfl rfl rfl (rc_st rfl) (Nat.le_of_ble_eq_true rfl) (Nat.le_of_ble_eq_true rfl) (by decide) (Ev.i (ix_ok (n := n) (w := i) (by omega) (by omega)) (x_ofIndex)) (Or.inl rfl) rfl ?_
  refine we_callS_int (p := 16) (k' := 0) (a := [.int 0, .int 0]) (rr := [.ref 0]) dX11_lettersAt_13 rfl rfl rfl rfl rfl (rc_st rfl) (Nat.le_of_ble_eq_true rfl) (Nat.le_of_ble_eq_true rfl) (by decide) (Ev.i (show eiS 0 0 = 0 by decide) (x_either)) (Or.inl rfl) rfl ?_
  refine we_callV_int (p := 19) (k' := 0) (a := [.ref 0, .int 0]) (rr := []) dX11_lettersAt_16 rfl rfl rfl rfl (rc_of rfl rfl (by decide) ⟨rfl, by decide⟩) (Nat.le_of_ble_eq_true rfl) (Nat.le_of_ble_eq_true rfl) (by decide) (Ev.i (show rfS 0 = 0 by decide) (x_refused)) (Or.inl rfl) rfl ?_
  refine we_if_eq (t := 24) (p := 22) dX11_lettersAt_19 (by decide) rfl rfl (fun hc19 => ?_) (fun hc19 => absurd (by decide) hc19)
  refine we_aload_n (p := 25) dX11_lettersAt_24 rfl rfl ?_
  refine we_getR (c := 10) (j := 6) (n := 13) (b := 72) (p := 28) dX11_lettersAt_25 rfl rfl (by decide) (by decide) rfl (r_0_6 hF) rfl ?_
  refine we_aload_n (p := 29) dX11_lettersAt_28 rfl rfl ?_
  refine we_getR (c := 10) (j := 2) (n := 13) (b := o) (p := 32) dX11_lettersAt_29 rfl rfl (by decide) (by decide) rfl hoF rfl ?_
  refine we_aload_n (p := 33) dX11_lettersAt_32 rfl rfl ?_
  refine we_getR (c := 10) (j := 3) (n := 13) (b := 42) (p := 36) dX11_lettersAt_33 rfl rfl (by decide) (by decide) rfl (r_0_3 hF) rfl ?_
  refine we_iload_n (p := 37) dX11_lettersAt_36 rfl rfl ?_
  obtain ⟨_, _, e1, rfl, I1, J1, F1, rfl, ⟨f1, rfl, rfl, hg⟩⟩ := x_pseek (I := (hp_u I 0 10 0)) (n := n) ho hF (oC_u hC ho (by decide)) hW (mo_u hm (by decide)) hS ht1 hn (f := I 73) (hu_ne (by decide))
  refine we_callV_v (p := 40) (k' := 8) (a := [.ref 72, .ref o, .ref 42, .int (nI n)]) (rr := []) dX11_lettersAt_37 rfl rfl rfl rfl (rc_of rfl rfl (by decide) ⟨rfl, by decide⟩) (Nat.le_of_ble_eq_true rfl) (Nat.le_of_ble_eq_true rfl) (by decide) e1 (Or.inl rfl) rfl ?_
  refine we_aload_n (p := 41) dX11_lettersAt_40 rfl rfl ?_
  refine we_getR (c := 10) (j := 6) (n := 13) (b := 72) (p := 44) dX11_lettersAt_41 rfl rfl (by decide) (by decide) rfl (r_0_6 hF) rfl ?_
  refine we_getR (c := 6) (j := 0) (n := 6) (b := 73) (p := 47) dX11_lettersAt_44 rfl rfl (by decide) (by decide) rfl (r_72_0 hF) rfl ?_
  refine we_iload_n (p := 48) dX11_lettersAt_47 rfl rfl ?_
  refine wf_iald (n := 5) (i := i) (v := (post0 D s n (I 73)).2 i) (p := 49) dX11_lettersAt_48 rfl (by decide) (in_nJ (by omega) (by decide)) (nI_cl (by omega)) (hg.2.2.1 i (by omega)) rfl ?_
  exact wi_ret dX11_lettersAt_49 rfl rfl (by decide) (⟨rfl, _, _, _, rfl, f1.wd (by omega) (by omega), Fr.rf, rfl⟩)
