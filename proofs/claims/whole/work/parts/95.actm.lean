/-! Acts: the reference. -/
def undM (I : Nat → Nat → Int32) (K : Nat) (U : Nat → Nat → Int32) : Prop := ∀ i, i < K → ∀ j, j < 6 → I 101 (6 * i + j) = U i j
def shI (I : Nat → Nat → Int32) (j : Nat) : Nat → Nat → Int32 := fun x i => if x = 101 ∧ i < j then I 101 (i + 6) else I x i
theorem sh_0 {I : Nat → Nat → Int32} : shI I 0 = I := by
  funext x i
  exact if_neg (fun z => by omega)
theorem sh_ne {I : Nat → Nat → Int32} {j x : Nat} (h : x ≠ 101) : shI I j x = I x := by
  funext i
  exact if_neg (fun z => h z.1)
theorem sh_ge {I : Nat → Nat → Int32} {j i : Nat} (h : j ≤ i) : shI I j 101 i = I 101 i := if_neg (fun z => by omega)
theorem sh_s {I : Nat → Nat → Int32} {j : Nat} : hp_u (shI I j) 101 j (shI I j 101 (j + 6)) = shI I (j + 1) := by
  rw [sh_ge (by omega)]
  funext x i
  unfold hp_u shI
  by_cases c : x = 101
  · rw [if_pos c]
    by_cases c2 : i = j
    · rw [if_pos c2, if_pos ⟨c, by omega⟩, c2]
    · rw [if_neg c2]
      by_cases c3 : i < j
      · rw [if_pos ⟨c, c3⟩, if_pos ⟨c, by omega⟩]
      · rw [if_neg (fun z => c3 z.2), if_neg (fun z => by omega)]
  · rw [if_neg c, if_neg (fun z => c z.1), if_neg (fun z => c z.1)]
def AcN (I I' : Nat → Nat → Int32) (K' : Nat) (U' : Nat → Nat → Int32) : Prop := (∀ p, p ≠ 95 → p ≠ 101 → I' p = I p) ∧ (∀ j, j ≠ 20 → I' 95 j = I 95 j) ∧ I' 95 20 = nI K' ∧ undM I' K' U'
theorem note_16 {I : Nat → Nat → Int32} {U : Nat → Nat → Int32} {s : Nat → Int32} (hs : stM I s) (hU : undM I 16 U) {x y : Int32} (hy : y = 16) : AcN I (hp_u (cpI (hp_u (shI I 90) 95 20 x) 100 0 101 90 6) 95 20 y) (kpN 16) (kpU 16 U s) := by
  refine ⟨fun p h1 h2 => ?_, fun j hj => ?_, ?_, fun i hi j hj => ?_⟩
  · rw [hu_ne h1, cp_ne h2, hu_ne h1, sh_ne h2]
  · rw [hu_nj hj, cp_ne (by decide), hu_nj hj, sh_ne (by decide)]
  · rw [hu_eq, hy]
    rfl
  · have hi : i < 16 := hi
    rw [hu_ne (by decide)]
    unfold kpU
    by_cases c : i = 15
    · subst c
      rw [cp_in (by omega) (by omega), hu_ne (by decide), sh_ne (by decide), show 0 + (6 * 15 + j - 90) = j by omega]
      exact hs j hj
    · rw [cp_out (by omega), hu_ne (by decide)]
      simp only [c, ↓reduceIte]
      have e : shI I 90 101 (6 * i + j) = I 101 (6 * i + j + 6) := if_pos ⟨rfl, by omega⟩
      rw [e, show 6 * i + j + 6 = 6 * (i + 1) + j by omega]
      exact hU (i + 1) (by omega) j hj
theorem note_lt {I : Nat → Nat → Int32} {K : Nat} {U : Nat → Nat → Int32} {s : Nat → Int32} (hK : K < 16) (hs : stM I s) (hU : undM I K U) : AcN I (hp_u (cpI I 100 0 101 (6 * K) 6) 95 20 (nI K + 1)) (kpN K) (kpU K U s) := by
  refine ⟨fun p h1 h2 => ?_, fun j hj => ?_, ?_, fun i hi j hj => ?_⟩
  · rw [hu_ne h1, cp_ne h2]
  · rw [hu_nj hj, cp_ne (by decide)]
  · rw [hu_eq, nI_1]
    unfold kpN
    rw [if_neg (by omega)]
  · unfold kpN at hi
    rw [if_neg (by omega)] at hi
    rw [hu_ne (by decide)]
    unfold kpU
    rw [if_neg (by omega)]
    by_cases c : i = K
    · subst c
      rw [cp_in (by omega) (by omega), show 0 + (6 * i + j - 6 * i) = j by omega]
      simp only [↓reduceIte]
      exact hs j hj
    · rw [cp_out (by omega)]
      simp only [c, ↓reduceIte]
      exact hU i (by omega) j hj
set_option maxRecDepth 10000 in
theorem y_note_L {I : Nat → Nat → Int32} {J : Nat → Nat → Int64} {F : Nat → Nat → Option Nat} {nc ns : Nat} (hF : RFok F) {r : Option Value} {h' : hp_H} : ∀ (m j : Nat), j + m = 90 → Ev 1 mX12_note 38 [.ref 95, .int (nI 90)] [] ((SH, nc, ns), shI I 90, J, F) r h' → Ev 1 mX12_note 11 [.ref 95, .int (nI j)] [] ((SH, nc, ns), shI I j, J, F) r h'
  | 0, j, hj => fun q => by
    obtain rfl : j = 90 := by omega
    refine e_iload_n (p := 12) dX12_note_11 rfl rfl ?_
    refine e_bipush (v := 90) (p := 14) dX12_note_12 (by decide) rfl ?_
    refine e_icmp_ge (t := 38) (p := 17) dX12_note_14 (by decide) rfl rfl (fun hc14 => ?_) (fun hc14 => absurd (nI_le (a := 90) (b := 90) (by omega) (by omega)) hc14)
    exact q
  | m + 1, j, hj => fun q => by
    refine e_iload_n (p := 12) dX12_note_11 rfl rfl ?_
    refine e_bipush (v := 90) (p := 14) dX12_note_12 (by decide) rfl ?_
    refine e_icmp_ge (t := 38) (p := 17) dX12_note_14 (by decide) rfl rfl (fun hc14 => absurd hc14 (nI_ge (a := j) (b := 90) (by omega) (by omega))) (fun hc14 => ?_)
    refine e_aload_n (p := 18) dX12_note_17 rfl rfl ?_
    refine e_getR (c := 11) (j := 18) (n := 37) (b := 101) (p := 21) dX12_note_18 rfl rfl (by decide) (by decide) rfl (r_95_18 hF) rfl ?_
    refine e_iload_n (p := 22) dX12_note_21 rfl rfl ?_
    refine e_aload_n (p := 23) dX12_note_22 rfl rfl ?_
    refine e_getR (c := 11) (j := 18) (n := 37) (b := 101) (p := 26) dX12_note_23 rfl rfl (by decide) (by decide) rfl (r_95_18 hF) rfl ?_
    refine e_iload_n (p := 27) dX12_note_26 rfl rfl ?_
    refine e_bipush (v := 6) (p := 29) dX12_note_27 (by decide) rfl ?_
    refine e_iadd (p := 30) dX12_note_29 rfl ?_
    refine f_iald (n := 96) (i := (j + 6)) (v := (shI I j) 101 (j + 6)) (p := 31) dX12_note_30 rfl (by decide) (in_ix (nI_add j 6) (by omega) (by decide)) (cl_ix (nI_add j 6) (by omega)) rfl rfl ?_
    refine f_iast (n := 96) (i := j) (p := 32) dX12_note_31 rfl (by decide) (in_nJ (by omega) (by decide)) (nI_cl (by omega)) rfl ?_
    refine e_iinc (ls1 := [.ref 95, .int ((nI j) + 1)]) (p := 35) dX12_note_32 rfl rfl rfl ?_
    refine e_goto (p := 11) dX12_note_35 (by decide) rfl ?_
    rw [sh_s, nI_1]
    exact y_note_L hF m (j + 1) (by omega) q
set_option maxRecDepth 10000 in
theorem y_note_16 {I : Nat → Nat → Int32} {J : Nat → Nat → Int64} {F : Nat → Nat → Option Nat} {nc ns : Nat} (hF : RFok F) (hk : I 95 20 = 16)  : Ev 1 mX12_note 0 [.ref 95, .null] [] ((SH, nc, ns), I, J, F) (none) ((SH, nc, ns), hp_u (cpI (hp_u (shI I 90) 95 20 (16 - 1)) 100 0 101 90 6) 95 20 (15 + 1), J, F) := by
  refine e_aload_n (p := 1) dX12_note_0 rfl rfl ?_
  refine f_getI (c := 11) (j := 20) (n := 37) (v := 16) (p := 4) dX12_note_1 rfl rfl (by decide) (by decide) (Or.inl rfl) hk rfl ?_
  refine e_bipush (v := 16) (p := 6) dX12_note_4 (by decide) rfl ?_
  refine e_icmp_ne (t := 48) (p := 9) dX12_note_6 (by decide) rfl rfl (fun hc6 => absurd (by decide) hc6) (fun hc6 => ?_)
  refine e_iconst (v := 0) (p := 10) dX12_note_9 (by decide) rfl ?_
  refine e_istore_n (ls1 := [.ref 95, .int 0]) (p := 11) dX12_note_10 rfl rfl ?_
  refine Ev.h0 (by rw [sh_0]) (y_note_L hF 90 0 (by omega) ?_)
  refine e_aload_n (p := 39) dX12_note_38 rfl rfl ?_
  refine e_dup_ref (p := 40) dX12_note_39 rfl ?_
  refine f_getI (c := 11) (j := 20) (n := 37) (v := 16) (p := 43) dX12_note_40 rfl rfl (by decide) (by decide) (Or.inl rfl) ((congrFun (sh_ne (by decide)) 20).trans hk) rfl ?_
  refine e_iconst (v := 1) (p := 44) dX12_note_43 (by decide) rfl ?_
  refine e_isub (p := 45) dX12_note_44 rfl ?_
  refine e_putI (c := 11) (j := 20) (n := 37)  (p := 48) dX12_note_45 rfl rfl (by decide) (by decide) rfl rfl rfl ?_
  refine e_aload_n (p := 49) dX12_note_48 rfl rfl ?_
  refine e_getR (c := 11) (j := 17) (n := 37) (b := 100) (p := 52) dX12_note_49 rfl rfl (by decide) (by decide) rfl (r_95_17 hF) rfl ?_
  refine e_iconst (v := 0) (p := 53) dX12_note_52 (by decide) rfl ?_
  refine e_aload_n (p := 54) dX12_note_53 rfl rfl ?_
  refine e_getR (c := 11) (j := 18) (n := 37) (b := 101) (p := 57) dX12_note_54 rfl rfl (by decide) (by decide) rfl (r_95_18 hF) rfl ?_
  refine e_bipush (v := 6) (p := 59) dX12_note_57 (by decide) rfl ?_
  refine e_aload_n (p := 60) dX12_note_59 rfl rfl ?_
  refine f_getI (c := 11) (j := 20) (n := 37) (v := 15) (p := 63) dX12_note_60 rfl rfl (by decide) (by decide) (Or.inl rfl) (hu_eq.trans (by decide)) rfl ?_
  refine e_imul (p := 64) dX12_note_63 rfl ?_
  refine e_bipush (v := 6) (p := 66) dX12_note_64 (by decide) rfl ?_
  refine e_callS_v (p := 69) (k' := 0) (a := [.ref 100, .int 0, .ref 101, .int (6 * 15), .int 6]) (rr := []) dX12_note_66 rfl rfl rfl rfl rfl (rc_st rfl) (Nat.le_of_ble_eq_true rfl) (Nat.le_of_ble_eq_true rfl) (by decide) (y_copyE (p := 100) (a := 0) (q := 101) (b := 90) (n := 6) rfl (by decide) rfl (by decide) (by decide) (by omega) (by omega) (by decide) (by decide) rfl (by decide) rfl) (Or.inl rfl) rfl ?_
  refine e_aload_n (p := 70) dX12_note_69 rfl rfl ?_
  refine e_dup_ref (p := 71) dX12_note_70 rfl ?_
  refine f_getI (c := 11) (j := 20) (n := 37) (v := 15) (p := 74) dX12_note_71 rfl rfl (by decide) (by decide) (Or.inl rfl) ((congrFun (cp_ne (by decide)) 20).trans (hu_eq.trans (by decide))) rfl ?_
  refine e_iconst (v := 1) (p := 75) dX12_note_74 (by decide) rfl ?_
  refine e_iadd (p := 76) dX12_note_75 rfl ?_
  refine e_putI (c := 11) (j := 20) (n := 37)  (p := 79) dX12_note_76 rfl rfl (by decide) (by decide) rfl rfl rfl ?_
  exact e_vretE dX12_note_79 rfl rfl
set_option maxRecDepth 10000 in
theorem y_note_lt {I : Nat → Nat → Int32} {J : Nat → Nat → Int64} {F : Nat → Nat → Option Nat} {nc ns : Nat} {K : Nat} (hF : RFok F) (hK : K < 16) (hk : I 95 20 = nI K)  : Ev 1 mX12_note 0 [.ref 95, .null] [] ((SH, nc, ns), I, J, F) (none) ((SH, nc, ns), hp_u (cpI I 100 0 101 (6 * K) 6) 95 20 (nI K + 1), J, F) := by
  refine e_aload_n (p := 1) dX12_note_0 rfl rfl ?_
  refine f_getI (c := 11) (j := 20) (n := 37) (v := nI K) (p := 4) dX12_note_1 rfl rfl (by decide) (by decide) (Or.inl rfl) hk rfl ?_
  refine e_bipush (v := 16) (p := 6) dX12_note_4 (by decide) rfl ?_
  refine e_icmp_ne (t := 48) (p := 9) dX12_note_6 (by decide) rfl rfl (fun hc6 => ?_) (fun hc6 => absurd hc6 (fun z => absurd ((nI_eq (a := K) (b := 16) (by omega) (by omega)).mp z) (by omega)))
  refine e_aload_n (p := 49) dX12_note_48 rfl rfl ?_
  refine e_getR (c := 11) (j := 17) (n := 37) (b := 100) (p := 52) dX12_note_49 rfl rfl (by decide) (by decide) rfl (r_95_17 hF) rfl ?_
  refine e_iconst (v := 0) (p := 53) dX12_note_52 (by decide) rfl ?_
  refine e_aload_n (p := 54) dX12_note_53 rfl rfl ?_
  refine e_getR (c := 11) (j := 18) (n := 37) (b := 101) (p := 57) dX12_note_54 rfl rfl (by decide) (by decide) rfl (r_95_18 hF) rfl ?_
  refine e_bipush (v := 6) (p := 59) dX12_note_57 (by decide) rfl ?_
  refine e_aload_n (p := 60) dX12_note_59 rfl rfl ?_
  refine f_getI (c := 11) (j := 20) (n := 37) (v := nI K) (p := 63) dX12_note_60 rfl rfl (by decide) (by decide) (Or.inl rfl) hk rfl ?_
  refine e_imul (p := 64) dX12_note_63 rfl ?_
  refine e_bipush (v := 6) (p := 66) dX12_note_64 (by decide) rfl ?_
  refine e_callS_v (p := 69) (k' := 0) (a := [.ref 100, .int 0, .ref 101, .int (6 * (nI K)), .int 6]) (rr := []) dX12_note_66 rfl rfl rfl rfl rfl (rc_st rfl) (Nat.le_of_ble_eq_true rfl) (Nat.le_of_ble_eq_true rfl) (by decide) (y_copyE (p := 100) (a := 0) (q := 101) (b := (6 * K)) (n := 6) rfl (by decide) rfl (by decide) (by decide) (by omega) (by omega) (by decide) (by decide) rfl (pk_mul 6 K) rfl) (Or.inl rfl) rfl ?_
  refine e_aload_n (p := 70) dX12_note_69 rfl rfl ?_
  refine e_dup_ref (p := 71) dX12_note_70 rfl ?_
  refine f_getI (c := 11) (j := 20) (n := 37) (v := nI K) (p := 74) dX12_note_71 rfl rfl (by decide) (by decide) (Or.inl rfl) ((congrFun (cp_ne (by decide)) 20).trans hk) rfl ?_
  refine e_iconst (v := 1) (p := 75) dX12_note_74 (by decide) rfl ?_
  refine e_iadd (p := 76) dX12_note_75 rfl ?_
  refine e_putI (c := 11) (j := 20) (n := 37)  (p := 79) dX12_note_76 rfl rfl (by decide) (by decide) rfl rfl rfl ?_
  exact e_vretE dX12_note_79 rfl rfl
theorem y_note {I : Nat → Nat → Int32} {J : Nat → Nat → Int64} {F : Nat → Nat → Option Nat} {nc ns : Nat} {K : Nat} {U : Nat → Nat → Int32} {s : Nat → Int32} (hF : RFok F) (hK : K ≤ 16) (hk : I 95 20 = nI K) (hs : stM I s) (hU : undM I K U) : Ew 1 mX12_note 0 [.ref 95, .null] [] ((SH, nc, ns), I, J, F) (Ret nc ns none (fun I' J' F' => J' = J ∧ F' = F ∧ AcN I I' (kpN K) (kpU K U s))) := by
  by_cases c : K = 16
  · subst c
    exact (y_note_16 hF hk).w ⟨rfl, _, _, _, rfl, rfl, rfl, note_16 hs hU (by decide)⟩
  · exact (y_note_lt hF (by omega) hk).w ⟨rfl, _, _, _, rfl, rfl, rfl, note_lt (by omega) hs hU⟩
def AcM (I I' : Nat → Nat → Int32) (t : Int32) (s' : Nat → Int32) (K' : Nat) (U' : Nat → Nat → Int32) : Prop := (∀ p, p ≠ 95 → p ≠ 100 → p ≠ 101 → I' p = I p) ∧ (∀ j, j ≠ 0 → j ≠ 11 → j ≠ 20 → j ≠ 35 → I' 95 j = I 95 j) ∧ I' 95 11 = t ∧ stM I' s' ∧ I' 95 20 = nI K' ∧ undM I' K' U'
theorem AcN.m {I I1 X : Nat → Nat → Int32} {t : Int32} {s' : Nat → Int32} {K' : Nat} {U' : Nat → Nat → Int32} (h : AcN (hp_u (hp_u I 95 0 0) 95 11 t) I1 K' U') (h1 : ∀ p, p ≠ 95 → p ≠ 100 → X p = I1 p) (h2 : ∀ j, j ≠ 35 → X 95 j = I1 95 j) (hs : stM X s') : AcM I X t s' K' U' := by
  obtain ⟨a1, a2, a3, a4⟩ := h
  refine ⟨fun p q1 q2 q3 => ?_, fun j q1 q2 q3 q4 => ?_, ?_, hs, ?_, fun i hi j hj => ?_⟩
  · rw [h1 p q1 q2, a1 p q1 q3, hu_ne q1, hu_ne q1]
  · rw [h2 j q4, a2 j q3, hu_nj q2, hu_nj q1]
  · rw [h2 11 (by decide), a2 11 (by decide), hu_eq]
  · rw [h2 20 (by decide)]
    exact a3
  · rw [h1 101 (by decide) (by decide)]
    exact a4 i hi j hj
set_option maxRecDepth 10000 in
theorem q_sail_no1 {I : Nat → Nat → Int32} {J : Nat → Nat → Int64} {F : Nat → Nat → Option Nat} {nc ns : Nat} {D : oD} (hF : RFok F) (hM : oM I 98 D) (hW : WF D) (hO : I 95 14 = tol D) {s : Nat → Int32} (hs : stM I s) {v : Int32} (hx : ixB v (dN D 0) = 0)  : Ev 2 mX12_sail 0 [.ref 95, .int v] [] ((SH, nc, ns), I, J, F) (some (.int (-1))) ((SH, nc, ns), hp_u (hp_u I 95 0 0) 95 11 1, J, F) := by
  have hD := hW.c
  have hH := hW.h
  have hT := hW.t
  have bt := hT.2
  obtain ⟨b0, b1, b2, b3, b4, b5, b6⟩ := hD.2
  refine e_aload_n (p := 1) dX12_sail_0 rfl rfl ?_
  refine e_callV_v (p := 4) (k' := 0) (a := [.ref 95]) (rr := []) dX12_sail_1 rfl rfl rfl rfl (rc_of rfl rfl (by decide) ⟨rfl, by decide⟩) (Nat.le_of_ble_eq_true rfl) (Nat.le_of_ble_eq_true rfl) (by decide) y_good (Or.inl rfl) rfl ?_
  refine e_aload_n (p := 5) dX12_sail_4 rfl rfl ?_
  refine e_iload_n (p := 6) dX12_sail_5 rfl rfl ?_
  refine e_callV_int (p := 9) (k' := 1) (a := [.ref 95, .int v]) (rr := []) dX12_sail_6 rfl rfl rfl rfl (rc_of rfl rfl (by decide) ⟨rfl, by decide⟩) (Nat.le_of_ble_eq_true rfl) (Nat.le_of_ble_eq_true rfl) (by decide) (y_isHarbour hF (oM_u (oM_u hM (by decide)) (by decide)) hW (I_u (I_u hO (by decide)) (by decide)) ) (Or.inl rfl) rfl ?_
  refine e_if_ne (t := 18) (p := 12) dX12_sail_9 (by decide) rfl rfl (fun hc9 => absurd hx hc9) (fun hc9 => ?_)
  refine e_aload_n (p := 13) dX12_sail_12 rfl rfl ?_
  refine e_iconst (v := 1) (p := 14) dX12_sail_13 (by decide) rfl ?_
  refine e_callV_int (p := 17) (k' := 0) (a := [.ref 95, .int 1]) (rr := []) dX12_sail_14 rfl rfl rfl rfl (rc_of rfl rfl (by decide) ⟨rfl, by decide⟩) (Nat.le_of_ble_eq_true rfl) (Nat.le_of_ble_eq_true rfl) (by decide) y_no (Or.inl rfl) rfl ?_
  exact e_iretE dX12_sail_17 rfl rfl (by decide) ⟨rfl, hpq rfl⟩
set_option maxRecDepth 10000 in
theorem q_sail_no {I : Nat → Nat → Int32} {J : Nat → Nat → Int64} {F : Nat → Nat → Option Nat} {nc ns : Nat} {D : oD} (hF : RFok F) (hM : oM I 98 D) (hW : WF D) (hO : I 95 14 = tol D) {s : Nat → Int32} (hs : stM I s) (hS : WFs D s) {h : Nat} (hh : h < dN D 0) (ht : ¬ (if s 2 ≤ 0 then (if canS D (s 1).toNatClampNeg (nI h) = 0 then 5 else if s 0 = 30 then 3 else 0) else 5) = 0) : Ev 2 mX12_sail 0 [.ref 95, .int (nI h)] [] ((SH, nc, ns), I, J, F) (some (.int (-1))) ((SH, nc, ns), hp_u (hp_u I 95 0 0) 95 11 (if s 2 ≤ 0 then (if canS D (s 1).toNatClampNeg (nI h) = 0 then 5 else if s 0 = 30 then 3 else 0) else 5), J, F) := by
  have hD := hW.c
  have hH := hW.h
  have hT := hW.t
  have bt := hT.2
  obtain ⟨b0, b1, b2, b3, b4, b5, b6⟩ := hD.2
  have hat := hS.at6
  refine e_aload_n (p := 1) dX12_sail_0 rfl rfl ?_
  refine e_callV_v (p := 4) (k' := 0) (a := [.ref 95]) (rr := []) dX12_sail_1 rfl rfl rfl rfl (rc_of rfl rfl (by decide) ⟨rfl, by decide⟩) (Nat.le_of_ble_eq_true rfl) (Nat.le_of_ble_eq_true rfl) (by decide) y_good (Or.inl rfl) rfl ?_
  refine e_aload_n (p := 5) dX12_sail_4 rfl rfl ?_
  refine e_iload_n (p := 6) dX12_sail_5 rfl rfl ?_
  refine e_callV_int (p := 9) (k' := 1) (a := [.ref 95, .int (nI h)]) (rr := []) dX12_sail_6 rfl rfl rfl rfl (rc_of rfl rfl (by decide) ⟨rfl, by decide⟩) (Nat.le_of_ble_eq_true rfl) (Nat.le_of_ble_eq_true rfl) (by decide) (Ev.i (ixB_ok (by omega) (by omega)) (y_isHarbour hF (oM_u (oM_u hM (by decide)) (by decide)) hW (I_u (I_u hO (by decide)) (by decide)) )) (Or.inl rfl) rfl ?_
  refine e_if_ne (t := 18) (p := 12) dX12_sail_9 (by decide) rfl rfl (fun hc9 => ?_) (fun hc9 => absurd hc9 (by decide))
  refine e_aload_n (p := 19) dX12_sail_18 rfl rfl ?_
  refine e_getR (c := 11) (j := 17) (n := 37) (b := 100) (p := 22) dX12_sail_19 rfl rfl (by decide) (by decide) rfl (r_95_17 hF) rfl ?_
  refine e_iconst (v := 2) (p := 23) dX12_sail_22 (by decide) rfl ?_
  refine f_iald (n := 6) (i := 2) (v := s 2) (p := 24) dX12_sail_23 rfl (by decide) (by decide) (by decide) ((stM_u (stM_u hs (by decide)) (by decide)) 2 (by decide)) rfl ?_
  refine e_if_gt (t := 41) (p := 27) dX12_sail_24 (by decide) rfl rfl (fun hc24 => ?_) (fun hc24 => ?_)
  · skip
    refine e_aload_n (p := 42) dX12_sail_41 rfl rfl ?_
    refine e_iconst (v := 5) (p := 43) dX12_sail_42 (by decide) rfl ?_
    refine e_callV_int (p := 46) (k' := 0) (a := [.ref 95, .int 5]) (rr := []) dX12_sail_43 rfl rfl rfl rfl (rc_of rfl rfl (by decide) ⟨rfl, by decide⟩) (Nat.le_of_ble_eq_true rfl) (Nat.le_of_ble_eq_true rfl) (by decide) y_no (Or.inl rfl) rfl ?_
    exact e_iretE dX12_sail_46 rfl rfl (by decide) ⟨rfl, hpq (by first | (simp only [hc24, (Int32.not_le.mpr hc24), ↓reduceIte]; done) | (exfalso; simp_all; done))⟩
  · skip
    refine e_aload_n (p := 28) dX12_sail_27 rfl rfl ?_
    refine e_aload_n (p := 29) dX12_sail_28 rfl rfl ?_
    refine e_getR (c := 11) (j := 17) (n := 37) (b := 100) (p := 32) dX12_sail_29 rfl rfl (by decide) (by decide) rfl (r_95_17 hF) rfl ?_
    refine e_iconst (v := 1) (p := 33) dX12_sail_32 (by decide) rfl ?_
    refine f_iald (n := 6) (i := 1) (v := s 1) (p := 34) dX12_sail_33 rfl (by decide) (by decide) (by decide) ((stM_u (stM_u hs (by decide)) (by decide)) 1 (by decide)) rfl ?_
    refine e_iload_n (p := 35) dX12_sail_34 rfl rfl ?_
    refine e_callV_int (p := 38) (k' := 1) (a := [.ref 95, .int (s 1), .int (nI h)]) (rr := []) dX12_sail_35 rfl rfl rfl rfl (rc_of rfl rfl (by decide) ⟨rfl, by decide⟩) (Nat.le_of_ble_eq_true rfl) (Nat.le_of_ble_eq_true rfl) (by decide) (y_canBe hF (oM_u (oM_u hM (by decide)) (by decide)) hW hat.1 rfl hat.2.2 (by omega)) (Or.inl rfl) rfl ?_
    refine e_if_ne (t := 47) (p := 41) dX12_sail_38 (by decide) rfl rfl (fun hc38 => ?_) (fun hc38 => ?_)
    · skip
      refine e_aload_n (p := 48) dX12_sail_47 rfl rfl ?_
      refine e_getR (c := 11) (j := 17) (n := 37) (b := 100) (p := 51) dX12_sail_48 rfl rfl (by decide) (by decide) rfl (r_95_17 hF) rfl ?_
      refine e_iconst (v := 0) (p := 52) dX12_sail_51 (by decide) rfl ?_
      refine f_iald (n := 6) (i := 0) (v := s 0) (p := 53) dX12_sail_52 rfl (by decide) (by decide) (by decide) ((stM_u (stM_u hs (by decide)) (by decide)) 0 (by decide)) rfl ?_
      refine e_bipush (v := 30) (p := 55) dX12_sail_53 (by decide) rfl ?_
      refine e_icmp_ne (t := 64) (p := 58) dX12_sail_55 (by decide) rfl rfl (fun hc55 => ?_) (fun hc55 => ?_)
      · skip
        first | (refine absurd ?_ ht; simp only [hc24, hc38, hc55, (Int32.not_lt.mp hc24), ↓reduceIte]; done) | (exfalso; simp_all; done)
      · skip
        refine e_aload_n (p := 59) dX12_sail_58 rfl rfl ?_
        refine e_iconst (v := 3) (p := 60) dX12_sail_59 (by decide) rfl ?_
        refine e_callV_int (p := 63) (k' := 0) (a := [.ref 95, .int 3]) (rr := []) dX12_sail_60 rfl rfl rfl rfl (rc_of rfl rfl (by decide) ⟨rfl, by decide⟩) (Nat.le_of_ble_eq_true rfl) (Nat.le_of_ble_eq_true rfl) (by decide) y_no (Or.inl rfl) rfl ?_
        exact e_iretE dX12_sail_63 rfl rfl (by decide) ⟨rfl, hpq (by first | (simp only [hc24, hc38, hc55, (Int32.not_lt.mp hc24), ↓reduceIte]; done) | (exfalso; simp_all; done))⟩
    · skip
      refine e_aload_n (p := 42) dX12_sail_41 rfl rfl ?_
      refine e_iconst (v := 5) (p := 43) dX12_sail_42 (by decide) rfl ?_
      refine e_callV_int (p := 46) (k' := 0) (a := [.ref 95, .int 5]) (rr := []) dX12_sail_43 rfl rfl rfl rfl (rc_of rfl rfl (by decide) ⟨rfl, by decide⟩) (Nat.le_of_ble_eq_true rfl) (Nat.le_of_ble_eq_true rfl) (by decide) y_no (Or.inl rfl) rfl ?_
      exact e_iretE dX12_sail_46 rfl rfl (by decide) ⟨rfl, hpq (by first | (simp only [hc24, hc38, (Int32.not_lt.mp hc24), ↓reduceIte]; done) | (exfalso; simp_all; done))⟩
set_option maxRecDepth 10000 in
theorem q_sail_ok {I : Nat → Nat → Int32} {J : Nat → Nat → Int64} {F : Nat → Nat → Option Nat} {nc ns : Nat} {D : oD} (hF : RFok F) (hM : oM I 98 D) (hW : WF D) (hO : I 95 14 = tol D) {s : Nat → Int32} (hs : stM I s) (hS : WFs D s) {K : Nat} {U : Nat → Nat → Int32} (hK : K ≤ 16) (hk : I 95 20 = nI K) (hU : undM I K U) {h : Nat} (hh : h < dN D 0) (hfr : s 2 ≤ 0) (hcan : ¬ canS D (s 1).toNatClampNeg (nI h) = 0) (hl : ¬ s 0 = 30) : Ew 2 mX12_sail 0 [.ref 95, .int (nI h)] [] ((SH, nc, ns), I, J, F) (Ret nc ns (some (.int (s 0 + 1))) (fun I' J' F' => J' = J ∧ F' = F ∧ AcM I I' 0 (landS D s (nI h)) (kpN K) (kpU K U s))) := by
  have hD := hW.c
  have hH := hW.h
  have hT := hW.t
  have bt := hT.2
  obtain ⟨b0, b1, b2, b3, b4, b5, b6⟩ := hD.2
  have hat := hS.at6
  refine we_aload_n (p := 1) dX12_sail_0 rfl rfl ?_
  refine we_callV_v (p := 4) (k' := 0) (a := [.ref 95]) (rr := []) dX12_sail_1 rfl rfl rfl rfl (rc_of rfl rfl (by decide) ⟨rfl, by decide⟩) (Nat.le_of_ble_eq_true rfl) (Nat.le_of_ble_eq_true rfl) (by decide) y_good (Or.inl rfl) rfl ?_
  refine we_aload_n (p := 5) dX12_sail_4 rfl rfl ?_
  refine we_iload_n (p := 6) dX12_sail_5 rfl rfl ?_
  refine we_callV_int (p := 9) (k' := 1) (a := [.ref 95, .int (nI h)]) (rr := []) dX12_sail_6 rfl rfl rfl rfl (rc_of rfl rfl (by decide) ⟨rfl, by decide⟩) (Nat.le_of_ble_eq_true rfl) (Nat.le_of_ble_eq_true rfl) (by decide) (Ev.i (ixB_ok (by omega) (by omega)) (y_isHarbour hF (oM_u (oM_u hM (by decide)) (by decide)) hW (I_u (I_u hO (by decide)) (by decide)) )) (Or.inl rfl) rfl ?_
  refine we_if_ne (t := 18) (p := 12) dX12_sail_9 (by decide) rfl rfl (fun hc9 => ?_) (fun hc9 => absurd hc9 (by decide))
  refine we_aload_n (p := 19) dX12_sail_18 rfl rfl ?_
  refine we_getR (c := 11) (j := 17) (n := 37) (b := 100) (p := 22) dX12_sail_19 rfl rfl (by decide) (by decide) rfl (r_95_17 hF) rfl ?_
  refine we_iconst (v := 2) (p := 23) dX12_sail_22 (by decide) rfl ?_
  refine wf_iald (n := 6) (i := 2) (v := s 2) (p := 24) dX12_sail_23 rfl (by decide) (by decide) (by decide) ((stM_u (stM_u hs (by decide)) (by decide)) 2 (by decide)) rfl ?_
  refine we_if_gt (t := 41) (p := 27) dX12_sail_24 (by decide) rfl rfl (fun hc24 => absurd hc24 (Int32.not_lt.mpr hfr)) (fun hc24 => ?_)
  refine we_aload_n (p := 28) dX12_sail_27 rfl rfl ?_
  refine we_aload_n (p := 29) dX12_sail_28 rfl rfl ?_
  refine we_getR (c := 11) (j := 17) (n := 37) (b := 100) (p := 32) dX12_sail_29 rfl rfl (by decide) (by decide) rfl (r_95_17 hF) rfl ?_
  refine we_iconst (v := 1) (p := 33) dX12_sail_32 (by decide) rfl ?_
  refine wf_iald (n := 6) (i := 1) (v := s 1) (p := 34) dX12_sail_33 rfl (by decide) (by decide) (by decide) ((stM_u (stM_u hs (by decide)) (by decide)) 1 (by decide)) rfl ?_
  refine we_iload_n (p := 35) dX12_sail_34 rfl rfl ?_
  refine we_callV_int (p := 38) (k' := 1) (a := [.ref 95, .int (s 1), .int (nI h)]) (rr := []) dX12_sail_35 rfl rfl rfl rfl (rc_of rfl rfl (by decide) ⟨rfl, by decide⟩) (Nat.le_of_ble_eq_true rfl) (Nat.le_of_ble_eq_true rfl) (by decide) (y_canBe hF (oM_u (oM_u hM (by decide)) (by decide)) hW hat.1 rfl hat.2.2 (by omega)) (Or.inl rfl) rfl ?_
  refine we_if_ne (t := 47) (p := 41) dX12_sail_38 (by decide) rfl rfl (fun hc38 => ?_) (fun hc38 => absurd hc38 hcan)
  refine we_aload_n (p := 48) dX12_sail_47 rfl rfl ?_
  refine we_getR (c := 11) (j := 17) (n := 37) (b := 100) (p := 51) dX12_sail_48 rfl rfl (by decide) (by decide) rfl (r_95_17 hF) rfl ?_
  refine we_iconst (v := 0) (p := 52) dX12_sail_51 (by decide) rfl ?_
  refine wf_iald (n := 6) (i := 0) (v := s 0) (p := 53) dX12_sail_52 rfl (by decide) (by decide) (by decide) ((stM_u (stM_u hs (by decide)) (by decide)) 0 (by decide)) rfl ?_
  refine we_bipush (v := 30) (p := 55) dX12_sail_53 (by decide) rfl ?_
  refine we_icmp_ne (t := 64) (p := 58) dX12_sail_55 (by decide) rfl rfl (fun hc55 => ?_) (fun hc55 => absurd hc55 hl)
  refine we_aload_n (p := 65) dX12_sail_64 rfl rfl ?_
  obtain ⟨_, _, e1, rfl, I1, J1, F1, rfl, ⟨rfl, rfl, k1⟩⟩ := y_note (I := (hp_u (hp_u I 95 0 0) 95 11 0)) (K := K) (U := U) hF hK ((hu_nj (by decide)).trans ((hu_nj (by decide)).trans hk)) (stM_u (stM_u hs (by decide)) (by decide)) (fun i hi j hj => (congrFun ((hu_ne (by decide)).trans (hu_ne (by decide))) _).trans (hU i hi j hj))
  refine we_callV_v (p := 68) (k' := 1) (a := [.ref 95]) (rr := []) dX12_sail_65 rfl rfl rfl rfl (rc_of rfl rfl (by decide) ⟨rfl, by decide⟩) (Nat.le_of_ble_eq_true rfl) (Nat.le_of_ble_eq_true rfl) (by decide) e1 (Or.inl rfl) rfl ?_
  refine we_aload_n (p := 69) dX12_sail_68 rfl rfl ?_
  refine we_getR (c := 11) (j := 17) (n := 37) (b := 100) (p := 72) dX12_sail_69 rfl rfl (by decide) (by decide) rfl (r_95_17 hF) rfl ?_
  refine we_iconst (v := 0) (p := 73) dX12_sail_72 (by decide) rfl ?_
  refine we_dup2 (p := 74) dX12_sail_73 rfl ?_
  refine wf_iald (n := 6) (i := 0) (v := s 0) (p := 75) dX12_sail_74 rfl (by decide) (by decide) (by decide) (stM_fr (stM_u (stM_u hs (by decide)) (by decide)) (k1.1 100 (by decide) (by decide)) 0 (by decide)) rfl ?_
  refine we_iconst (v := 1) (p := 76) dX12_sail_75 (by decide) rfl ?_
  refine we_iadd (p := 77) dX12_sail_76 rfl ?_
  refine wf_iast (n := 6) (i := 0) (p := 78) dX12_sail_77 rfl (by decide) (by decide) (by decide) rfl ?_
  refine we_aload_n (p := 79) dX12_sail_78 rfl rfl ?_
  refine we_getR (c := 11) (j := 17) (n := 37) (b := 100) (p := 82) dX12_sail_79 rfl rfl (by decide) (by decide) rfl (r_95_17 hF) rfl ?_
  refine we_iconst (v := 1) (p := 83) dX12_sail_82 (by decide) rfl ?_
  refine we_iload_n (p := 84) dX12_sail_83 rfl rfl ?_
  refine wf_iast (n := 6) (i := 1) (p := 85) dX12_sail_84 rfl (by decide) (by decide) (by decide) rfl ?_
  refine we_aload_n (p := 86) dX12_sail_85 rfl rfl ?_
  refine we_getR (c := 11) (j := 17) (n := 37) (b := 100) (p := 89) dX12_sail_86 rfl rfl (by decide) (by decide) rfl (r_95_17 hF) rfl ?_
  refine we_iconst (v := 5) (p := 90) dX12_sail_89 (by decide) rfl ?_
  refine we_dup2 (p := 91) dX12_sail_90 rfl ?_
  refine wf_iald (n := 6) (i := 5) (v := s 5) (p := 92) dX12_sail_91 rfl (by decide) (by decide) (by decide) (I_u (I_u (stM_fr (stM_u (stM_u hs (by decide)) (by decide)) (k1.1 100 (by decide) (by decide)) 5 (by decide)) (by decide)) (by decide)) rfl ?_
  refine we_aload_n (p := 93) dX12_sail_92 rfl rfl ?_
  refine we_iload_n (p := 94) dX12_sail_93 rfl rfl ?_
  refine we_aload_n (p := 95) dX12_sail_94 rfl rfl ?_
  refine we_getR (c := 11) (j := 17) (n := 37) (b := 100) (p := 98) dX12_sail_95 rfl rfl (by decide) (by decide) rfl (r_95_17 hF) rfl ?_
  refine we_iconst (v := 0) (p := 99) dX12_sail_98 (by decide) rfl ?_
  refine wf_iald (n := 6) (i := 0) (v := (s 0) + 1) (p := 100) dX12_sail_99 rfl (by decide) (by decide) (by decide) (I_u hu_eq (by decide)) rfl ?_
  refine we_callV_int (p := 103) (k' := 0) (a := [.ref 95, .int (nI h), .int ((s 0) + 1)]) (rr := [.int (s 5), .int 5, .ref 100]) dX12_sail_100 rfl rfl rfl rfl (rc_of rfl rfl (by decide) ⟨rfl, by decide⟩) (Nat.le_of_ble_eq_true rfl) (Nat.le_of_ble_eq_true rfl) (by decide) (y_lettersTo hF (oM_u (oM_u (oM_fr (oM_u (oM_u hM (by decide)) (by decide)) (k1.1 98 (by decide) (by decide))) (by decide)) (by decide)) hW ) (Or.inl rfl) rfl ?_
  refine we_ior (p := 104) dX12_sail_103 rfl ?_
  refine wf_iast (n := 6) (i := 5) (p := 105) dX12_sail_104 rfl (by decide) (by decide) (by decide) rfl ?_
  refine we_aload_n (p := 106) dX12_sail_105 rfl rfl ?_
  refine we_getR (c := 11) (j := 17) (n := 37) (b := 100) (p := 109) dX12_sail_106 rfl rfl (by decide) (by decide) rfl (r_95_17 hF) rfl ?_
  refine we_iconst (v := 0) (p := 110) dX12_sail_109 (by decide) rfl ?_
  refine wf_iald (n := 6) (i := 0) (v := (s 0) + 1) (p := 111) dX12_sail_110 rfl (by decide) (by decide) (by decide) (I_u (I_u hu_eq (by decide)) (by decide)) rfl ?_
  exact wi_ret dX12_sail_111 rfl rfl (by decide) (⟨rfl, _, _, _, rfl, rfl, rfl, k1.m (fun p h1 h2 => by rw [hu_ne h2, hu_ne h2, hu_ne h2]) (fun j _ => by rw [hu_ne (by decide), hu_ne (by decide), hu_ne (by decide)]) (fun i hi => by
    have h1 := stM_fr (stM_u (stM_u hs (by decide)) (by decide)) (k1.1 100 (by decide) (by decide))
    rcases (by omega : i = 0 ∨ i = 1 ∨ i = 2 ∨ i = 3 ∨ i = 4 ∨ i = 5) with rfl | rfl | rfl | rfl | rfl | rfl <;> simp [hu_if, landS] <;> exact h1 _ (by decide))⟩)
set_option maxRecDepth 10000 in
theorem q_court_no1 {I : Nat → Nat → Int32} {J : Nat → Nat → Int64} {F : Nat → Nat → Option Nat} {nc ns : Nat} {D : oD} (hF : RFok F) (hM : oM I 98 D) (hW : WF D) (hO : I 95 14 = tol D) {s : Nat → Int32} (hs : stM I s) {v : Int32} (hx : ixB v (dN D 2) = 0)  : Ev 6 mX12_court 0 [.ref 95, .int v, .null] [] ((SH, nc, ns), I, J, F) (some (.int (-1))) ((SH, nc, ns), hp_u (hp_u I 95 0 0) 95 11 1, J, F) := by
  have hD := hW.c
  have hH := hW.h
  have hT := hW.t
  have bt := hT.2
  obtain ⟨b0, b1, b2, b3, b4, b5, b6⟩ := hD.2
  refine e_aload_n (p := 1) dX12_court_0 rfl rfl ?_
  refine e_callV_v (p := 4) (k' := 0) (a := [.ref 95]) (rr := []) dX12_court_1 rfl rfl rfl rfl (rc_of rfl rfl (by decide) ⟨rfl, by decide⟩) (Nat.le_of_ble_eq_true rfl) (Nat.le_of_ble_eq_true rfl) (by decide) y_good (Or.inl rfl) rfl ?_
  refine e_aload_n (p := 5) dX12_court_4 rfl rfl ?_
  refine e_iload_n (p := 6) dX12_court_5 rfl rfl ?_
  refine e_callV_int (p := 9) (k' := 1) (a := [.ref 95, .int v]) (rr := []) dX12_court_6 rfl rfl rfl rfl (rc_of rfl rfl (by decide) ⟨rfl, by decide⟩) (Nat.le_of_ble_eq_true rfl) (Nat.le_of_ble_eq_true rfl) (by decide) (y_isWoman hF (oM_u (oM_u hM (by decide)) (by decide)) hW (I_u (I_u hO (by decide)) (by decide)) ) (Or.inl rfl) rfl ?_
  refine e_if_ne (t := 18) (p := 12) dX12_court_9 (by decide) rfl rfl (fun hc9 => absurd hx hc9) (fun hc9 => ?_)
  refine e_aload_n (p := 13) dX12_court_12 rfl rfl ?_
  refine e_iconst (v := 1) (p := 14) dX12_court_13 (by decide) rfl ?_
  refine e_callV_int (p := 17) (k' := 0) (a := [.ref 95, .int 1]) (rr := []) dX12_court_14 rfl rfl rfl rfl (rc_of rfl rfl (by decide) ⟨rfl, by decide⟩) (Nat.le_of_ble_eq_true rfl) (Nat.le_of_ble_eq_true rfl) (by decide) y_no (Or.inl rfl) rfl ?_
  exact e_iretE dX12_court_17 rfl rfl (by decide) ⟨rfl, hpq rfl⟩
set_option maxRecDepth 10000 in
theorem q_court_no {I : Nat → Nat → Int32} {J : Nat → Nat → Int64} {F : Nat → Nat → Option Nat} {nc ns : Nat} {D : oD} (hF : RFok F) (hM : oM I 98 D) (hW : WF D) (hO : I 95 14 = tol D) {s : Nat → Int32} (hs : stM I s) {w : Nat} (hw : w < dN D 2) (ht : ¬ (if s 2 ≤ 0 then (if D 7 w = s 1 then (if hbS (s 4) (nI w) = 0 then 0 else 5) else 5) else 5) = 0) : Ev 6 mX12_court 0 [.ref 95, .int (nI w), .null] [] ((SH, nc, ns), I, J, F) (some (.int (-1))) ((SH, nc, ns), hp_u (hp_u I 95 0 0) 95 11 (if s 2 ≤ 0 then (if D 7 w = s 1 then (if hbS (s 4) (nI w) = 0 then 0 else 5) else 5) else 5), J, F) := by
  have hD := hW.c
  have hH := hW.h
  have hT := hW.t
  have bt := hT.2
  obtain ⟨b0, b1, b2, b3, b4, b5, b6⟩ := hD.2
  refine e_aload_n (p := 1) dX12_court_0 rfl rfl ?_
  refine e_callV_v (p := 4) (k' := 0) (a := [.ref 95]) (rr := []) dX12_court_1 rfl rfl rfl rfl (rc_of rfl rfl (by decide) ⟨rfl, by decide⟩) (Nat.le_of_ble_eq_true rfl) (Nat.le_of_ble_eq_true rfl) (by decide) y_good (Or.inl rfl) rfl ?_
  refine e_aload_n (p := 5) dX12_court_4 rfl rfl ?_
  refine e_iload_n (p := 6) dX12_court_5 rfl rfl ?_
  refine e_callV_int (p := 9) (k' := 1) (a := [.ref 95, .int (nI w)]) (rr := []) dX12_court_6 rfl rfl rfl rfl (rc_of rfl rfl (by decide) ⟨rfl, by decide⟩) (Nat.le_of_ble_eq_true rfl) (Nat.le_of_ble_eq_true rfl) (by decide) (Ev.i (ixB_ok (by omega) (by omega)) (y_isWoman hF (oM_u (oM_u hM (by decide)) (by decide)) hW (I_u (I_u hO (by decide)) (by decide)) )) (Or.inl rfl) rfl ?_
  refine e_if_ne (t := 18) (p := 12) dX12_court_9 (by decide) rfl rfl (fun hc9 => ?_) (fun hc9 => absurd hc9 (by decide))
  refine e_aload_n (p := 19) dX12_court_18 rfl rfl ?_
  refine e_getR (c := 11) (j := 17) (n := 37) (b := 100) (p := 22) dX12_court_19 rfl rfl (by decide) (by decide) rfl (r_95_17 hF) rfl ?_
  refine e_iconst (v := 2) (p := 23) dX12_court_22 (by decide) rfl ?_
  refine f_iald (n := 6) (i := 2) (v := s 2) (p := 24) dX12_court_23 rfl (by decide) (by decide) (by decide) ((stM_u (stM_u hs (by decide)) (by decide)) 2 (by decide)) rfl ?_
  refine e_if_gt (t := 55) (p := 27) dX12_court_24 (by decide) rfl rfl (fun hc24 => ?_) (fun hc24 => ?_)
  · skip
    refine e_aload_n (p := 56) dX12_court_55 rfl rfl ?_
    refine e_iconst (v := 5) (p := 57) dX12_court_56 (by decide) rfl ?_
    refine e_callV_int (p := 60) (k' := 0) (a := [.ref 95, .int 5]) (rr := []) dX12_court_57 rfl rfl rfl rfl (rc_of rfl rfl (by decide) ⟨rfl, by decide⟩) (Nat.le_of_ble_eq_true rfl) (Nat.le_of_ble_eq_true rfl) (by decide) y_no (Or.inl rfl) rfl ?_
    exact e_iretE dX12_court_60 rfl rfl (by decide) ⟨rfl, hpq (by first | (simp only [hc24, (Int32.not_le.mpr hc24), ↓reduceIte]; done) | (exfalso; simp_all; done))⟩
  · skip
    refine e_aload_n (p := 28) dX12_court_27 rfl rfl ?_
    refine e_iload_n (p := 29) dX12_court_28 rfl rfl ?_
    refine e_iconst (v := 1) (p := 30) dX12_court_29 (by decide) rfl ?_
    refine e_callV_int (p := 33) (k' := 0) (a := [.ref 95, .int (nI w), .int 1]) (rr := []) dX12_court_30 rfl rfl rfl rfl (rc_of rfl rfl (by decide) ⟨rfl, by decide⟩) (Nat.le_of_ble_eq_true rfl) (Nat.le_of_ble_eq_true rfl) (by decide) (y_ofWoman (x := w) (k := 1) hF (m7 (oM_u (oM_u hM (by decide)) (by decide)) (by omega)) (by omega) (by omega)) (Or.inl rfl) rfl ?_
    refine e_aload_n (p := 34) dX12_court_33 rfl rfl ?_
    refine e_getR (c := 11) (j := 17) (n := 37) (b := 100) (p := 37) dX12_court_34 rfl rfl (by decide) (by decide) rfl (r_95_17 hF) rfl ?_
    refine e_iconst (v := 1) (p := 38) dX12_court_37 (by decide) rfl ?_
    refine f_iald (n := 6) (i := 1) (v := s 1) (p := 39) dX12_court_38 rfl (by decide) (by decide) (by decide) ((stM_u (stM_u hs (by decide)) (by decide)) 1 (by decide)) rfl ?_
    refine e_icmp_ne (t := 55) (p := 42) dX12_court_39 (by decide) rfl rfl (fun hc39 => ?_) (fun hc39 => ?_)
    · skip
      refine e_aload_n (p := 56) dX12_court_55 rfl rfl ?_
      refine e_iconst (v := 5) (p := 57) dX12_court_56 (by decide) rfl ?_
      refine e_callV_int (p := 60) (k' := 0) (a := [.ref 95, .int 5]) (rr := []) dX12_court_57 rfl rfl rfl rfl (rc_of rfl rfl (by decide) ⟨rfl, by decide⟩) (Nat.le_of_ble_eq_true rfl) (Nat.le_of_ble_eq_true rfl) (by decide) y_no (Or.inl rfl) rfl ?_
      exact e_iretE dX12_court_60 rfl rfl (by decide) ⟨rfl, hpq (by first | (simp only [hc24, hc39, (Int32.not_lt.mp hc24), ↓reduceIte]; done) | (exfalso; simp_all; done))⟩
    · skip
      refine e_aload_n (p := 43) dX12_court_42 rfl rfl ?_
      refine e_getR (c := 11) (j := 17) (n := 37) (b := 100) (p := 46) dX12_court_43 rfl rfl (by decide) (by decide) rfl (r_95_17 hF) rfl ?_
      refine e_iconst (v := 4) (p := 47) dX12_court_46 (by decide) rfl ?_
      refine f_iald (n := 6) (i := 4) (v := s 4) (p := 48) dX12_court_47 rfl (by decide) (by decide) (by decide) ((stM_u (stM_u hs (by decide)) (by decide)) 4 (by decide)) rfl ?_
      refine e_iload_n (p := 49) dX12_court_48 rfl rfl ?_
      refine e_callS_int (p := 52) (k' := 0) (a := [.int (s 4), .int (nI w)]) (rr := []) dX12_court_49 rfl rfl rfl rfl rfl (rc_st rfl) (Nat.le_of_ble_eq_true rfl) (Nat.le_of_ble_eq_true rfl) (by decide) (y_hasBit  ) (Or.inl rfl) rfl ?_
      refine e_if_eq (t := 61) (p := 55) dX12_court_52 (by decide) rfl rfl (fun hc52 => ?_) (fun hc52 => ?_)
      · skip
        first | (refine absurd ?_ ht; simp only [hc24, hc39, hc52, (Int32.not_lt.mp hc24), ↓reduceIte]; done) | (exfalso; simp_all; done)
      · skip
        refine e_aload_n (p := 56) dX12_court_55 rfl rfl ?_
        refine e_iconst (v := 5) (p := 57) dX12_court_56 (by decide) rfl ?_
        refine e_callV_int (p := 60) (k' := 0) (a := [.ref 95, .int 5]) (rr := []) dX12_court_57 rfl rfl rfl rfl (rc_of rfl rfl (by decide) ⟨rfl, by decide⟩) (Nat.le_of_ble_eq_true rfl) (Nat.le_of_ble_eq_true rfl) (by decide) y_no (Or.inl rfl) rfl ?_
        exact e_iretE dX12_court_60 rfl rfl (by decide) ⟨rfl, hpq (by first | (simp only [hc24, hc39, hc52, (Int32.not_lt.mp hc24), ↓reduceIte]; done) | (exfalso; simp_all; done))⟩
set_option maxRecDepth 10000 in
theorem q_court_ok0 {I : Nat → Nat → Int32} {J : Nat → Nat → Int64} {F : Nat → Nat → Option Nat} {nc ns : Nat} {D : oD} (hF : RFok F) (hM : oM I 98 D) (hW : WF D) (hO : I 95 14 = tol D) {s : Nat → Int32} (hs : stM I s) {K : Nat} {U : Nat → Nat → Int32} (hK : K ≤ 16) (hk : I 95 20 = nI K) (hU : undM I K U) {w : Nat} (hw : w < dN D 2) (hfr : s 2 ≤ 0) (hs20 : s 2 = 0) (h7 : D 7 w = s 1) (htr : hbS (s 4) (nI w) = 0) (c : (couS D w (s 0) (s 3)).2 = 0) : Ew 6 mX12_court 0 [.ref 95, .int (nI w), .null] [] ((SH, nc, ns), I, J, F) (Ret nc ns (some (.int (if courtS D s w 2 ≤ 0 then 0 else 1))) (fun I' J' F' => J' = J ∧ F' = F ∧ AcM I I' 0 (courtS D s w) (kpN K) (kpU K U s))) := by
  have hD := hW.c
  have hH := hW.h
  have hT := hW.t
  have bt := hT.2
  obtain ⟨b0, b1, b2, b3, b4, b5, b6⟩ := hD.2
  refine we_aload_n (p := 1) dX12_court_0 rfl rfl ?_
  refine we_callV_v (p := 4) (k' := 0) (a := [.ref 95]) (rr := []) dX12_court_1 rfl rfl rfl rfl (rc_of rfl rfl (by decide) ⟨rfl, by decide⟩) (Nat.le_of_ble_eq_true rfl) (Nat.le_of_ble_eq_true rfl) (by decide) y_good (Or.inl rfl) rfl ?_
  refine we_aload_n (p := 5) dX12_court_4 rfl rfl ?_
  refine we_iload_n (p := 6) dX12_court_5 rfl rfl ?_
  refine we_callV_int (p := 9) (k' := 1) (a := [.ref 95, .int (nI w)]) (rr := []) dX12_court_6 rfl rfl rfl rfl (rc_of rfl rfl (by decide) ⟨rfl, by decide⟩) (Nat.le_of_ble_eq_true rfl) (Nat.le_of_ble_eq_true rfl) (by decide) (Ev.i (ixB_ok (by omega) (by omega)) (y_isWoman hF (oM_u (oM_u hM (by decide)) (by decide)) hW (I_u (I_u hO (by decide)) (by decide)) )) (Or.inl rfl) rfl ?_
  refine we_if_ne (t := 18) (p := 12) dX12_court_9 (by decide) rfl rfl (fun hc9 => ?_) (fun hc9 => absurd hc9 (by decide))
  refine we_aload_n (p := 19) dX12_court_18 rfl rfl ?_
  refine we_getR (c := 11) (j := 17) (n := 37) (b := 100) (p := 22) dX12_court_19 rfl rfl (by decide) (by decide) rfl (r_95_17 hF) rfl ?_
  refine we_iconst (v := 2) (p := 23) dX12_court_22 (by decide) rfl ?_
  refine wf_iald (n := 6) (i := 2) (v := s 2) (p := 24) dX12_court_23 rfl (by decide) (by decide) (by decide) ((stM_u (stM_u hs (by decide)) (by decide)) 2 (by decide)) rfl ?_
  refine we_if_gt (t := 55) (p := 27) dX12_court_24 (by decide) rfl rfl (fun hc24 => absurd hc24 (Int32.not_lt.mpr hfr)) (fun hc24 => ?_)
  refine we_aload_n (p := 28) dX12_court_27 rfl rfl ?_
  refine we_iload_n (p := 29) dX12_court_28 rfl rfl ?_
  refine we_iconst (v := 1) (p := 30) dX12_court_29 (by decide) rfl ?_
  refine we_callV_int (p := 33) (k' := 0) (a := [.ref 95, .int (nI w), .int 1]) (rr := []) dX12_court_30 rfl rfl rfl rfl (rc_of rfl rfl (by decide) ⟨rfl, by decide⟩) (Nat.le_of_ble_eq_true rfl) (Nat.le_of_ble_eq_true rfl) (by decide) (y_ofWoman (x := w) (k := 1) hF (m7 (oM_u (oM_u hM (by decide)) (by decide)) (by omega)) (by omega) (by omega)) (Or.inl rfl) rfl ?_
  refine we_aload_n (p := 34) dX12_court_33 rfl rfl ?_
  refine we_getR (c := 11) (j := 17) (n := 37) (b := 100) (p := 37) dX12_court_34 rfl rfl (by decide) (by decide) rfl (r_95_17 hF) rfl ?_
  refine we_iconst (v := 1) (p := 38) dX12_court_37 (by decide) rfl ?_
  refine wf_iald (n := 6) (i := 1) (v := s 1) (p := 39) dX12_court_38 rfl (by decide) (by decide) (by decide) ((stM_u (stM_u hs (by decide)) (by decide)) 1 (by decide)) rfl ?_
  refine we_icmp_ne (t := 55) (p := 42) dX12_court_39 (by decide) rfl rfl (fun hc39 => absurd h7 hc39) (fun hc39 => ?_)
  refine we_aload_n (p := 43) dX12_court_42 rfl rfl ?_
  refine we_getR (c := 11) (j := 17) (n := 37) (b := 100) (p := 46) dX12_court_43 rfl rfl (by decide) (by decide) rfl (r_95_17 hF) rfl ?_
  refine we_iconst (v := 4) (p := 47) dX12_court_46 (by decide) rfl ?_
  refine wf_iald (n := 6) (i := 4) (v := s 4) (p := 48) dX12_court_47 rfl (by decide) (by decide) (by decide) ((stM_u (stM_u hs (by decide)) (by decide)) 4 (by decide)) rfl ?_
  refine we_iload_n (p := 49) dX12_court_48 rfl rfl ?_
  refine we_callS_int (p := 52) (k' := 0) (a := [.int (s 4), .int (nI w)]) (rr := []) dX12_court_49 rfl rfl rfl rfl rfl (rc_st rfl) (Nat.le_of_ble_eq_true rfl) (Nat.le_of_ble_eq_true rfl) (by decide) (y_hasBit  ) (Or.inl rfl) rfl ?_
  refine we_if_eq (t := 61) (p := 55) dX12_court_52 (by decide) rfl rfl (fun hc52 => ?_) (fun hc52 => absurd htr hc52)
  refine we_aload_n (p := 62) dX12_court_61 rfl rfl ?_
  obtain ⟨_, _, e1, rfl, I1, J1, F1, rfl, ⟨rfl, rfl, k1⟩⟩ := y_note (I := (hp_u (hp_u I 95 0 0) 95 11 0)) (K := K) (U := U) hF hK ((hu_nj (by decide)).trans ((hu_nj (by decide)).trans hk)) (stM_u (stM_u hs (by decide)) (by decide)) (fun i hi j hj => (congrFun ((hu_ne (by decide)).trans (hu_ne (by decide))) _).trans (hU i hi j hj))
  refine we_callV_v (p := 65) (k' := 1) (a := [.ref 95]) (rr := []) dX12_court_62 rfl rfl rfl rfl (rc_of rfl rfl (by decide) ⟨rfl, by decide⟩) (Nat.le_of_ble_eq_true rfl) (Nat.le_of_ble_eq_true rfl) (by decide) e1 (Or.inl rfl) rfl ?_
  refine we_aload_n (p := 66) dX12_court_65 rfl rfl ?_
  refine we_aload_n (p := 67) dX12_court_66 rfl rfl ?_
  refine we_getR (c := 11) (j := 17) (n := 37) (b := 100) (p := 70) dX12_court_67 rfl rfl (by decide) (by decide) rfl (r_95_17 hF) rfl ?_
  refine we_iconst (v := 3) (p := 71) dX12_court_70 (by decide) rfl ?_
  refine wf_iald (n := 6) (i := 3) (v := s 3) (p := 72) dX12_court_71 rfl (by decide) (by decide) (by decide) (stM_fr (stM_u (stM_u hs (by decide)) (by decide)) (k1.1 100 (by decide) (by decide)) 3 (by decide)) rfl ?_
  refine we_putI (c := 11) (j := 35) (n := 37)  (p := 75) dX12_court_72 rfl rfl (by decide) (by decide) rfl rfl rfl ?_
  refine we_aload_n (p := 76) dX12_court_75 rfl rfl ?_
  refine we_iload_n (p := 77) dX12_court_76 rfl rfl ?_
  refine we_aload_n (p := 78) dX12_court_77 rfl rfl ?_
  refine we_getR (c := 11) (j := 17) (n := 37) (b := 100) (p := 81) dX12_court_78 rfl rfl (by decide) (by decide) rfl (r_95_17 hF) rfl ?_
  refine we_iconst (v := 0) (p := 82) dX12_court_81 (by decide) rfl ?_
  refine wf_iald (n := 6) (i := 0) (v := s 0) (p := 83) dX12_court_82 rfl (by decide) (by decide) (by decide) (I_u (stM_fr (stM_u (stM_u hs (by decide)) (by decide)) (k1.1 100 (by decide) (by decide)) 0 (by decide)) (by decide)) rfl ?_
  refine we_callV_int (p := 86) (k' := 5) (a := [.ref 95, .int (nI w), .int (s 0)]) (rr := []) dX12_court_83 rfl rfl rfl rfl (rc_of rfl rfl (by decide) ⟨rfl, by decide⟩) (Nat.le_of_ble_eq_true rfl) (Nat.le_of_ble_eq_true rfl) (by decide) (Ev.i c (y_courts (w := w) (l := s 0) (x := s 3) hF (oM_u (oM_fr (oM_u (oM_u hM (by decide)) (by decide)) (k1.1 98 (by decide) (by decide))) (by decide)) hW hw hu_eq)) (Or.inl rfl) rfl ?_
  refine we_istore_n (ls1 := [.ref 95, .int (nI w), .int 0]) (p := 87) dX12_court_86 rfl rfl ?_
  refine we_aload_n (p := 88) dX12_court_87 rfl rfl ?_
  refine we_getR (c := 11) (j := 17) (n := 37) (b := 100) (p := 91) dX12_court_88 rfl rfl (by decide) (by decide) rfl (r_95_17 hF) rfl ?_
  refine we_iconst (v := 3) (p := 92) dX12_court_91 (by decide) rfl ?_
  refine we_aload_n (p := 93) dX12_court_92 rfl rfl ?_
  refine wf_getI (c := 11) (j := 35) (n := 37) (v := (couS D w (s 0) (s 3)).1) (p := 96) dX12_court_93 rfl rfl (by decide) (by decide) (Or.inl rfl) hu_eq rfl ?_
  refine wf_iast (n := 6) (i := 3) (p := 97) dX12_court_96 rfl (by decide) (by decide) (by decide) rfl ?_
  refine we_aload_n (p := 98) dX12_court_97 rfl rfl ?_
  refine we_getR (c := 11) (j := 17) (n := 37) (b := 100) (p := 101) dX12_court_98 rfl rfl (by decide) (by decide) rfl (r_95_17 hF) rfl ?_
  refine we_iconst (v := 4) (p := 102) dX12_court_101 (by decide) rfl ?_
  refine we_dup2 (p := 103) dX12_court_102 rfl ?_
  refine wf_iald (n := 6) (i := 4) (v := s 4) (p := 104) dX12_court_103 rfl (by decide) (by decide) (by decide) (I_u (I_u (I_u (stM_fr (stM_u (stM_u hs (by decide)) (by decide)) (k1.1 100 (by decide) (by decide)) 4 (by decide)) (by decide)) (by decide)) (by decide)) rfl ?_
  refine we_iconst (v := 1) (p := 105) dX12_court_104 (by decide) rfl ?_
  refine we_iload_n (p := 106) dX12_court_105 rfl rfl ?_
  refine we_ishl (p := 107) dX12_court_106 rfl ?_
  refine we_ior (p := 108) dX12_court_107 rfl ?_
  refine wf_iast (n := 6) (i := 4) (p := 109) dX12_court_108 rfl (by decide) (by decide) (by decide) rfl ?_
  refine we_aload_n (p := 110) dX12_court_109 rfl rfl ?_
  refine we_getR (c := 11) (j := 17) (n := 37) (b := 100) (p := 113) dX12_court_110 rfl rfl (by decide) (by decide) rfl (r_95_17 hF) rfl ?_
  refine we_iconst (v := 2) (p := 114) dX12_court_113 (by decide) rfl ?_
  refine we_iload_n (p := 115) dX12_court_114 rfl rfl ?_
  refine we_if_eq (t := 124) (p := 118) dX12_court_115 (by decide) rfl rfl (fun hc115 => ?_) (fun hc115 => absurd (by decide) hc115)
  refine we_iconst (v := 0) (p := 125) dX12_court_124 (by decide) rfl ?_
  refine wf_iast (n := 6) (i := 2) (p := 126) dX12_court_125 rfl (by decide) (by decide) (by decide) rfl ?_
  refine we_iload_n (p := 127) dX12_court_126 rfl rfl ?_
  refine we_if_eq (t := 134) (p := 130) dX12_court_127 (by decide) rfl rfl (fun hc127 => ?_) (fun hc127 => absurd (by decide) hc127)
  refine we_iconst (v := 0) (p := 135) dX12_court_134 (by decide) rfl ?_
  exact wi_ret dX12_court_135 rfl rfl (by decide) (⟨congrArg (fun z => some (Value.int z)) (by
    have e : courtS D s w 2 = s 2 := by
      show (if (couS D w (s 0) (s 3)).2 = 0 then s 2 else nI w + 1) = _
      exact if_pos c
    rw [e, if_pos hfr]), _, _, _, rfl, rfl, rfl, k1.m (fun p h1 h2 => by rw [hu_ne h2, hu_ne h2, hu_ne h2, hu_ne h1, hu_ne h1]) (fun j hj => by rw [hu_ne (by decide), hu_ne (by decide), hu_ne (by decide), hu_nj hj, hu_nj hj]) (fun i hi => by
    have h1 := stM_fr (stM_u (stM_u hs (by decide)) (by decide)) (k1.1 100 (by decide) (by decide))
    rcases (by omega : i = 0 ∨ i = 1 ∨ i = 2 ∨ i = 3 ∨ i = 4 ∨ i = 5) with rfl | rfl | rfl | rfl | rfl | rfl <;> simp [hu_if, courtS, c, hs20] <;> first | exact h1 _ (by decide) | rfl)⟩)
set_option maxRecDepth 10000 in
theorem q_court_ok1 {I : Nat → Nat → Int32} {J : Nat → Nat → Int64} {F : Nat → Nat → Option Nat} {nc ns : Nat} {D : oD} (hF : RFok F) (hM : oM I 98 D) (hW : WF D) (hO : I 95 14 = tol D) {s : Nat → Int32} (hs : stM I s) {K : Nat} {U : Nat → Nat → Int32} (hK : K ≤ 16) (hk : I 95 20 = nI K) (hU : undM I K U) {w : Nat} (hw : w < dN D 2) (hfr : s 2 ≤ 0) (hs20 : s 2 = 0) (h7 : D 7 w = s 1) (htr : hbS (s 4) (nI w) = 0) (c : ¬ (couS D w (s 0) (s 3)).2 = 0) : Ew 6 mX12_court 0 [.ref 95, .int (nI w), .null] [] ((SH, nc, ns), I, J, F) (Ret nc ns (some (.int (if courtS D s w 2 ≤ 0 then 0 else 1))) (fun I' J' F' => J' = J ∧ F' = F ∧ AcM I I' 0 (courtS D s w) (kpN K) (kpU K U s))) := by
  have hD := hW.c
  have hH := hW.h
  have hT := hW.t
  have bt := hT.2
  obtain ⟨b0, b1, b2, b3, b4, b5, b6⟩ := hD.2
  refine we_aload_n (p := 1) dX12_court_0 rfl rfl ?_
  refine we_callV_v (p := 4) (k' := 0) (a := [.ref 95]) (rr := []) dX12_court_1 rfl rfl rfl rfl (rc_of rfl rfl (by decide) ⟨rfl, by decide⟩) (Nat.le_of_ble_eq_true rfl) (Nat.le_of_ble_eq_true rfl) (by decide) y_good (Or.inl rfl) rfl ?_
  refine we_aload_n (p := 5) dX12_court_4 rfl rfl ?_
  refine we_iload_n (p := 6) dX12_court_5 rfl rfl ?_
  refine we_callV_int (p := 9) (k' := 1) (a := [.ref 95, .int (nI w)]) (rr := []) dX12_court_6 rfl rfl rfl rfl (rc_of rfl rfl (by decide) ⟨rfl, by decide⟩) (Nat.le_of_ble_eq_true rfl) (Nat.le_of_ble_eq_true rfl) (by decide) (Ev.i (ixB_ok (by omega) (by omega)) (y_isWoman hF (oM_u (oM_u hM (by decide)) (by decide)) hW (I_u (I_u hO (by decide)) (by decide)) )) (Or.inl rfl) rfl ?_
  refine we_if_ne (t := 18) (p := 12) dX12_court_9 (by decide) rfl rfl (fun hc9 => ?_) (fun hc9 => absurd hc9 (by decide))
  refine we_aload_n (p := 19) dX12_court_18 rfl rfl ?_
  refine we_getR (c := 11) (j := 17) (n := 37) (b := 100) (p := 22) dX12_court_19 rfl rfl (by decide) (by decide) rfl (r_95_17 hF) rfl ?_
  refine we_iconst (v := 2) (p := 23) dX12_court_22 (by decide) rfl ?_
  refine wf_iald (n := 6) (i := 2) (v := s 2) (p := 24) dX12_court_23 rfl (by decide) (by decide) (by decide) ((stM_u (stM_u hs (by decide)) (by decide)) 2 (by decide)) rfl ?_
  refine we_if_gt (t := 55) (p := 27) dX12_court_24 (by decide) rfl rfl (fun hc24 => absurd hc24 (Int32.not_lt.mpr hfr)) (fun hc24 => ?_)
  refine we_aload_n (p := 28) dX12_court_27 rfl rfl ?_
  refine we_iload_n (p := 29) dX12_court_28 rfl rfl ?_
  refine we_iconst (v := 1) (p := 30) dX12_court_29 (by decide) rfl ?_
  refine we_callV_int (p := 33) (k' := 0) (a := [.ref 95, .int (nI w), .int 1]) (rr := []) dX12_court_30 rfl rfl rfl rfl (rc_of rfl rfl (by decide) ⟨rfl, by decide⟩) (Nat.le_of_ble_eq_true rfl) (Nat.le_of_ble_eq_true rfl) (by decide) (y_ofWoman (x := w) (k := 1) hF (m7 (oM_u (oM_u hM (by decide)) (by decide)) (by omega)) (by omega) (by omega)) (Or.inl rfl) rfl ?_
  refine we_aload_n (p := 34) dX12_court_33 rfl rfl ?_
  refine we_getR (c := 11) (j := 17) (n := 37) (b := 100) (p := 37) dX12_court_34 rfl rfl (by decide) (by decide) rfl (r_95_17 hF) rfl ?_
  refine we_iconst (v := 1) (p := 38) dX12_court_37 (by decide) rfl ?_
  refine wf_iald (n := 6) (i := 1) (v := s 1) (p := 39) dX12_court_38 rfl (by decide) (by decide) (by decide) ((stM_u (stM_u hs (by decide)) (by decide)) 1 (by decide)) rfl ?_
  refine we_icmp_ne (t := 55) (p := 42) dX12_court_39 (by decide) rfl rfl (fun hc39 => absurd h7 hc39) (fun hc39 => ?_)
  refine we_aload_n (p := 43) dX12_court_42 rfl rfl ?_
  refine we_getR (c := 11) (j := 17) (n := 37) (b := 100) (p := 46) dX12_court_43 rfl rfl (by decide) (by decide) rfl (r_95_17 hF) rfl ?_
  refine we_iconst (v := 4) (p := 47) dX12_court_46 (by decide) rfl ?_
  refine wf_iald (n := 6) (i := 4) (v := s 4) (p := 48) dX12_court_47 rfl (by decide) (by decide) (by decide) ((stM_u (stM_u hs (by decide)) (by decide)) 4 (by decide)) rfl ?_
  refine we_iload_n (p := 49) dX12_court_48 rfl rfl ?_
  refine we_callS_int (p := 52) (k' := 0) (a := [.int (s 4), .int (nI w)]) (rr := []) dX12_court_49 rfl rfl rfl rfl rfl (rc_st rfl) (Nat.le_of_ble_eq_true rfl) (Nat.le_of_ble_eq_true rfl) (by decide) (y_hasBit  ) (Or.inl rfl) rfl ?_
  refine we_if_eq (t := 61) (p := 55) dX12_court_52 (by decide) rfl rfl (fun hc52 => ?_) (fun hc52 => absurd htr hc52)
  refine we_aload_n (p := 62) dX12_court_61 rfl rfl ?_
  obtain ⟨_, _, e1, rfl, I1, J1, F1, rfl, ⟨rfl, rfl, k1⟩⟩ := y_note (I := (hp_u (hp_u I 95 0 0) 95 11 0)) (K := K) (U := U) hF hK ((hu_nj (by decide)).trans ((hu_nj (by decide)).trans hk)) (stM_u (stM_u hs (by decide)) (by decide)) (fun i hi j hj => (congrFun ((hu_ne (by decide)).trans (hu_ne (by decide))) _).trans (hU i hi j hj))
  refine we_callV_v (p := 65) (k' := 1) (a := [.ref 95]) (rr := []) dX12_court_62 rfl rfl rfl rfl (rc_of rfl rfl (by decide) ⟨rfl, by decide⟩) (Nat.le_of_ble_eq_true rfl) (Nat.le_of_ble_eq_true rfl) (by decide) e1 (Or.inl rfl) rfl ?_
  refine we_aload_n (p := 66) dX12_court_65 rfl rfl ?_
  refine we_aload_n (p := 67) dX12_court_66 rfl rfl ?_
  refine we_getR (c := 11) (j := 17) (n := 37) (b := 100) (p := 70) dX12_court_67 rfl rfl (by decide) (by decide) rfl (r_95_17 hF) rfl ?_
  refine we_iconst (v := 3) (p := 71) dX12_court_70 (by decide) rfl ?_
  refine wf_iald (n := 6) (i := 3) (v := s 3) (p := 72) dX12_court_71 rfl (by decide) (by decide) (by decide) (stM_fr (stM_u (stM_u hs (by decide)) (by decide)) (k1.1 100 (by decide) (by decide)) 3 (by decide)) rfl ?_
  refine we_putI (c := 11) (j := 35) (n := 37)  (p := 75) dX12_court_72 rfl rfl (by decide) (by decide) rfl rfl rfl ?_
  refine we_aload_n (p := 76) dX12_court_75 rfl rfl ?_
  refine we_iload_n (p := 77) dX12_court_76 rfl rfl ?_
  refine we_aload_n (p := 78) dX12_court_77 rfl rfl ?_
  refine we_getR (c := 11) (j := 17) (n := 37) (b := 100) (p := 81) dX12_court_78 rfl rfl (by decide) (by decide) rfl (r_95_17 hF) rfl ?_
  refine we_iconst (v := 0) (p := 82) dX12_court_81 (by decide) rfl ?_
  refine wf_iald (n := 6) (i := 0) (v := s 0) (p := 83) dX12_court_82 rfl (by decide) (by decide) (by decide) (I_u (stM_fr (stM_u (stM_u hs (by decide)) (by decide)) (k1.1 100 (by decide) (by decide)) 0 (by decide)) (by decide)) rfl ?_
  refine we_callV_int (p := 86) (k' := 5) (a := [.ref 95, .int (nI w), .int (s 0)]) (rr := []) dX12_court_83 rfl rfl rfl rfl (rc_of rfl rfl (by decide) ⟨rfl, by decide⟩) (Nat.le_of_ble_eq_true rfl) (Nat.le_of_ble_eq_true rfl) (by decide) (Ev.i ((cou01 (l := loveS D w (s 0 * D 0 0)) (tN D) (s 3)).resolve_left c) (y_courts (w := w) (l := s 0) (x := s 3) hF (oM_u (oM_fr (oM_u (oM_u hM (by decide)) (by decide)) (k1.1 98 (by decide) (by decide))) (by decide)) hW hw hu_eq)) (Or.inl rfl) rfl ?_
  refine we_istore_n (ls1 := [.ref 95, .int (nI w), .int 1]) (p := 87) dX12_court_86 rfl rfl ?_
  refine we_aload_n (p := 88) dX12_court_87 rfl rfl ?_
  refine we_getR (c := 11) (j := 17) (n := 37) (b := 100) (p := 91) dX12_court_88 rfl rfl (by decide) (by decide) rfl (r_95_17 hF) rfl ?_
  refine we_iconst (v := 3) (p := 92) dX12_court_91 (by decide) rfl ?_
  refine we_aload_n (p := 93) dX12_court_92 rfl rfl ?_
  refine wf_getI (c := 11) (j := 35) (n := 37) (v := (couS D w (s 0) (s 3)).1) (p := 96) dX12_court_93 rfl rfl (by decide) (by decide) (Or.inl rfl) hu_eq rfl ?_
  refine wf_iast (n := 6) (i := 3) (p := 97) dX12_court_96 rfl (by decide) (by decide) (by decide) rfl ?_
  refine we_aload_n (p := 98) dX12_court_97 rfl rfl ?_
  refine we_getR (c := 11) (j := 17) (n := 37) (b := 100) (p := 101) dX12_court_98 rfl rfl (by decide) (by decide) rfl (r_95_17 hF) rfl ?_
  refine we_iconst (v := 4) (p := 102) dX12_court_101 (by decide) rfl ?_
  refine we_dup2 (p := 103) dX12_court_102 rfl ?_
  refine wf_iald (n := 6) (i := 4) (v := s 4) (p := 104) dX12_court_103 rfl (by decide) (by decide) (by decide) (I_u (I_u (I_u (stM_fr (stM_u (stM_u hs (by decide)) (by decide)) (k1.1 100 (by decide) (by decide)) 4 (by decide)) (by decide)) (by decide)) (by decide)) rfl ?_
  refine we_iconst (v := 1) (p := 105) dX12_court_104 (by decide) rfl ?_
  refine we_iload_n (p := 106) dX12_court_105 rfl rfl ?_
  refine we_ishl (p := 107) dX12_court_106 rfl ?_
  refine we_ior (p := 108) dX12_court_107 rfl ?_
  refine wf_iast (n := 6) (i := 4) (p := 109) dX12_court_108 rfl (by decide) (by decide) (by decide) rfl ?_
  refine we_aload_n (p := 110) dX12_court_109 rfl rfl ?_
  refine we_getR (c := 11) (j := 17) (n := 37) (b := 100) (p := 113) dX12_court_110 rfl rfl (by decide) (by decide) rfl (r_95_17 hF) rfl ?_
  refine we_iconst (v := 2) (p := 114) dX12_court_113 (by decide) rfl ?_
  refine we_iload_n (p := 115) dX12_court_114 rfl rfl ?_
  refine we_if_eq (t := 124) (p := 118) dX12_court_115 (by decide) rfl rfl (fun hc115 => absurd hc115 (by decide)) (fun hc115 => ?_)
  refine we_iload_n (p := 119) dX12_court_118 rfl rfl ?_
  refine we_iconst (v := 1) (p := 120) dX12_court_119 (by decide) rfl ?_
  refine we_iadd (p := 121) dX12_court_120 rfl ?_
  refine we_goto (p := 125) dX12_court_121 (by decide) rfl ?_
  refine wf_iast (n := 6) (i := 2) (p := 126) dX12_court_125 rfl (by decide) (by decide) (by decide) rfl ?_
  refine we_iload_n (p := 127) dX12_court_126 rfl rfl ?_
  refine we_if_eq (t := 134) (p := 130) dX12_court_127 (by decide) rfl rfl (fun hc127 => absurd hc127 (by decide)) (fun hc127 => ?_)
  refine we_iconst (v := 1) (p := 131) dX12_court_130 (by decide) rfl ?_
  refine we_goto (p := 135) dX12_court_131 (by decide) rfl ?_
  exact wi_ret dX12_court_135 rfl rfl (by decide) (⟨congrArg (fun z => some (Value.int z)) (by
    have e : courtS D s w 2 = nI w + 1 := by
      show (if (couS D w (s 0) (s 3)).2 = 0 then s 2 else nI w + 1) = _
      exact if_neg c
    rw [e, if_neg (by rw [nI_1]; exact nI_nle (by omega) (by omega))]), _, _, _, rfl, rfl, rfl, k1.m (fun p h1 h2 => by rw [hu_ne h2, hu_ne h2, hu_ne h2, hu_ne h1, hu_ne h1]) (fun j hj => by rw [hu_ne (by decide), hu_ne (by decide), hu_ne (by decide), hu_nj hj, hu_nj hj]) (fun i hi => by
    have h1 := stM_fr (stM_u (stM_u hs (by decide)) (by decide)) (k1.1 100 (by decide) (by decide))
    rcases (by omega : i = 0 ∨ i = 1 ∨ i = 2 ∨ i = 3 ∨ i = 4 ∨ i = 5) with rfl | rfl | rfl | rfl | rfl | rfl <;> simp [hu_if, courtS, c] <;> first | exact h1 _ (by decide) | rfl)⟩)
set_option maxRecDepth 10000 in
theorem q_undo_no {I : Nat → Nat → Int32} {J : Nat → Nat → Int64} {F : Nat → Nat → Option Nat} {nc ns : Nat} (hF : RFok F) (hk : I 95 20 = 0)  : Ev 2 mX12_undo 0 [.ref 95] [] ((SH, nc, ns), I, J, F) (some (.int 0)) ((SH, nc, ns), hp_u (hp_u I 95 0 0) 95 11 6, J, F) := by
  refine e_aload_n (p := 1) dX12_undo_0 rfl rfl ?_
  refine e_callV_v (p := 4) (k' := 0) (a := [.ref 95]) (rr := []) dX12_undo_1 rfl rfl rfl rfl (rc_of rfl rfl (by decide) ⟨rfl, by decide⟩) (Nat.le_of_ble_eq_true rfl) (Nat.le_of_ble_eq_true rfl) (by decide) y_good (Or.inl rfl) rfl ?_
  refine e_aload_n (p := 5) dX12_undo_4 rfl rfl ?_
  refine f_getI (c := 11) (j := 20) (n := 37) (v := 0) (p := 8) dX12_undo_5 rfl rfl (by decide) (by decide) (Or.inl rfl) ((hu_nj (by decide)).trans ((hu_nj (by decide)).trans hk)) rfl ?_
  refine e_if_ne (t := 18) (p := 11) dX12_undo_8 (by decide) rfl rfl (fun hc8 => absurd (by decide) hc8) (fun hc8 => ?_)
  refine e_aload_n (p := 12) dX12_undo_11 rfl rfl ?_
  refine e_bipush (v := 6) (p := 14) dX12_undo_12 (by decide) rfl ?_
  refine e_callV_int (p := 17) (k' := 0) (a := [.ref 95, .int 6]) (rr := []) dX12_undo_14 rfl rfl rfl rfl (rc_of rfl rfl (by decide) ⟨rfl, by decide⟩) (Nat.le_of_ble_eq_true rfl) (Nat.le_of_ble_eq_true rfl) (by decide) y_isNot (Or.inl rfl) rfl ?_
  exact e_iretE dX12_undo_17 rfl (by decide) (by decide) ⟨rfl, hpq rfl⟩
set_option maxRecDepth 10000 in
theorem q_undo_ok {I : Nat → Nat → Int32} {J : Nat → Nat → Int64} {F : Nat → Nat → Option Nat} {nc ns : Nat} {D : oD} (hF : RFok F) (hM : oM I 98 D) (hW : WF D) (hO : I 95 14 = tol D) {s : Nat → Int32} (hs : stM I s) {K : Nat} {U : Nat → Nat → Int32} (hK : K < 16) (hk : I 95 20 = nI (K + 1)) (hU : undM I (K + 1) U) : Ew 2 mX12_undo 0 [.ref 95] [] ((SH, nc, ns), I, J, F) (Ret nc ns (some (.int 1)) (fun I' J' F' => J' = J ∧ F' = F ∧ AcM I I' 0 (U K) K U)) := by
  have hD := hW.c
  have hH := hW.h
  have hT := hW.t
  have bt := hT.2
  obtain ⟨b0, b1, b2, b3, b4, b5, b6⟩ := hD.2
  refine we_aload_n (p := 1) dX12_undo_0 rfl rfl ?_
  refine we_callV_v (p := 4) (k' := 0) (a := [.ref 95]) (rr := []) dX12_undo_1 rfl rfl rfl rfl (rc_of rfl rfl (by decide) ⟨rfl, by decide⟩) (Nat.le_of_ble_eq_true rfl) (Nat.le_of_ble_eq_true rfl) (by decide) y_good (Or.inl rfl) rfl ?_
  refine we_aload_n (p := 5) dX12_undo_4 rfl rfl ?_
  refine wf_getI (c := 11) (j := 20) (n := 37) (v := nI (K + 1)) (p := 8) dX12_undo_5 rfl rfl (by decide) (by decide) (Or.inl rfl) ((hu_nj (by decide)).trans ((hu_nj (by decide)).trans hk)) rfl ?_
  refine we_if_ne (t := 18) (p := 11) dX12_undo_8 (by decide) rfl rfl (fun hc8 => ?_) (fun hc8 => absurd hc8 (nI_ne0 (by omega) (by omega)))
  refine we_aload_n (p := 19) dX12_undo_18 rfl rfl ?_
  refine we_dup_ref (p := 20) dX12_undo_19 rfl ?_
  refine wf_getI (c := 11) (j := 20) (n := 37) (v := nI (K + 1)) (p := 23) dX12_undo_20 rfl rfl (by decide) (by decide) (Or.inl rfl) ((hu_nj (by decide)).trans ((hu_nj (by decide)).trans hk)) rfl ?_
  refine we_iconst (v := 1) (p := 24) dX12_undo_23 (by decide) rfl ?_
  refine we_isub (p := 25) dX12_undo_24 rfl ?_
  refine we_putI (c := 11) (j := 20) (n := 37)  (p := 28) dX12_undo_25 rfl rfl (by decide) (by decide) rfl rfl rfl ?_
  refine we_aload_n (p := 29) dX12_undo_28 rfl rfl ?_
  refine we_getR (c := 11) (j := 18) (n := 37) (b := 101) (p := 32) dX12_undo_29 rfl rfl (by decide) (by decide) rfl (r_95_18 hF) rfl ?_
  refine we_bipush (v := 6) (p := 34) dX12_undo_32 (by decide) rfl ?_
  refine we_aload_n (p := 35) dX12_undo_34 rfl rfl ?_
  refine wf_getI (c := 11) (j := 20) (n := 37) (v := nI K) (p := 38) dX12_undo_35 rfl rfl (by decide) (by decide) (Or.inl rfl) (hu_eq.trans (nI_pred K)) rfl ?_
  refine we_imul (p := 39) dX12_undo_38 rfl ?_
  refine we_aload_n (p := 40) dX12_undo_39 rfl rfl ?_
  refine we_getR (c := 11) (j := 17) (n := 37) (b := 100) (p := 43) dX12_undo_40 rfl rfl (by decide) (by decide) rfl (r_95_17 hF) rfl ?_
  refine we_iconst (v := 0) (p := 44) dX12_undo_43 (by decide) rfl ?_
  refine we_bipush (v := 6) (p := 46) dX12_undo_44 (by decide) rfl ?_
  refine we_callS_v (p := 49) (k' := 0) (a := [.ref 101, .int (6 * (nI K)), .ref 100, .int 0, .int 6]) (rr := []) dX12_undo_46 rfl rfl rfl rfl rfl (rc_st rfl) (Nat.le_of_ble_eq_true rfl) (Nat.le_of_ble_eq_true rfl) (by decide) (y_copyE (p := 101) (a := (6 * K)) (q := 100) (b := 0) (n := 6) rfl (by decide) rfl (by decide) (by decide) (by omega) (by omega) (by decide) (by decide) (pk_mul 6 K) rfl rfl) (Or.inl rfl) rfl ?_
  refine we_iconst (v := 1) (p := 50) dX12_undo_49 (by decide) rfl ?_
  exact wi_ret dX12_undo_50 rfl (by decide) (by decide) (⟨rfl, _, _, _, rfl, rfl, rfl, fun p h1 h2 h3 => by rw [cp_ne h2, hu_ne h1, hu_ne h1, hu_ne h1], fun j h1 h2 h3 h4 => by rw [cp_ne (by decide), hu_nj h3, hu_nj h2, hu_nj h1], by rw [cp_ne (by decide), hu_nj (by decide), hu_eq], fun i hi => by
    rw [cp_in (by omega) (by omega), Nat.sub_zero, hu_ne (by decide), hu_ne (by decide), hu_ne (by decide)]
    exact hU K (by omega) i hi, by rw [cp_ne (by decide), hu_eq, nI_pred], fun i hi j hj => by
    rw [cp_ne (by decide), hu_ne (by decide), hu_ne (by decide), hu_ne (by decide)]
    exact hU i (by omega) j hj⟩)
set_option maxRecDepth 10000 in
theorem q_image_no1 {I : Nat → Nat → Int32} {J : Nat → Nat → Int64} {F : Nat → Nat → Option Nat} {nc ns : Nat} {D : oD} (hF : RFok F) (hM : oM I 98 D) (hW : WF D) (hO : I 95 14 = tol D) {s : Nat → Int32} (hs : stM I s) {M : Nat} (hM_ : I 95 21 = nI M) (ht0 : tol D = 0)  : Ev 1 mX12_image 0 [.ref 95] [] ((SH, nc, ns), I, J, F) (some (.int (-1))) ((SH, nc, ns), hp_u (hp_u I 95 0 0) 95 11 1, J, F) := by
  have hD := hW.c
  have hH := hW.h
  have hT := hW.t
  have bt := hT.2
  obtain ⟨b0, b1, b2, b3, b4, b5, b6⟩ := hD.2
  refine e_aload_n (p := 1) dX12_image_0 rfl rfl ?_
  refine e_callV_v (p := 4) (k' := 0) (a := [.ref 95]) (rr := []) dX12_image_1 rfl rfl rfl rfl (rc_of rfl rfl (by decide) ⟨rfl, by decide⟩) (Nat.le_of_ble_eq_true rfl) (Nat.le_of_ble_eq_true rfl) (by decide) y_good (Or.inl rfl) rfl ?_
  refine e_aload_n (p := 5) dX12_image_4 rfl rfl ?_
  refine f_getI (c := 11) (j := 14) (n := 37) (v := tol D) (p := 8) dX12_image_5 rfl rfl (by decide) (by decide) (Or.inr rfl) (I_u (I_u hO (by decide)) (by decide)) rfl ?_
  refine e_if_ne (t := 17) (p := 11) dX12_image_8 (by decide) rfl rfl (fun hc8 => absurd ht0 hc8) (fun hc8 => ?_)
  refine e_aload_n (p := 12) dX12_image_11 rfl rfl ?_
  refine e_iconst (v := 1) (p := 13) dX12_image_12 (by decide) rfl ?_
  refine e_callV_int (p := 16) (k' := 0) (a := [.ref 95, .int 1]) (rr := []) dX12_image_13 rfl rfl rfl rfl (rc_of rfl rfl (by decide) ⟨rfl, by decide⟩) (Nat.le_of_ble_eq_true rfl) (Nat.le_of_ble_eq_true rfl) (by decide) y_no (Or.inl rfl) rfl ?_
  exact e_iretE dX12_image_16 rfl rfl (by decide) ⟨rfl, hpq rfl⟩
set_option maxRecDepth 10000 in
theorem q_image_no3 {I : Nat → Nat → Int32} {J : Nat → Nat → Int64} {F : Nat → Nat → Option Nat} {nc ns : Nat} {D : oD} (hF : RFok F) (hM : oM I 98 D) (hW : WF D) (hO : I 95 14 = tol D) {s : Nat → Int32} (hs : stM I s) {M : Nat} (hM_ : I 95 21 = nI M) (ht0 : ¬ tol D = 0) (h3 : M = 3)  : Ev 1 mX12_image 0 [.ref 95] [] ((SH, nc, ns), I, J, F) (some (.int (-1))) ((SH, nc, ns), hp_u (hp_u I 95 0 0) 95 11 3, J, F) := by
  have hD := hW.c
  have hH := hW.h
  have hT := hW.t
  have bt := hT.2
  obtain ⟨b0, b1, b2, b3, b4, b5, b6⟩ := hD.2
  refine e_aload_n (p := 1) dX12_image_0 rfl rfl ?_
  refine e_callV_v (p := 4) (k' := 0) (a := [.ref 95]) (rr := []) dX12_image_1 rfl rfl rfl rfl (rc_of rfl rfl (by decide) ⟨rfl, by decide⟩) (Nat.le_of_ble_eq_true rfl) (Nat.le_of_ble_eq_true rfl) (by decide) y_good (Or.inl rfl) rfl ?_
  refine e_aload_n (p := 5) dX12_image_4 rfl rfl ?_
  refine f_getI (c := 11) (j := 14) (n := 37) (v := tol D) (p := 8) dX12_image_5 rfl rfl (by decide) (by decide) (Or.inr rfl) (I_u (I_u hO (by decide)) (by decide)) rfl ?_
  refine e_if_ne (t := 17) (p := 11) dX12_image_8 (by decide) rfl rfl (fun hc8 => ?_) (fun hc8 => absurd hc8 ht0)
  refine e_aload_n (p := 18) dX12_image_17 rfl rfl ?_
  refine f_getI (c := 11) (j := 21) (n := 37) (v := nI M) (p := 21) dX12_image_18 rfl rfl (by decide) (by decide) (Or.inl rfl) ((hu_nj (by decide)).trans ((hu_nj (by decide)).trans hM_)) rfl ?_
  refine e_iconst (v := 3) (p := 22) dX12_image_21 (by decide) rfl ?_
  refine e_icmp_ne (t := 31) (p := 25) dX12_image_22 (by decide) rfl rfl (fun hc22 => absurd (by rw [h3]; rfl) hc22) (fun hc22 => ?_)
  refine e_aload_n (p := 26) dX12_image_25 rfl rfl ?_
  refine e_iconst (v := 3) (p := 27) dX12_image_26 (by decide) rfl ?_
  refine e_callV_int (p := 30) (k' := 0) (a := [.ref 95, .int 3]) (rr := []) dX12_image_27 rfl rfl rfl rfl (rc_of rfl rfl (by decide) ⟨rfl, by decide⟩) (Nat.le_of_ble_eq_true rfl) (Nat.le_of_ble_eq_true rfl) (by decide) y_no (Or.inl rfl) rfl ?_
  exact e_iretE dX12_image_30 rfl rfl (by decide) ⟨rfl, hpq rfl⟩
set_option maxRecDepth 10000 in
theorem q_image_ok {I : Nat → Nat → Int32} {J : Nat → Nat → Int64} {F : Nat → Nat → Option Nat} {nc ns : Nat} {D : oD} (hF : RFok F) (hM : oM I 98 D) (hW : WF D) (hO : I 95 14 = tol D) {s : Nat → Int32} (hs : stM I s) {M : Nat} (hM_ : I 95 21 = nI M) (ht1 : tol D = 1) (h3 : M < 3)  : Ev 1 mX12_image 0 [.ref 95] [] ((SH, nc, ns), I, J, F) (some (.int (nI M))) ((SH, nc, ns), hp_u (cpI (hp_u (hp_u I 95 0 0) 95 11 0) 100 0 102 (6 * M) 6) 95 21 (nI (M + 1)), J, F) := by
  have hD := hW.c
  have hH := hW.h
  have hT := hW.t
  have bt := hT.2
  obtain ⟨b0, b1, b2, b3, b4, b5, b6⟩ := hD.2
  refine e_aload_n (p := 1) dX12_image_0 rfl rfl ?_
  refine e_callV_v (p := 4) (k' := 0) (a := [.ref 95]) (rr := []) dX12_image_1 rfl rfl rfl rfl (rc_of rfl rfl (by decide) ⟨rfl, by decide⟩) (Nat.le_of_ble_eq_true rfl) (Nat.le_of_ble_eq_true rfl) (by decide) y_good (Or.inl rfl) rfl ?_
  refine e_aload_n (p := 5) dX12_image_4 rfl rfl ?_
  refine f_getI (c := 11) (j := 14) (n := 37) (v := 1) (p := 8) dX12_image_5 rfl rfl (by decide) (by decide) (Or.inr rfl) ((I_u (I_u hO (by decide)) (by decide)).trans ht1) rfl ?_
  refine e_if_ne (t := 17) (p := 11) dX12_image_8 (by decide) rfl rfl (fun hc8 => ?_) (fun hc8 => absurd hc8 (by decide))
  refine e_aload_n (p := 18) dX12_image_17 rfl rfl ?_
  refine f_getI (c := 11) (j := 21) (n := 37) (v := nI M) (p := 21) dX12_image_18 rfl rfl (by decide) (by decide) (Or.inl rfl) ((hu_nj (by decide)).trans ((hu_nj (by decide)).trans hM_)) rfl ?_
  refine e_iconst (v := 3) (p := 22) dX12_image_21 (by decide) rfl ?_
  refine e_icmp_ne (t := 31) (p := 25) dX12_image_22 (by decide) rfl rfl (fun hc22 => ?_) (fun hc22 => absurd hc22 (fun z => absurd ((nI_eq (a := M) (b := 3) (by omega) (by omega)).mp z) (by omega)))
  refine e_aload_n (p := 32) dX12_image_31 rfl rfl ?_
  refine e_getR (c := 11) (j := 17) (n := 37) (b := 100) (p := 35) dX12_image_32 rfl rfl (by decide) (by decide) rfl (r_95_17 hF) rfl ?_
  refine e_iconst (v := 0) (p := 36) dX12_image_35 (by decide) rfl ?_
  refine e_aload_n (p := 37) dX12_image_36 rfl rfl ?_
  refine e_getR (c := 11) (j := 19) (n := 37) (b := 102) (p := 40) dX12_image_37 rfl rfl (by decide) (by decide) rfl (r_95_19 hF) rfl ?_
  refine e_bipush (v := 6) (p := 42) dX12_image_40 (by decide) rfl ?_
  refine e_aload_n (p := 43) dX12_image_42 rfl rfl ?_
  refine f_getI (c := 11) (j := 21) (n := 37) (v := nI M) (p := 46) dX12_image_43 rfl rfl (by decide) (by decide) (Or.inl rfl) ((hu_nj (by decide)).trans ((hu_nj (by decide)).trans hM_)) rfl ?_
  refine e_imul (p := 47) dX12_image_46 rfl ?_
  refine e_bipush (v := 6) (p := 49) dX12_image_47 (by decide) rfl ?_
  refine e_callS_v (p := 52) (k' := 0) (a := [.ref 100, .int 0, .ref 102, .int (6 * (nI M)), .int 6]) (rr := []) dX12_image_49 rfl rfl rfl rfl rfl (rc_st rfl) (Nat.le_of_ble_eq_true rfl) (Nat.le_of_ble_eq_true rfl) (by decide) (y_copyE (p := 100) (a := 0) (q := 102) (b := (6 * M)) (n := 6) rfl (by decide) rfl (by decide) (by decide) (by omega) (by omega) (by decide) (by decide) rfl (pk_mul 6 M) rfl) (Or.inl rfl) rfl ?_
  refine e_aload_n (p := 53) dX12_image_52 rfl rfl ?_
  refine e_dup_ref (p := 54) dX12_image_53 rfl ?_
  refine f_getI (c := 11) (j := 21) (n := 37) (v := nI M) (p := 57) dX12_image_54 rfl rfl (by decide) (by decide) (Or.inl rfl) ((congrFun (cp_ne (by decide)) 21).trans ((hu_nj (by decide)).trans ((hu_nj (by decide)).trans hM_))) rfl ?_
  refine e_iconst (v := 1) (p := 58) dX12_image_57 (by decide) rfl ?_
  refine e_iadd (p := 59) dX12_image_58 rfl ?_
  refine e_putI (c := 11) (j := 21) (n := 37)  (p := 62) dX12_image_59 rfl rfl (by decide) (by decide) rfl rfl rfl ?_
  refine e_aload_n (p := 63) dX12_image_62 rfl rfl ?_
  refine f_getI (c := 11) (j := 21) (n := 37) (v := nI (M + 1)) (p := 66) dX12_image_63 rfl rfl (by decide) (by decide) (Or.inl rfl) (hu_eq.trans (nI_1 M)) rfl ?_
  refine e_iconst (v := 1) (p := 67) dX12_image_66 (by decide) rfl ?_
  refine e_isub (p := 68) dX12_image_67 rfl ?_
  exact e_iretE dX12_image_68 rfl rfl (by decide) ⟨by rw [nI_pred], by simp only [nI_1]⟩
set_option maxRecDepth 10000 in
theorem q_back_no {I : Nat → Nat → Int32} {J : Nat → Nat → Int64} {F : Nat → Nat → Option Nat} {nc ns : Nat} (hF : RFok F) {M : Nat} (hM_ : I 95 21 = nI M) (hM9 : M ≤ 9) {v : Int32} (hx : ixB v M = 0)  : Ev 1 mX12_back 0 [.ref 95, .int v] [] ((SH, nc, ns), I, J, F) (some (.int 0)) ((SH, nc, ns), hp_u (hp_u I 95 0 0) 95 11 1, J, F) := by
  refine e_aload_n (p := 1) dX12_back_0 rfl rfl ?_
  refine e_callV_v (p := 4) (k' := 0) (a := [.ref 95]) (rr := []) dX12_back_1 rfl rfl rfl rfl (rc_of rfl rfl (by decide) ⟨rfl, by decide⟩) (Nat.le_of_ble_eq_true rfl) (Nat.le_of_ble_eq_true rfl) (by decide) y_good (Or.inl rfl) rfl ?_
  refine e_iload_n (p := 5) dX12_back_4 rfl rfl ?_
  refine e_iconst (v := 0) (p := 6) dX12_back_5 (by decide) rfl ?_
  refine e_aload_n (p := 7) dX12_back_6 rfl rfl ?_
  refine f_getI (c := 11) (j := 21) (n := 37) (v := nI M) (p := 10) dX12_back_7 rfl rfl (by decide) (by decide) (Or.inl rfl) ((hu_nj (by decide)).trans ((hu_nj (by decide)).trans hM_)) rfl ?_
  refine e_iconst (v := 1) (p := 11) dX12_back_10 (by decide) rfl ?_
  refine e_isub (p := 12) dX12_back_11 rfl ?_
  refine e_callS_int (p := 15) (k' := 0) (a := [.int v, .int 0, .int ((nI M) - 1)]) (rr := []) dX12_back_12 rfl rfl rfl rfl rfl (rc_st rfl) (Nat.le_of_ble_eq_true rfl) (Nat.le_of_ble_eq_true rfl) (by decide) (Ev.i (in_ix1 (by omega)) (y_in)) (Or.inl rfl) rfl ?_
  refine e_if_ne (t := 24) (p := 18) dX12_back_15 (by decide) rfl rfl (fun hc15 => absurd hx hc15) (fun hc15 => ?_)
  refine e_aload_n (p := 19) dX12_back_18 rfl rfl ?_
  refine e_iconst (v := 1) (p := 20) dX12_back_19 (by decide) rfl ?_
  refine e_callV_int (p := 23) (k' := 0) (a := [.ref 95, .int 1]) (rr := []) dX12_back_20 rfl rfl rfl rfl (rc_of rfl rfl (by decide) ⟨rfl, by decide⟩) (Nat.le_of_ble_eq_true rfl) (Nat.le_of_ble_eq_true rfl) (by decide) y_isNot (Or.inl rfl) rfl ?_
  exact e_iretE dX12_back_23 rfl (by decide) (by decide) ⟨rfl, hpq rfl⟩
set_option maxRecDepth 10000 in
theorem q_back_ok {I : Nat → Nat → Int32} {J : Nat → Nat → Int64} {F : Nat → Nat → Option Nat} {nc ns : Nat} (hF : RFok F) {M : Nat} (hM_ : I 95 21 = nI M) (hM3 : M ≤ 3) {i : Nat} (hi : i < M)  : Ev 1 mX12_back 0 [.ref 95, .int (nI i)] [] ((SH, nc, ns), I, J, F) (some (.int 1)) ((SH, nc, ns), hp_u (cpI (hp_u (hp_u I 95 0 0) 95 11 0) 102 (6 * i) 100 0 6) 95 20 0, J, F) := by
  refine e_aload_n (p := 1) dX12_back_0 rfl rfl ?_
  refine e_callV_v (p := 4) (k' := 0) (a := [.ref 95]) (rr := []) dX12_back_1 rfl rfl rfl rfl (rc_of rfl rfl (by decide) ⟨rfl, by decide⟩) (Nat.le_of_ble_eq_true rfl) (Nat.le_of_ble_eq_true rfl) (by decide) y_good (Or.inl rfl) rfl ?_
  refine e_iload_n (p := 5) dX12_back_4 rfl rfl ?_
  refine e_iconst (v := 0) (p := 6) dX12_back_5 (by decide) rfl ?_
  refine e_aload_n (p := 7) dX12_back_6 rfl rfl ?_
  refine f_getI (c := 11) (j := 21) (n := 37) (v := nI M) (p := 10) dX12_back_7 rfl rfl (by decide) (by decide) (Or.inl rfl) ((hu_nj (by decide)).trans ((hu_nj (by decide)).trans hM_)) rfl ?_
  refine e_iconst (v := 1) (p := 11) dX12_back_10 (by decide) rfl ?_
  refine e_isub (p := 12) dX12_back_11 rfl ?_
  refine e_callS_int (p := 15) (k' := 0) (a := [.int (nI i), .int 0, .int ((nI M) - 1)]) (rr := []) dX12_back_12 rfl rfl rfl rfl rfl (rc_st rfl) (Nat.le_of_ble_eq_true rfl) (Nat.le_of_ble_eq_true rfl) (by decide) (Ev.i ((in_ix1 (by omega)).trans (ixB_ok hi (by omega))) (y_in)) (Or.inl rfl) rfl ?_
  refine e_if_ne (t := 24) (p := 18) dX12_back_15 (by decide) rfl rfl (fun hc15 => ?_) (fun hc15 => absurd hc15 (by decide))
  refine e_aload_n (p := 25) dX12_back_24 rfl rfl ?_
  refine e_getR (c := 11) (j := 19) (n := 37) (b := 102) (p := 28) dX12_back_25 rfl rfl (by decide) (by decide) rfl (r_95_19 hF) rfl ?_
  refine e_bipush (v := 6) (p := 30) dX12_back_28 (by decide) rfl ?_
  refine e_iload_n (p := 31) dX12_back_30 rfl rfl ?_
  refine e_imul (p := 32) dX12_back_31 rfl ?_
  refine e_aload_n (p := 33) dX12_back_32 rfl rfl ?_
  refine e_getR (c := 11) (j := 17) (n := 37) (b := 100) (p := 36) dX12_back_33 rfl rfl (by decide) (by decide) rfl (r_95_17 hF) rfl ?_
  refine e_iconst (v := 0) (p := 37) dX12_back_36 (by decide) rfl ?_
  refine e_bipush (v := 6) (p := 39) dX12_back_37 (by decide) rfl ?_
  refine e_callS_v (p := 42) (k' := 0) (a := [.ref 102, .int (6 * (nI i)), .ref 100, .int 0, .int 6]) (rr := []) dX12_back_39 rfl rfl rfl rfl rfl (rc_st rfl) (Nat.le_of_ble_eq_true rfl) (Nat.le_of_ble_eq_true rfl) (by decide) (y_copyE (p := 102) (a := (6 * i)) (q := 100) (b := 0) (n := 6) rfl (by decide) rfl (by decide) (by decide) (by omega) (by omega) (by decide) (by decide) (pk_mul 6 i) rfl rfl) (Or.inl rfl) rfl ?_
  refine e_aload_n (p := 43) dX12_back_42 rfl rfl ?_
  refine e_iconst (v := 0) (p := 44) dX12_back_43 (by decide) rfl ?_
  refine e_putI (c := 11) (j := 20) (n := 37)  (p := 47) dX12_back_44 rfl rfl (by decide) (by decide) rfl rfl rfl ?_
  refine e_iconst (v := 1) (p := 48) dX12_back_47 (by decide) rfl ?_
  exact e_iretE dX12_back_48 rfl (by decide) (by decide) ⟨rfl, rfl⟩
