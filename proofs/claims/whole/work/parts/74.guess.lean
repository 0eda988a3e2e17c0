/-! The class counts the rows. -/
set_option maxRecDepth 10000 in
theorem x_settle_L {J : Nat → Nat → Int64} {F : Nat → Nat → Option Nat} {nc ns : Nat} {I0 : Nat → Nat → Int32} {N : Nat} {a : gA} {row : Nat → Nat} (hF : RFok F) (hN : N ≤ 4) (hg : gI N I0 a) (hr : gR I0 86 row N) (hrow : ∀ i, i < N → row i < 8)  {Q : Option Value → hp_H → Prop} : ∀ (m j : Nat) (I : Nat → Nat → Int32), j + m = N → (I0 85 = I 85 ∧ I0 86 = I 86 ∧ Fr 87 93 I0 I ∧ (∀ i, i < N → I 87 i = (fun i => if a.1 = 0 ∧ i < j then nI (row i) else a.2.1 i) i) ∧ ∀ i, i < 4 → ∀ w, w < 8 → I (89 + i) w = (fun i w => if i < j ∧ w = row i then a.2.2 i w + 1 else a.2.2 i w) i w) → (∀ (I : Nat → Nat → Int32), (I0 85 = I 85 ∧ I0 86 = I 86 ∧ Fr 87 93 I0 I ∧ (∀ i, i < N → I 87 i = (fun i => if a.1 = 0 ∧ i < N then nI (row i) else a.2.1 i) i) ∧ ∀ i, i < 4 → ∀ w, w < 8 → I (89 + i) w = (fun i w => if i < N ∧ w = row i then a.2.2 i w + 1 else a.2.2 i w) i w) → Ew 0 mX1_settle 52 [.ref 85, .int (nI N)] [] ((SH, nc, ns), I, J, F) Q) → Ew 0 mX1_settle 2 [.ref 85, .int (nI j)] [] ((SH, nc, ns), I, J, F) Q
  | 0, j, I, hj, hI, hq => by
    have g3 : I 85 3 = a.1 := (congrFun hI.1 3).symm.trans hg.1
    have g4 : I 85 4 = nI N := (congrFun hI.1 4).symm.trans hg.2.1
    have g86 : ∀ i, i < N → I 86 i = nI (row i) := fun i hi => (congrFun hI.2.1 i).symm.trans (hr i hi)
    have g87 := hI.2.2.2.1
    have g89 := hI.2.2.2.2
    have hjN : j = N := by omega
    refine we_iload_n (p := 3) dX1_settle_2 rfl rfl ?_
    refine we_aload_n (p := 4) dX1_settle_3 rfl rfl ?_
    refine wf_getI (c := 1) (j := 4) (n := 5) (v := nI N) (p := 7) dX1_settle_4 rfl rfl (by decide) (by decide) (Or.inl rfl) g4 rfl ?_
    refine we_icmp_ge (t := 52) (p := 10) dX1_settle_7 (by decide) rfl rfl (fun hc7 => ?_) (fun hc7 => absurd (nI_le (a := N) (b := j) (by omega) (by omega)) hc7)
    subst hjN; exact hq _ hI
  | m + 1, j, I, hj, hI, hq => by
    have g3 : I 85 3 = a.1 := (congrFun hI.1 3).symm.trans hg.1
    have g4 : I 85 4 = nI N := (congrFun hI.1 4).symm.trans hg.2.1
    have g86 : ∀ i, i < N → I 86 i = nI (row i) := fun i hi => (congrFun hI.2.1 i).symm.trans (hr i hi)
    have g87 := hI.2.2.2.1
    have g89 := hI.2.2.2.2
    refine we_iload_n (p := 3) dX1_settle_2 rfl rfl ?_
    refine we_aload_n (p := 4) dX1_settle_3 rfl rfl ?_
    refine wf_getI (c := 1) (j := 4) (n := 5) (v := nI N) (p := 7) dX1_settle_4 rfl rfl (by decide) (by decide) (Or.inl rfl) g4 rfl ?_
    refine we_icmp_ge (t := 52) (p := 10) dX1_settle_7 (by decide) rfl rfl (fun hc7 => absurd hc7 (nI_ge (a := j) (b := N) (by omega) (by omega))) (fun hc7 => ?_)
    refine we_aload_n (p := 11) dX1_settle_10 rfl rfl ?_
    refine wf_getI (c := 1) (j := 3) (n := 5) (v := a.1) (p := 14) dX1_settle_11 rfl rfl (by decide) (by decide) (Or.inl rfl) g3 rfl ?_
    refine we_if_ne (t := 29) (p := 17) dX1_settle_14 (by decide) rfl rfl (fun hc14 => ?_) (fun hc14 => ?_)
    · skip
      refine we_aload_n (p := 30) dX1_settle_29 rfl rfl ?_
      refine we_getR (c := 1) (j := 2) (n := 5) (b := 88) (p := 33) dX1_settle_30 rfl rfl (by decide) (by decide) rfl (r_85_2 hF) rfl ?_
      refine we_iload_n (p := 34) dX1_settle_33 rfl rfl ?_
      refine wf_aald (c := 16) (n := 4) (b := (89 + j)) (i := j) (p := 35) dX1_settle_34 rfl (by decide) (in_nJ (by omega) (by decide)) (nI_cl (by omega)) (fm_88 hF (by omega)) rfl ?_
      refine we_aload_n (p := 36) dX1_settle_35 rfl rfl ?_
      refine we_getR (c := 1) (j := 0) (n := 5) (b := 86) (p := 39) dX1_settle_36 rfl rfl (by decide) (by decide) rfl (r_85_0 hF) rfl ?_
      refine we_iload_n (p := 40) dX1_settle_39 rfl rfl ?_
      refine wf_iald (n := 4) (i := j) (v := nI (row j)) (p := 41) dX1_settle_40 rfl (by decide) (in_nJ (by omega) (by decide)) (nI_cl (by omega)) (g86 j (by omega)) rfl ?_
      refine we_dup2 (p := 42) dX1_settle_41 rfl ?_
      refine wf_iald (n := 8) (i := (row j)) (v := (fun i w => if i < j ∧ w = row i then a.2.2 i w + 1 else a.2.2 i w) j (row j)) (p := 43) dX1_settle_42 (sf_88 (by omega)) (by omega) (in_nJ (hrow _ (by omega)) (by decide)) (nI_cl (by have := hrow j (by omega); omega)) (g89 j (by omega) (row j) (hrow _ (by omega))) rfl ?_
      refine we_iconst (v := 1) (p := 44) dX1_settle_43 (by decide) rfl ?_
      refine we_iadd (p := 45) dX1_settle_44 rfl ?_
      refine wf_iast (n := 8) (i := (row j)) (p := 46) dX1_settle_45 (sf_88 (by omega)) (by omega) (in_nJ (hrow _ (by omega)) (by decide)) (nI_cl (by have := hrow j (by omega); omega)) rfl ?_
      refine we_iinc (ls1 := [.ref 85, .int ((nI j) + 1)]) (p := 49) dX1_settle_46 rfl rfl rfl ?_
      refine we_goto (p := 2) dX1_settle_49 (by decide) rfl ?_
      rw [nI_1]
      refine x_settle_L hF hN hg hr hrow m (j + 1) _  (by omega) ?_ hq
      refine ⟨?_, ?_, ?_, ?_, ?_⟩
      · rw [hu_ne (by omega)]; exact hI.1
      · rw [hu_ne (by omega)]; exact hI.2.1
      · exact hI.2.2.1.u (by omega) (by omega)
      · intro i hi
        rw [hu_ne (by omega), g87 i hi]
        simp [hc14]
      · intro i hi w hw
        by_cases c : i = j
        · subst c
          rw [hu_if]
          by_cases c2 : w = row i
          · subst c2
            simp
          · rw [if_neg c2, g89 i hi w hw]
            simp [c2]
        · rw [hu_ne (by omega), g89 i hi w hw]
          have : (i < j + 1 ∧ w = row i) ↔ (i < j ∧ w = row i) := by omega
          simp only [this]
    · skip
      refine we_aload_n (p := 18) dX1_settle_17 rfl rfl ?_
      refine we_getR (c := 1) (j := 1) (n := 5) (b := 87) (p := 21) dX1_settle_18 rfl rfl (by decide) (by decide) rfl (r_85_1 hF) rfl ?_
      refine we_iload_n (p := 22) dX1_settle_21 rfl rfl ?_
      refine we_aload_n (p := 23) dX1_settle_22 rfl rfl ?_
      refine we_getR (c := 1) (j := 0) (n := 5) (b := 86) (p := 26) dX1_settle_23 rfl rfl (by decide) (by decide) rfl (r_85_0 hF) rfl ?_
      refine we_iload_n (p := 27) dX1_settle_26 rfl rfl ?_
      refine wf_iald (n := 4) (i := j) (v := nI (row j)) (p := 28) dX1_settle_27 rfl (by decide) (in_nJ (by omega) (by decide)) (nI_cl (by omega)) (g86 j (by omega)) rfl ?_
      refine wf_iast (n := 4) (i := j) (p := 29) dX1_settle_28 rfl (by decide) (in_nJ (by omega) (by decide)) (nI_cl (by omega)) rfl ?_
      refine we_aload_n (p := 30) dX1_settle_29 rfl rfl ?_
      refine we_getR (c := 1) (j := 2) (n := 5) (b := 88) (p := 33) dX1_settle_30 rfl rfl (by decide) (by decide) rfl (r_85_2 hF) rfl ?_
      refine we_iload_n (p := 34) dX1_settle_33 rfl rfl ?_
      refine wf_aald (c := 16) (n := 4) (b := (89 + j)) (i := j) (p := 35) dX1_settle_34 rfl (by decide) (in_nJ (by omega) (by decide)) (nI_cl (by omega)) (fm_88 hF (by omega)) rfl ?_
      refine we_aload_n (p := 36) dX1_settle_35 rfl rfl ?_
      refine we_getR (c := 1) (j := 0) (n := 5) (b := 86) (p := 39) dX1_settle_36 rfl rfl (by decide) (by decide) rfl (r_85_0 hF) rfl ?_
      refine we_iload_n (p := 40) dX1_settle_39 rfl rfl ?_
      refine wf_iald (n := 4) (i := j) (v := nI (row j)) (p := 41) dX1_settle_40 rfl (by decide) (in_nJ (by omega) (by decide)) (nI_cl (by omega)) ((A_u g86 (by omega)) j (by omega)) rfl ?_
      refine we_dup2 (p := 42) dX1_settle_41 rfl ?_
      refine wf_iald (n := 8) (i := (row j)) (v := (fun i w => if i < j ∧ w = row i then a.2.2 i w + 1 else a.2.2 i w) j (row j)) (p := 43) dX1_settle_42 (sf_88 (by omega)) (by omega) (in_nJ (hrow _ (by omega)) (by decide)) (nI_cl (by have := hrow j (by omega); omega)) ((B_u g89 (by omega)) j (by omega) (row j) (hrow _ (by omega))) rfl ?_
      refine we_iconst (v := 1) (p := 44) dX1_settle_43 (by decide) rfl ?_
      refine we_iadd (p := 45) dX1_settle_44 rfl ?_
      refine wf_iast (n := 8) (i := (row j)) (p := 46) dX1_settle_45 (sf_88 (by omega)) (by omega) (in_nJ (hrow _ (by omega)) (by decide)) (nI_cl (by have := hrow j (by omega); omega)) rfl ?_
      refine we_iinc (ls1 := [.ref 85, .int ((nI j) + 1)]) (p := 49) dX1_settle_46 rfl rfl rfl ?_
      refine we_goto (p := 2) dX1_settle_49 (by decide) rfl ?_
      rw [nI_1]
      refine x_settle_L hF hN hg hr hrow m (j + 1) _  (by omega) ?_ hq
      refine ⟨?_, ?_, ?_, ?_, ?_⟩
      · rw [hu_ne (by omega), hu_ne (by omega)]; exact hI.1
      · rw [hu_ne (by omega), hu_ne (by omega)]; exact hI.2.1
      · exact (hI.2.2.1.u (by omega) (by omega)).u (by omega) (by omega)
      · intro i hi
        rw [hu_ne (by omega), hu_if]
        by_cases c : i = j
        · subst c
          simp [hc14]
        · rw [if_neg c, g87 i hi]
          have : (a.1 = 0 ∧ i < j + 1) ↔ (a.1 = 0 ∧ i < j) := by constructor <;> (rintro ⟨h1, h2⟩; exact ⟨h1, by omega⟩)
          simp only [this]
      · intro i hi w hw
        by_cases c : i = j
        · subst c
          rw [hu_if]
          by_cases c2 : w = row i
          · subst c2
            simp
          · rw [if_neg c2, hu_ne (by omega), g89 i hi w hw]
            simp [c2]
        · rw [hu_ne (by omega), hu_ne (by omega), g89 i hi w hw]
          have : (i < j + 1 ∧ w = row i) ↔ (i < j ∧ w = row i) := by omega
          simp only [this]
set_option maxRecDepth 10000 in
theorem x_settle {J : Nat → Nat → Int64} {F : Nat → Nat → Option Nat} {nc ns : Nat} {I0 : Nat → Nat → Int32} {N : Nat} {a : gA} {row : Nat → Nat} (hF : RFok F) (hN : N ≤ 4) (hg : gI N I0 a) (hr : gR I0 86 row N) (hrow : ∀ i, i < N → row i < 8) : Ew 0 mX1_settle 0 [.ref 85, .null] [] ((SH, nc, ns), I0, J, F) (Ret nc ns none (fun I' J' F' => Fr 85 93 I0 I' ∧ I' 86 = I0 86 ∧ J' = J ∧ F' = F ∧ gI N I' (setS N row a))) := by
  refine we_iconst (v := 0) (p := 1) dX1_settle_0 (by decide) rfl ?_
  refine we_istore_n (ls1 := [.ref 85, .int 0]) (p := 2) dX1_settle_1 rfl rfl ?_
  refine x_settle_L hF hN hg hr hrow N 0 I0 (by omega) ⟨rfl, rfl, Fr.rf, fun i hi => by simp [hg.2.2.1 i hi], fun i hi w hw => by simp [hg.2.2.2 i hi w hw]⟩ (fun I1 hI1 => ?_)
  refine we_aload_n (p := 53) dX1_settle_52 rfl rfl ?_
  refine we_dup_ref (p := 54) dX1_settle_53 rfl ?_
  refine wf_getI (c := 1) (j := 3) (n := 5) (v := a.1) (p := 57) dX1_settle_54 rfl rfl (by decide) (by decide) (Or.inl rfl) ((congrFun hI1.1 3).symm.trans hg.1) rfl ?_
  refine we_iconst (v := 1) (p := 58) dX1_settle_57 (by decide) rfl ?_
  refine we_iadd (p := 59) dX1_settle_58 rfl ?_
  refine we_putI (c := 1) (j := 3) (n := 5)  (p := 62) dX1_settle_59 rfl rfl (by decide) (by decide) rfl rfl rfl ?_
  exact wv_ret dX1_settle_62 rfl (⟨rfl, _, _, _, rfl, (hI1.2.2.1.wd (by omega) (by omega)).u (by omega) (by omega), (hu_ne (by omega)).trans hI1.2.1.symm, rfl, rfl, hu_eq, (hu_nj (by omega)).trans ((congrFun hI1.1 4).symm.trans hg.2.1), A_u hI1.2.2.2.1 (by omega), B_u hI1.2.2.2.2 (by omega)⟩)
theorem nr_no {D : oD} {k j : Nat} {u : Int32} {a b : gA} (h : ¬ (hbS u (nI j) = 0 ∧ ¬ wasS D k j = 0)) : (if hbS u (nI j) = 0 then (if wasS D k j = 0 then a else b) else a) = a := by
  by_cases c : hbS u (nI j) = 0
  · by_cases c2 : wasS D k j = 0
    · rw [if_pos c, if_pos c2]
    · exact absurd ⟨c, c2⟩ h
  · rw [if_neg c]
theorem nr_yes {D : oD} {k j : Nat} {u : Int32} {a b : gA} (h : hbS u (nI j) = 0 ∧ ¬ wasS D k j = 0) : (if hbS u (nI j) = 0 then (if wasS D k j = 0 then a else b) else a) = b := by
  rw [if_pos h.1, if_neg h.2]
theorem gI_u {N : Nat} {I : Nat → Nat → Int32} {a : gA} {k j : Nat} {v : Int32} (h : gI N I a) (hk : k < 85 ∨ k = 86 ∨ 93 ≤ k) : gI N (hp_u I k j v) a := ⟨(congrFun (hu_ne (by omega)) 3).trans h.1, (congrFun (hu_ne (by omega)) 4).trans h.2.1, A_u h.2.2.1 (by omega), B_u h.2.2.2 (by omega)⟩
theorem gR_up {I : Nat → Nat → Int32} {p k w : Nat} {row : Nat → Nat} (h : gR I p row k) : gR (hp_u I p k (nI w)) p (upN row k w) (k + 1) := by
  intro i hi
  unfold upN
  rw [hu_if]
  by_cases c : i = k
  · rw [if_pos c, if_pos c]
  · rw [if_neg c, if_neg c]
    exact h i (by omega)
theorem gR_dn {I : Nat → Nat → Int32} {p k w : Nat} {row : Nat → Nat} (h : gR I p (upN row k w) (k + 1)) : gR I p row k := by
  intro i hi
  have := h i (by omega)
  unfold upN at this
  rw [if_neg (by omega)] at this
  exact this
theorem up8 {k w : Nat} {row : Nat → Nat} (h : ∀ i, i < k → row i < 8) (hw : w < 8) : ∀ i, i < k + 1 → upN row k w i < 8 := by
  intro i hi
  unfold upN
  split
  · exact hw
  · exact h i (by omega)
set_option maxRecDepth 10000 in
theorem x_extend_L {J : Nat → Nat → Int64} {F : Nat → Nat → Option Nat} {nc ns : Nat} {o : Nat} {D : oD} (ho : isO o) (hF : RFok F) (hW : WF D) {d k : Nat} {x u : Int32} {row : Nat → Nat} (hS : ∀ (k : Nat) (x u : Int32) (row : Nat → Nat) (a : gA) (I : Nat → Nat → Int32), x = nI k → k + d = dN D 6 → oC I o D → gI (dN D 6) I a → gR I 86 row k → (∀ i, i < k → row i < 8) → Ew (d + 1) mX1_extend 0 [.ref 85, .ref o, .int x, .int u, .null, .null] [] ((SH, nc, ns), I, J, F) (Ret nc ns none (fun I' J' F' => Fr 85 93 I I' ∧ J' = J ∧ F' = F ∧ gI (dN D 6) I' (nrS D (dN D 6) d k u row a) ∧ gR I' 86 row k))) (hx : x = nI k) (hk : k + (d + 1) = dN D 6) (hrow : ∀ i, i < k → row i < 8) : ∀ (m j : Nat) (I : Nat → Nat → Int32) (a : gA), j + m = dN D 2 → oC I o D → gI (dN D 6) I a → gR I 86 row k → Ew (d + 1 + 1) mX1_extend 27 [.ref 85, .ref o, .int x, .int u, .int (fitS D k &&& (u ^^^ -1)), .int (nI j)] [] ((SH, nc, ns), I, J, F) (Ret nc ns none (fun I' J' F' => Fr 85 93 I I' ∧ J' = J ∧ F' = F ∧ gI (dN D 6) I' (gN (fun w a => if hbS u (nI w) = 0 then (if wasS D k w = 0 then a else nrS D (dN D 6) d (k + 1) (u ||| bit w) (upN row k w) a) else a) j m a) ∧ gR I' 86 row k))
  | 0, j, I, a, hj, hC, hg, hr => by
    have hD := hW.c
    have hH := hW.h
    have hT := hW.t
    have bt := hT.2
    obtain ⟨b0, b1, b2, b3, b4, b5, b6⟩ := hD.2
    refine we_iload (p := 29) dX1_extend_27 rfl rfl ?_
    refine we_aload_n (p := 30) dX1_extend_29 rfl rfl ?_
    refine we_getR (c := 4) (j := 2) (n := 18) (b := (o + 1)) (p := 33) dX1_extend_30 rfl (s_o ho) (l_o0 ho) (by decide) rfl (r_o2 hF ho) rfl ?_
    refine we_iconst (v := 2) (p := 34) dX1_extend_33 (by decide) rfl ?_
    refine wf_iald (n := 7) (i := 2) (v := nI (dN D 2)) (p := 35) dX1_extend_34 (s_o1 ho) (l_o ho 1 (by decide)) (by decide) (by decide) (cN hC hD (by decide)) rfl ?_
    refine we_icmp_ge (t := 76) (p := 38) dX1_extend_35 (by decide) rfl rfl (fun hc35 => ?_) (fun hc35 => absurd (nle (by omega) (by omega)) hc35)
    exact wv_ret dX1_extend_76 rfl (⟨rfl, _, _, _, rfl, Fr.rf, rfl, rfl, hg, hr⟩)
  | m + 1, j, I, a, hj, hC, hg, hr => by
    have hD := hW.c
    have hH := hW.h
    have hT := hW.t
    have bt := hT.2
    obtain ⟨b0, b1, b2, b3, b4, b5, b6⟩ := hD.2
    refine we_iload (p := 29) dX1_extend_27 rfl rfl ?_
    refine we_aload_n (p := 30) dX1_extend_29 rfl rfl ?_
    refine we_getR (c := 4) (j := 2) (n := 18) (b := (o + 1)) (p := 33) dX1_extend_30 rfl (s_o ho) (l_o0 ho) (by decide) rfl (r_o2 hF ho) rfl ?_
    refine we_iconst (v := 2) (p := 34) dX1_extend_33 (by decide) rfl ?_
    refine wf_iald (n := 7) (i := 2) (v := nI (dN D 2)) (p := 35) dX1_extend_34 (s_o1 ho) (l_o ho 1 (by decide)) (by decide) (by decide) (cN hC hD (by decide)) rfl ?_
    refine we_icmp_ge (t := 76) (p := 38) dX1_extend_35 (by decide) rfl rfl (fun hc35 => absurd hc35 (nge (by omega) (by omega))) (fun hc35 => ?_)
    refine we_iload (p := 40) dX1_extend_38 rfl rfl ?_
    refine we_iload (p := 42) dX1_extend_40 rfl rfl ?_
    refine we_ishr (p := 43) dX1_extend_42 rfl ?_
    refine we_iconst (v := 1) (p := 44) dX1_extend_43 (by decide) rfl ?_
    refine we_iand (p := 45) dX1_extend_44 rfl ?_
    refine we_if_eq (t := 70) (p := 48) dX1_extend_45 (by decide) rfl rfl (fun hc45 => ?_) (fun hc45 => ?_)
    · skip
      refine we_iinc (ls1 := [.ref 85, .ref o, .int x, .int u, .int (fitS D k &&& (u ^^^ -1)), .int ((nI j) + 1)]) (p := 73) dX1_extend_70 rfl rfl rfl ?_
      refine we_goto (p := 27) dX1_extend_73 (by decide) rfl ?_
      rw [nI_1]
      refine (x_extend_L ho hF hW hS hx hk hrow m (j + 1) I a (by omega) hC hg hr).mono ?_
      rw [gN_s, nr_no ((near_c hD (by omega)).mp hc45)]
      exact fun _ _ z => z
    · skip
      refine we_aload_n (p := 49) dX1_extend_48 rfl rfl ?_
      refine we_getR (c := 1) (j := 0) (n := 5) (b := 86) (p := 52) dX1_extend_49 rfl rfl (by decide) (by decide) rfl (r_85_0 hF) rfl ?_
      refine we_iload_n (p := 53) dX1_extend_52 rfl rfl ?_
      refine we_iload (p := 55) dX1_extend_53 rfl rfl ?_
      refine wf_iast (n := 4) (i := k) (p := 56) dX1_extend_55 rfl (by decide) (in_ix hx (by omega) (by decide)) (cl_ix hx (by omega)) rfl ?_
      refine we_aload_n (p := 57) dX1_extend_56 rfl rfl ?_
      refine we_aload_n (p := 58) dX1_extend_57 rfl rfl ?_
      refine we_iload_n (p := 59) dX1_extend_58 rfl rfl ?_
      refine we_iconst (v := 1) (p := 60) dX1_extend_59 (by decide) rfl ?_
      refine we_iadd (p := 61) dX1_extend_60 rfl ?_
      refine we_iload_n (p := 62) dX1_extend_61 rfl rfl ?_
      refine we_iconst (v := 1) (p := 63) dX1_extend_62 (by decide) rfl ?_
      refine we_iload (p := 65) dX1_extend_63 rfl rfl ?_
      refine we_ishl (p := 66) dX1_extend_65 rfl ?_
      refine we_ior (p := 67) dX1_extend_66 rfl ?_
      obtain ⟨_, _, e1, rfl, I1, J1, F1, rfl, ⟨f1, rfl, rfl, g1, r1⟩⟩ := hS (k + 1) (x + 1) (u ||| bit j) (upN row k j) a (hp_u I 86 k (nI j)) (by rw [hx, nI_1]) (by omega) (oC_u hC ho (by omega)) (gI_u hg (by omega)) (gR_up hr) (up8 hrow (by omega))
      refine we_callV_v (p := 70) (k' := (d + 1)) (a := [.ref 85, .ref o, .int (x + 1), .int (u ||| (1 <<< ((nI j) &&& 31)))]) (rr := []) dX1_extend_67 rfl rfl rfl rfl (rc_of rfl rfl (by decide) ⟨rfl, by decide⟩) (Nat.le_of_ble_eq_true rfl) (Nat.le_of_ble_eq_true rfl) (by omega) e1 (Or.inl rfl) rfl ?_
      refine we_iinc (ls1 := [.ref 85, .ref o, .int x, .int u, .int (fitS D k &&& (u ^^^ -1)), .int ((nI j) + 1)]) (p := 73) dX1_extend_70 rfl rfl rfl ?_
      refine we_goto (p := 27) dX1_extend_73 (by decide) rfl ?_
      rw [nI_1]
      refine (x_extend_L ho hF hW hS hx hk hrow m (j + 1) I1 _ (by omega) (oC_fr hC ho (fun q h1 h2 => (f1 q (by omega)).trans (hu_ne (by omega)))) g1 (gR_dn r1)).mono ?_
      rw [gN_s, nr_yes (Decidable.not_not.mp (fun z => hc45 ((near_c hD (by omega)).mpr z)))]
      rintro r h ⟨h1, I2, J2, F2, h2, h3, h4, h5, h6, h7⟩
      exact ⟨h1, I2, J2, F2, h2, ((Fr.rf.u (by omega) (by omega)).tr f1).tr h3, h4, h5, h6, h7⟩
set_option maxRecDepth 10000 in
theorem x_extend {J : Nat → Nat → Int64} {F : Nat → Nat → Option Nat} {nc ns : Nat} {o : Nat} {D : oD} (ho : isO o) (hF : RFok F) (hW : WF D) : ∀ d, ∀ (k : Nat) (x u : Int32) (row : Nat → Nat) (a : gA) (I : Nat → Nat → Int32), x = nI k → k + d = dN D 6 → oC I o D → gI (dN D 6) I a → gR I 86 row k → (∀ i, i < k → row i < 8) → Ew (d + 1) mX1_extend 0 [.ref 85, .ref o, .int x, .int u, .null, .null] [] ((SH, nc, ns), I, J, F) (Ret nc ns none (fun I' J' F' => Fr 85 93 I I' ∧ J' = J ∧ F' = F ∧ gI (dN D 6) I' (nrS D (dN D 6) d k u row a) ∧ gR I' 86 row k))
  | 0 => by
    intro k x u row a I hx hk hC hg hr hrow
    have hD := hW.c
    have hH := hW.h
    have hT := hW.t
    have bt := hT.2
    obtain ⟨b0, b1, b2, b3, b4, b5, b6⟩ := hD.2
    refine we_iload_n (p := 1) dX1_extend_0 rfl rfl ?_
    refine we_aload_n (p := 2) dX1_extend_1 rfl rfl ?_
    refine wf_getI (c := 1) (j := 4) (n := 5) (v := nI (dN D 6)) (p := 5) dX1_extend_2 rfl rfl (by decide) (by decide) (Or.inl rfl) hg.2.1 rfl ?_
    refine we_icmp_lt (t := 13) (p := 8) dX1_extend_5 (by decide) rfl rfl (fun hc5 => absurd hc5 (by rw [hx]; exact nI_nlt (by omega) (by omega))) (fun hc5 => ?_)
    refine we_aload_n (p := 9) dX1_extend_8 rfl rfl ?_
    obtain ⟨_, _, e1, rfl, I1, J1, F1, rfl, ⟨f1, q1, rfl, rfl, g1⟩⟩ := x_settle (I0 := I) (N := dN D 6) (row := row) hF b6 hg (fun i hi => hr i (by omega)) (fun i hi => hrow i (by omega))
    refine we_callV_v (p := 12) (k' := 0) (a := [.ref 85]) (rr := []) dX1_extend_9 rfl rfl rfl rfl (rc_of rfl rfl (by decide) ⟨rfl, by decide⟩) (Nat.le_of_ble_eq_true rfl) (Nat.le_of_ble_eq_true rfl) (by omega) e1 (Or.inl rfl) rfl ?_
    exact wv_ret dX1_extend_12 rfl (⟨rfl, _, _, _, rfl, f1, rfl, rfl, g1, fun i hi => (congrFun q1 i).trans (hr i hi)⟩)
  | d + 1 => by
    intro k x u row a I hx hk hC hg hr hrow
    have hD := hW.c
    have hH := hW.h
    have hT := hW.t
    have bt := hT.2
    obtain ⟨b0, b1, b2, b3, b4, b5, b6⟩ := hD.2
    refine we_iload_n (p := 1) dX1_extend_0 rfl rfl ?_
    refine we_aload_n (p := 2) dX1_extend_1 rfl rfl ?_
    refine wf_getI (c := 1) (j := 4) (n := 5) (v := nI (dN D 6)) (p := 5) dX1_extend_2 rfl rfl (by decide) (by decide) (Or.inl rfl) hg.2.1 rfl ?_
    refine we_icmp_lt (t := 13) (p := 8) dX1_extend_5 (by decide) rfl rfl (fun hc5 => ?_) (fun hc5 => absurd (by rw [hx]; exact nI_lt (by omega) (by omega)) hc5)
    refine we_aload_n (p := 14) dX1_extend_13 rfl rfl ?_
    refine we_iload_n (p := 15) dX1_extend_14 rfl rfl ?_
    refine we_callV_int (p := 18) (k' := 0) (a := [.ref o, .int x]) (rr := []) dX1_extend_15 rfl rfl rfl rfl (rc_of rfl (s_o ho) (l_o0 ho) ⟨rfl, by decide⟩) (Nat.le_of_ble_eq_true rfl) (Nat.le_of_ble_eq_true rfl) (by omega) (hx ▸ x_womenFitting ho hF hC hW.c (show k < dN D 6 by omega)) (Or.inl rfl) rfl ?_
    refine we_iload_n (p := 19) dX1_extend_18 rfl rfl ?_
    refine we_iconst (v := -1) (p := 20) dX1_extend_19 (by decide) rfl ?_
    refine we_ixor (p := 21) dX1_extend_20 rfl ?_
    refine we_iand (p := 22) dX1_extend_21 rfl ?_
    refine we_istore (ls1 := [.ref 85, .ref o, .int x, .int u, .int ((fitS D k) &&& (u ^^^ (-1))), .null]) (p := 24) dX1_extend_22 rfl rfl ?_
    refine we_iconst (v := 0) (p := 25) dX1_extend_24 (by decide) rfl ?_
    refine we_istore (ls1 := [.ref 85, .ref o, .int x, .int u, .int ((fitS D k) &&& (u ^^^ (-1))), .int 0]) (p := 27) dX1_extend_25 rfl rfl ?_
    exact x_extend_L ho hF hW (x_extend ho hF hW d) hx hk hrow (dN D 2) 0 I a (by omega) hC hg hr
