/-! Lives: the reference. -/
set_option maxRecDepth 10000 in
theorem y_courts_L {J : Nat → Nat → Int64} {F : Nat → Nat → Option Nat} {nc ns : Nat} {X : Nat → Nat → Int32} {D : oD} {w : Nat} {l : Int32} (hF : RFok F) (hM : oM X 98 D) (hW : WF D) (hw : w < dN D 2)  : ∀ (m j : Nat) (x : Int32), j + m = tN D → Ev 5 mX12_courts 2 [.ref 95, .int (nI w), .int l, .int (nI j)] [] ((SH, nc, ns), hp_u X 95 35 x, J, F) (some (.int (couG (loveS D w (l * D 0 0)) m x).2)) ((SH, nc, ns), hp_u X 95 35 (couG (loveS D w (l * D 0 0)) m x).1, J, F)
  | 0, j, x, hj => by
    have hD := hW.c
    have hH := hW.h
    have hT := hW.t
    have bt := hT.2
    obtain ⟨b0, b1, b2, b3, b4, b5, b6⟩ := hD.2
    refine e_iload_n (p := 3) dX12_courts_2 rfl rfl ?_
    refine e_aload_n (p := 4) dX12_courts_3 rfl rfl ?_
    refine e_getR (c := 11) (j := 15) (n := 37) (b := 98) (p := 7) dX12_courts_4 rfl rfl (by decide) (by decide) rfl (r_95_15 hF) rfl ?_
    refine e_iconst (v := 1) (p := 8) dX12_courts_7 (by decide) rfl ?_
    refine f_iald (n := 276) (i := 1) (v := nI (tN D)) (p := 9) dX12_courts_8 rfl (by decide) (by decide) (by decide) ((oM_u hM (by decide)).2.1.trans hT.1) rfl ?_
    refine e_icmp_ge (t := 54) (p := 12) dX12_courts_9 (by decide) rfl rfl (fun hc9 => ?_) (fun hc9 => absurd (nle (by omega) (by omega)) hc9)
    refine e_iconst (v := 1) (p := 55) dX12_courts_54 (by decide) rfl ?_
    exact e_iretE dX12_courts_55 rfl (by decide) (by decide) ⟨rfl, rfl⟩
  | m + 1, j, x, hj => by
    have hD := hW.c
    have hH := hW.h
    have hT := hW.t
    have bt := hT.2
    obtain ⟨b0, b1, b2, b3, b4, b5, b6⟩ := hD.2
    refine e_iload_n (p := 3) dX12_courts_2 rfl rfl ?_
    refine e_aload_n (p := 4) dX12_courts_3 rfl rfl ?_
    refine e_getR (c := 11) (j := 15) (n := 37) (b := 98) (p := 7) dX12_courts_4 rfl rfl (by decide) (by decide) rfl (r_95_15 hF) rfl ?_
    refine e_iconst (v := 1) (p := 8) dX12_courts_7 (by decide) rfl ?_
    refine f_iald (n := 276) (i := 1) (v := nI (tN D)) (p := 9) dX12_courts_8 rfl (by decide) (by decide) (by decide) ((oM_u hM (by decide)).2.1.trans hT.1) rfl ?_
    refine e_icmp_ge (t := 54) (p := 12) dX12_courts_9 (by decide) rfl rfl (fun hc9 => absurd hc9 (nge (by omega) (by omega))) (fun hc9 => ?_)
    refine e_aload_n (p := 13) dX12_courts_12 rfl rfl ?_
    refine e_bipush (v := 75) (p := 15) dX12_courts_13 (by decide) rfl ?_
    refine e_aload_n (p := 16) dX12_courts_15 rfl rfl ?_
    refine f_getI (c := 11) (j := 35) (n := 37) (v := x) (p := 19) dX12_courts_16 rfl rfl (by decide) (by decide) (Or.inl rfl) hu_eq rfl ?_
    refine e_imul (p := 20) dX12_courts_19 rfl ?_
    refine e_bipush (v := 74) (p := 22) dX12_courts_20 (by decide) rfl ?_
    refine e_iadd (p := 23) dX12_courts_22 rfl ?_
    refine e_ldcwI (p := 26) dX12_courts_23 rfl rfl ?_
    refine e_irem (p := 27) dX12_courts_26 (by decide) rfl ?_
    refine e_putI (c := 11) (j := 35) (n := 37)  (p := 30) dX12_courts_27 rfl rfl (by decide) (by decide) rfl rfl rfl ?_
    refine e_aload_n (p := 31) dX12_courts_30 rfl rfl ?_
    refine f_getI (c := 11) (j := 35) (n := 37) (v := drawS x) (p := 34) dX12_courts_31 rfl rfl (by decide) (by decide) (Or.inl rfl) hu_eq rfl ?_
    refine e_bipush (v := 100) (p := 36) dX12_courts_34 (by decide) rfl ?_
    refine e_irem (p := 37) dX12_courts_36 (by decide) rfl ?_
    refine e_aload_n (p := 38) dX12_courts_37 rfl rfl ?_
    refine e_iload_n (p := 39) dX12_courts_38 rfl rfl ?_
    refine e_iload_n (p := 40) dX12_courts_39 rfl rfl ?_
    refine e_callV_int (p := 43) (k' := 4) (a := [.ref 95, .int (nI w), .int l]) (rr := [.int ((drawS x) - (drawS x) / 100 * 100)]) dX12_courts_40 rfl rfl rfl rfl (rc_of rfl rfl (by decide) ⟨rfl, by decide⟩) (Nat.le_of_ble_eq_true rfl) (Nat.le_of_ble_eq_true rfl) (by decide) (y_loveOf hF (oM_u (oM_u hM (by decide)) (by decide)) hW (by omega)) (Or.inl rfl) rfl ?_
    refine e_icmp_lt (t := 48) (p := 46) dX12_courts_43 (by decide) rfl rfl (fun hc43 => ?_) (fun hc43 => ?_)
    · skip
      refine e_iinc (ls1 := [.ref 95, .int (nI w), .int l, .int ((nI j) + 1)]) (p := 51) dX12_courts_48 rfl rfl rfl ?_
      refine e_goto (p := 2) dX12_courts_51 (by decide) rfl ?_
      rw [nI_1, hu_hu]
      have e : couG (loveS D w (l * D 0 0)) (m + 1) x = couG (loveS D w (l * D 0 0)) m (drawS x) := by
        rw [couG, if_pos hc43]
      rw [e]
      exact y_courts_L hF hM hW hw m (j + 1) _ (by omega)
    · skip
      refine e_iconst (v := 0) (p := 47) dX12_courts_46 (by decide) rfl ?_
      exact e_iretE dX12_courts_47 rfl (by decide) (by decide) ⟨by simp only [couG, hc43, ↓reduceIte], by simp only [couG, hc43, ↓reduceIte, hu_hu]; rfl⟩
set_option maxRecDepth 10000 in
theorem y_courts {I : Nat → Nat → Int32} {J : Nat → Nat → Int64} {F : Nat → Nat → Option Nat} {nc ns : Nat} {D : oD} {w : Nat} {l x : Int32} (hF : RFok F) (hM : oM I 98 D) (hW : WF D) (hw : w < dN D 2) (hx : I 95 35 = x)  : Ev 5 mX12_courts 0 [.ref 95, .int (nI w), .int l, .null] [] ((SH, nc, ns), I, J, F) (some (.int (couS D w l x).2)) ((SH, nc, ns), hp_u I 95 35 (couS D w l x).1, J, F) := by
  have hD := hW.c
  have hH := hW.h
  have hT := hW.t
  have bt := hT.2
  obtain ⟨b0, b1, b2, b3, b4, b5, b6⟩ := hD.2
  refine e_iconst (v := 0) (p := 1) dX12_courts_0 (by decide) rfl ?_
  refine e_istore_n (ls1 := [.ref 95, .int (nI w), .int l, .int 0]) (p := 2) dX12_courts_1 rfl rfl ?_
  exact Ev.h0 (by rw [hu_self hx]) (y_courts_L (X := I) hF hM hW hw (tN D) 0 x (by omega))
def dearM (D : oD) (a : Nat) (tr l : Int32) (w : Nat) (z : Int32 × Int32) : Int32 × Int32 := if hbS tr (nI w) = 0 then (if canS D a (D 7 w) = 0 then z else if loveS D w (l * D 0 0) ≤ z.2 then z else (nI w, loveS D w (l * D 0 0))) else z
theorem dearM_go {D : oD} {a : Nat} {tr l : Int32} : ∀ m j (z y : Int32 × Int32), j + m ≤ 8 → ((z.1 = -1 ∧ y.1 = -2) ∨ (z.1 = y.1 ∧ ∃ w, w < 8 ∧ y.1 = nI w)) → z.2 = y.2 →
    ((gN (dearM D a tr l) j m z).1 = -1 ∧ (gN (dearF D (reachS D a) tr l) j m y).1 = -2) ∨ ((gN (dearM D a tr l) j m z).1 = (gN (dearF D (reachS D a) tr l) j m y).1 ∧ ∃ w, w < 8 ∧ (gN (dearF D (reachS D a) tr l) j m y).1 = nI w)
  | 0, _, _, _, _, h, _ => h
  | m + 1, j, z, y, hj, h, h2 => by
    rw [gN, gN]
    have hb : hbS tr (nI j) = 0 ↔ (tr >>> (nI j &&& 31)) &&& 1 = 0 := by
      rw [hb_tb (by omega), tb_0 (by omega)]
      cases tb tr j <;> decide
    have hc : canS D a (D 7 j) = 0 ↔ (reachS D a >>> (D 7 j &&& 31)) &&& 1 = 0 := by
      unfold canS
      by_cases c : (reachS D a >>> (D 7 j &&& 31)) &&& 1 = 0
      · simp [c]
      · simp [c]
    refine dearM_go m (j + 1) _ _ (by omega) ?_ ?_
    · unfold dearM dearF
      by_cases c1 : hbS tr (nI j) = 0
      · by_cases c2 : canS D a (D 7 j) = 0
        · rw [if_pos c1, if_pos c2, if_pos (hc.mp c2)]
          exact h
        · rw [if_pos c1, if_neg c2, if_neg (fun q => c2 (hc.mpr q)), if_pos (hb.mp c1), h2]
          split
          · exact h
          · exact Or.inr ⟨rfl, j, by omega, rfl⟩
      · rw [if_neg c1]
        by_cases c2 : (reachS D a >>> (D 7 j &&& 31)) &&& 1 = 0
        · rw [if_pos c2]
          exact h
        · rw [if_neg c2, if_neg (fun q => c1 (hb.mpr q))]
          exact h
    · unfold dearM dearF
      by_cases c1 : hbS tr (nI j) = 0
      · by_cases c2 : canS D a (D 7 j) = 0
        · rw [if_pos c1, if_pos c2, if_pos (hc.mp c2)]
          exact h2
        · rw [if_pos c1, if_neg c2, if_neg (fun q => c2 (hc.mpr q)), if_pos (hb.mp c1), h2]
          split
          · exact h2
          · rfl
      · rw [if_neg c1]
        by_cases c2 : (reachS D a >>> (D 7 j &&& 31)) &&& 1 = 0
        · rw [if_pos c2]
          exact h2
        · rw [if_neg c2, if_neg (fun q => c1 (hb.mpr q))]
          exact h2
theorem dearM_eq {D : oD} {a : Nat} {tr l : Int32} (hD : WFc D) : ((gN (dearM D a tr l) 0 (dN D 2) (-1, 0)).1 = -1 ∧ dearS D (reachS D a) tr l = -2) ∨ ∃ w, w < dN D 2 ∧ (gN (dearM D a tr l) 0 (dN D 2) (-1, 0)).1 = nI w ∧ dearS D (reachS D a) tr l = nI w := by
  have b2 := hD.2.2.2.1
  have h := dearM_go (D := D) (a := a) (tr := tr) (l := l) (dN D 2) 0 (-1, 0) (-2, 0) (by omega) (Or.inl ⟨rfl, rfl⟩) rfl
  rcases h with h | ⟨h1, w, hw, h3⟩
  · exact Or.inl h
  · rcases dear_of (D := D) (hs := reachS D a) (lo := tr) (l := l) with e | ⟨w2, hw2, e⟩
    · exact absurd (h3.symm.trans e) (nI_m2 (by omega))
    · exact Or.inr ⟨w2, hw2, h1.trans e, e⟩
def goG (D : oD) (l0 : Int32) : Nat → Nat → Nat → Int32 → Int32 → Int32 × Int32 × Int32
  | 0, _, _, _, sd => (0, -2, sd)
  | m + 1, k, a, tr, sd => if dearS D (reachS D a) tr (l0 + nI k) = -2 then goG D l0 m (k + 1) a tr sd else
    if (couS D (dearS D (reachS D a) tr (l0 + nI k)).toNatClampNeg (l0 + nI k) sd).2 = 0 then goG D l0 m (k + 1) (hN D (dearS D (reachS D a) tr (l0 + nI k)).toNatClampNeg) (tr ||| bit (dearS D (reachS D a) tr (l0 + nI k)).toNatClampNeg) (couS D (dearS D (reachS D a) tr (l0 + nI k)).toNatClampNeg (l0 + nI k) sd).1
    else (nI k, dearS D (reachS D a) tr (l0 + nI k), (couS D (dearS D (reachS D a) tr (l0 + nI k)).toNatClampNeg (l0 + nI k) sd).1)
set_option maxRecDepth 10000 in
theorem y_go_i {I : Nat → Nat → Int32} {J : Nat → Nat → Int64} {F : Nat → Nat → Option Nat} {nc ns : Nat} {D : oD} (hF : RFok F) (hM : oM I 98 D) (hW : WF D) {n a k : Nat} {tr l : Int32} (ha : a < dN D 0)  {Q : Option Value → hp_H → Prop} : ∀ (m j : Nat) (best : Int32) (most : Int32), j + m = dN D 2 → Ew 6 mX12_goThrough 120 [.ref 95, .int (nI n), .int (nI a), .int tr, .int (nI k), .int l, .int ((gN (dearM D a tr l) j m (best, most)).1), .int ((gN (dearM D a tr l) j m (best, most)).2), .int (nI (dN D 2))] [] ((SH, nc, ns), I, J, F) Q → Ew 6 mX12_goThrough 49 [.ref 95, .int (nI n), .int (nI a), .int tr, .int (nI k), .int l, .int best, .int most, .int (nI j)] [] ((SH, nc, ns), I, J, F) Q
  | 0, j, best, most, hj => fun q => by
    have hD := hW.c
    have hH := hW.h
    have hT := hW.t
    have bt := hT.2
    obtain ⟨b0, b1, b2, b3, b4, b5, b6⟩ := hD.2
    obtain rfl : j = dN D 2 := by omega
    refine we_iload (p := 51) dX12_goThrough_49 rfl rfl ?_
    refine we_aload_n (p := 52) dX12_goThrough_51 rfl rfl ?_
    refine we_getR (c := 11) (j := 15) (n := 37) (b := 98) (p := 55) dX12_goThrough_52 rfl rfl (by decide) (by decide) rfl (r_95_15 hF) rfl ?_
    refine we_iconst (v := 4) (p := 56) dX12_goThrough_55 (by decide) rfl ?_
    refine wf_iald (n := 276) (i := 4) (v := nI (dN D 2)) (p := 57) dX12_goThrough_56 rfl (by decide) (by decide) (by decide) (mNn (i := 2) hM hD (by decide)) rfl ?_
    refine we_icmp_ge (t := 120) (p := 60) dX12_goThrough_57 (by decide) rfl rfl (fun hc57 => ?_) (fun hc57 => absurd (nle (by omega) (by omega)) hc57)
    exact q
  | m + 1, j, best, most, hj => fun q => by
    have hD := hW.c
    have hH := hW.h
    have hT := hW.t
    have bt := hT.2
    obtain ⟨b0, b1, b2, b3, b4, b5, b6⟩ := hD.2
    refine we_iload (p := 51) dX12_goThrough_49 rfl rfl ?_
    refine we_aload_n (p := 52) dX12_goThrough_51 rfl rfl ?_
    refine we_getR (c := 11) (j := 15) (n := 37) (b := 98) (p := 55) dX12_goThrough_52 rfl rfl (by decide) (by decide) rfl (r_95_15 hF) rfl ?_
    refine we_iconst (v := 4) (p := 56) dX12_goThrough_55 (by decide) rfl ?_
    refine wf_iald (n := 276) (i := 4) (v := nI (dN D 2)) (p := 57) dX12_goThrough_56 rfl (by decide) (by decide) (by decide) (mNn (i := 2) hM hD (by decide)) rfl ?_
    refine we_icmp_ge (t := 120) (p := 60) dX12_goThrough_57 (by decide) rfl rfl (fun hc57 => absurd hc57 (nge (by omega) (by omega))) (fun hc57 => ?_)
    refine we_iload_n (p := 61) dX12_goThrough_60 rfl rfl ?_
    refine we_iload (p := 63) dX12_goThrough_61 rfl rfl ?_
    refine we_callS_int (p := 66) (k' := 0) (a := [.int tr, .int (nI j)]) (rr := []) dX12_goThrough_63 rfl rfl rfl rfl rfl (rc_st rfl) (Nat.le_of_ble_eq_true rfl) (Nat.le_of_ble_eq_true rfl) (by decide) (y_hasBit  ) (Or.inl rfl) rfl ?_
    refine we_if_ne (t := 114) (p := 69) dX12_goThrough_66 (by decide) rfl rfl (fun hc66 => ?_) (fun hc66 => ?_)
    · skip
      refine we_iinc (ls1 := [.ref 95, .int (nI n), .int (nI a), .int tr, .int (nI k), .int l, .int best, .int most, .int ((nI j) + 1)]) (p := 117) dX12_goThrough_114 rfl rfl rfl ?_
      refine we_goto (p := 49) dX12_goThrough_117 (by decide) rfl ?_
      rw [nI_1]
      refine y_go_i hF hM hW ha m (j + 1) best most  (by omega) ?_
      simpa only [gN_s, dearM, hc66, bit, Int32.or_zero, Int32.add_zero, ↓reduceIte] using q
    · skip
      refine we_aload_n (p := 70) dX12_goThrough_69 rfl rfl ?_
      refine we_iload_n (p := 71) dX12_goThrough_70 rfl rfl ?_
      refine we_aload_n (p := 72) dX12_goThrough_71 rfl rfl ?_
      refine we_iload (p := 74) dX12_goThrough_72 rfl rfl ?_
      refine we_iconst (v := 1) (p := 75) dX12_goThrough_74 (by decide) rfl ?_
      refine we_callV_int (p := 78) (k' := 0) (a := [.ref 95, .int (nI j), .int 1]) (rr := [.int (nI a), .ref 95]) dX12_goThrough_75 rfl rfl rfl rfl (rc_of rfl rfl (by decide) ⟨rfl, by decide⟩) (Nat.le_of_ble_eq_true rfl) (Nat.le_of_ble_eq_true rfl) (by decide) (y_ofWoman (x := j) (k := 1) hF (m7 hM (by omega)) (by omega) (by omega)) (Or.inl rfl) rfl ?_
      refine we_callV_int (p := 81) (k' := 1) (a := [.ref 95, .int (nI a), .int (D 7 j)]) (rr := []) dX12_goThrough_78 rfl rfl rfl rfl (rc_of rfl rfl (by decide) ⟨rfl, by decide⟩) (Nat.le_of_ble_eq_true rfl) (Nat.le_of_ble_eq_true rfl) (by decide) (y_canBe hF hM hW rfl (hm_eq hD hH (by omega)) (by omega) (Nat.lt_of_lt_of_le (hm_lt hD hH (show j < dN D 2 by omega)) (by omega))) (Or.inl rfl) rfl ?_
      refine we_if_eq (t := 114) (p := 84) dX12_goThrough_81 (by decide) rfl rfl (fun hc81 => ?_) (fun hc81 => ?_)
      · skip
        refine we_iinc (ls1 := [.ref 95, .int (nI n), .int (nI a), .int tr, .int (nI k), .int l, .int best, .int most, .int ((nI j) + 1)]) (p := 117) dX12_goThrough_114 rfl rfl rfl ?_
        refine we_goto (p := 49) dX12_goThrough_117 (by decide) rfl ?_
        rw [nI_1]
        refine y_go_i hF hM hW ha m (j + 1) best most  (by omega) ?_
        simpa only [gN_s, dearM, hc66, hc81, bit, Int32.or_zero, Int32.add_zero, ↓reduceIte] using q
      · skip
        refine we_aload_n (p := 85) dX12_goThrough_84 rfl rfl ?_
        refine we_iload (p := 87) dX12_goThrough_85 rfl rfl ?_
        refine we_iload (p := 89) dX12_goThrough_87 rfl rfl ?_
        refine we_callV_int (p := 92) (k' := 4) (a := [.ref 95, .int (nI j), .int l]) (rr := []) dX12_goThrough_89 rfl rfl rfl rfl (rc_of rfl rfl (by decide) ⟨rfl, by decide⟩) (Nat.le_of_ble_eq_true rfl) (Nat.le_of_ble_eq_true rfl) (by decide) (y_loveOf hF hM hW (by omega)) (Or.inl rfl) rfl ?_
        refine we_iload (p := 94) dX12_goThrough_92 rfl rfl ?_
        refine we_icmp_gt (t := 100) (p := 97) dX12_goThrough_94 (by decide) rfl rfl (fun hc94 => ?_) (fun hc94 => ?_)
        · skip
          refine we_iload (p := 102) dX12_goThrough_100 rfl rfl ?_
          refine we_istore (ls1 := [.ref 95, .int (nI n), .int (nI a), .int tr, .int (nI k), .int l, .int (nI j), .int most, .int (nI j)]) (p := 104) dX12_goThrough_102 rfl rfl ?_
          refine we_aload_n (p := 105) dX12_goThrough_104 rfl rfl ?_
          refine we_iload (p := 107) dX12_goThrough_105 rfl rfl ?_
          refine we_iload (p := 109) dX12_goThrough_107 rfl rfl ?_
          refine we_callV_int (p := 112) (k' := 4) (a := [.ref 95, .int (nI j), .int l]) (rr := []) dX12_goThrough_109 rfl rfl rfl rfl (rc_of rfl rfl (by decide) ⟨rfl, by decide⟩) (Nat.le_of_ble_eq_true rfl) (Nat.le_of_ble_eq_true rfl) (by decide) (y_loveOf hF hM hW (by omega)) (Or.inl rfl) rfl ?_
          refine we_istore (ls1 := [.ref 95, .int (nI n), .int (nI a), .int tr, .int (nI k), .int l, .int (nI j), .int (loveS D j (l * D 0 0)), .int (nI j)]) (p := 114) dX12_goThrough_112 rfl rfl ?_
          refine we_iinc (ls1 := [.ref 95, .int (nI n), .int (nI a), .int tr, .int (nI k), .int l, .int (nI j), .int (loveS D j (l * D 0 0)), .int ((nI j) + 1)]) (p := 117) dX12_goThrough_114 rfl rfl rfl ?_
          refine we_goto (p := 49) dX12_goThrough_117 (by decide) rfl ?_
          rw [nI_1]
          refine y_go_i hF hM hW ha m (j + 1) (nI j) (loveS D j (l * D 0 0))  (by omega) ?_
          simpa only [gN_s, dearM, hc66, hc81, hc94, (Int32.not_le.mpr hc94), bit, Int32.or_zero, Int32.add_zero, ↓reduceIte] using q
        · skip
          refine we_goto (p := 114) dX12_goThrough_97 (by decide) rfl ?_
          refine we_iinc (ls1 := [.ref 95, .int (nI n), .int (nI a), .int tr, .int (nI k), .int l, .int best, .int most, .int ((nI j) + 1)]) (p := 117) dX12_goThrough_114 rfl rfl rfl ?_
          refine we_goto (p := 49) dX12_goThrough_117 (by decide) rfl ?_
          rw [nI_1]
          refine y_go_i hF hM hW ha m (j + 1) best most  (by omega) ?_
          simpa only [gN_s, dearM, hc66, hc81, hc94, (Int32.not_lt.mp hc94), bit, Int32.or_zero, Int32.add_zero, ↓reduceIte] using q
set_option maxRecDepth 10000 in
theorem y_go_L {J : Nat → Nat → Int64} {F : Nat → Nat → Option Nat} {nc ns : Nat} {D : oD} {s : Nat → Int32} {n : Nat} (hF : RFok F) (hW : WF D) (hn : n ≤ 100) : ∀ (m k : Nat) (I : Nat → Nat → Int32) (a : Nat) (tr sd : Int32) (z5 z6 z7 z8 : Value), k + m = n + 1 → oM I 98 D → stM I s → I 95 35 = sd → I 95 36 = -2 → a < dN D 0 → Ew 6 mX12_goThrough 23 [.ref 95, .int (nI n), .int (nI a), .int tr, .int (nI k), z5, z6, z7, z8] [] ((SH, nc, ns), I, J, F) (Ret nc ns (some (.int (goG D (s 0) m k a tr sd).1)) (fun I' J' F' => Fm 103 103 35 37 I I' ∧ J' = J ∧ F' = F ∧ I' 95 36 = (goG D (s 0) m k a tr sd).2.1 ∧ I' 95 35 = (goG D (s 0) m k a tr sd).2.2))
  | 0, k, I, a, tr, sd, z5, z6, z7, z8, hj, hM, hs, h35, h36, ha => by
    have hD := hW.c
    have hH := hW.h
    have hT := hW.t
    have bt := hT.2
    obtain ⟨b0, b1, b2, b3, b4, b5, b6⟩ := hD.2
    refine we_iload (p := 25) dX12_goThrough_23 rfl rfl ?_
    refine we_iload_n (p := 26) dX12_goThrough_25 rfl rfl ?_
    refine we_icmp_gt (t := 172) (p := 29) dX12_goThrough_26 (by decide) rfl rfl (fun hc26 => ?_) (fun hc26 => absurd (nI_lt (a := n) (b := k) (by omega) (by omega)) hc26)
    refine we_iconst (v := 0) (p := 173) dX12_goThrough_172 (by decide) rfl ?_
    exact wi_ret dX12_goThrough_173 rfl rfl (by decide) (⟨rfl, _, _, _, rfl, Fm.rf, rfl, rfl, h36, h35⟩)
  | m + 1, k, I, a, tr, sd, z5, z6, z7, z8, hj, hM, hs, h35, h36, ha => by
    have hD := hW.c
    have hH := hW.h
    have hT := hW.t
    have bt := hT.2
    obtain ⟨b0, b1, b2, b3, b4, b5, b6⟩ := hD.2
    rcases dearM_eq (D := D) (a := a) (tr := tr) (l := (s 0 + nI k)) hD with ⟨e1, e2⟩ | ⟨w, hw, e1, e2⟩
    · skip
      refine we_iload (p := 25) dX12_goThrough_23 rfl rfl ?_
      refine we_iload_n (p := 26) dX12_goThrough_25 rfl rfl ?_
      refine we_icmp_gt (t := 172) (p := 29) dX12_goThrough_26 (by decide) rfl rfl (fun hc26 => absurd hc26 (nI_nlt (a := n) (b := k) (by omega) (by omega))) (fun hc26 => ?_)
      refine we_aload_n (p := 30) dX12_goThrough_29 rfl rfl ?_
      refine we_getR (c := 11) (j := 17) (n := 37) (b := 100) (p := 33) dX12_goThrough_30 rfl rfl (by decide) (by decide) rfl (r_95_17 hF) rfl ?_
      refine we_iconst (v := 0) (p := 34) dX12_goThrough_33 (by decide) rfl ?_
      refine wf_iald (n := 6) (i := 0) (v := s 0) (p := 35) dX12_goThrough_34 rfl (by decide) (by decide) (by decide) (hs 0 (by decide)) rfl ?_
      refine we_iload (p := 37) dX12_goThrough_35 rfl rfl ?_
      refine we_iadd (p := 38) dX12_goThrough_37 rfl ?_
      refine we_istore (ls1 := [.ref 95, .int (nI n), .int (nI a), .int tr, .int (nI k), .int ((s 0) + (nI k)), z6, z7, z8]) (p := 40) dX12_goThrough_38 rfl rfl ?_
      refine we_iconst (v := -1) (p := 41) dX12_goThrough_40 (by decide) rfl ?_
      refine we_istore (ls1 := [.ref 95, .int (nI n), .int (nI a), .int tr, .int (nI k), .int ((s 0) + (nI k)), .int (-1), z7, z8]) (p := 43) dX12_goThrough_41 rfl rfl ?_
      refine we_iconst (v := 0) (p := 44) dX12_goThrough_43 (by decide) rfl ?_
      refine we_istore (ls1 := [.ref 95, .int (nI n), .int (nI a), .int tr, .int (nI k), .int ((s 0) + (nI k)), .int (-1), .int 0, z8]) (p := 46) dX12_goThrough_44 rfl rfl ?_
      refine we_iconst (v := 0) (p := 47) dX12_goThrough_46 (by decide) rfl ?_
      refine we_istore (ls1 := [.ref 95, .int (nI n), .int (nI a), .int tr, .int (nI k), .int ((s 0) + (nI k)), .int (-1), .int 0, .int 0]) (p := 49) dX12_goThrough_47 rfl rfl ?_
      refine y_go_i hF hM hW ha (dN D 2) 0 _ _ (by omega) ?_
      rw [e1]
      refine we_iload (p := 122) dX12_goThrough_120 rfl rfl ?_
      refine we_if_ge (t := 128) (p := 125) dX12_goThrough_122 (by decide) rfl rfl (fun hc122 => absurd hc122 (by decide)) (fun hc122 => ?_)
      refine we_goto (p := 166) dX12_goThrough_125 (by decide) rfl ?_
      refine we_iinc (ls1 := [.ref 95, .int (nI n), .int (nI a), .int tr, .int ((nI k) + 1), .int (s 0 + nI k), .int (-1), .int ((gN (dearM D a tr (s 0 + nI k)) 0 (dN D 2) (-1, 0)).2), .int (nI (dN D 2))]) (p := 169) dX12_goThrough_166 rfl rfl rfl ?_
      refine we_goto (p := 23) dX12_goThrough_169 (by decide) rfl ?_
      rw [nI_1]
      rw [show goG D (s 0) (m + 1) k a tr sd = goG D (s 0) m (k + 1) a tr sd from if_pos e2]
      exact y_go_L hF hW hn m (k + 1) I a tr sd _ _ _ _ (by omega) hM hs h35 h36 ha
    · by_cases c : (couS D w (s 0 + nI k) sd).2 = 0
      · skip
        refine we_iload (p := 25) dX12_goThrough_23 rfl rfl ?_
        refine we_iload_n (p := 26) dX12_goThrough_25 rfl rfl ?_
        refine we_icmp_gt (t := 172) (p := 29) dX12_goThrough_26 (by decide) rfl rfl (fun hc26 => absurd hc26 (nI_nlt (a := n) (b := k) (by omega) (by omega))) (fun hc26 => ?_)
        refine we_aload_n (p := 30) dX12_goThrough_29 rfl rfl ?_
        refine we_getR (c := 11) (j := 17) (n := 37) (b := 100) (p := 33) dX12_goThrough_30 rfl rfl (by decide) (by decide) rfl (r_95_17 hF) rfl ?_
        refine we_iconst (v := 0) (p := 34) dX12_goThrough_33 (by decide) rfl ?_
        refine wf_iald (n := 6) (i := 0) (v := s 0) (p := 35) dX12_goThrough_34 rfl (by decide) (by decide) (by decide) (hs 0 (by decide)) rfl ?_
        refine we_iload (p := 37) dX12_goThrough_35 rfl rfl ?_
        refine we_iadd (p := 38) dX12_goThrough_37 rfl ?_
        refine we_istore (ls1 := [.ref 95, .int (nI n), .int (nI a), .int tr, .int (nI k), .int ((s 0) + (nI k)), z6, z7, z8]) (p := 40) dX12_goThrough_38 rfl rfl ?_
        refine we_iconst (v := -1) (p := 41) dX12_goThrough_40 (by decide) rfl ?_
        refine we_istore (ls1 := [.ref 95, .int (nI n), .int (nI a), .int tr, .int (nI k), .int ((s 0) + (nI k)), .int (-1), z7, z8]) (p := 43) dX12_goThrough_41 rfl rfl ?_
        refine we_iconst (v := 0) (p := 44) dX12_goThrough_43 (by decide) rfl ?_
        refine we_istore (ls1 := [.ref 95, .int (nI n), .int (nI a), .int tr, .int (nI k), .int ((s 0) + (nI k)), .int (-1), .int 0, z8]) (p := 46) dX12_goThrough_44 rfl rfl ?_
        refine we_iconst (v := 0) (p := 47) dX12_goThrough_46 (by decide) rfl ?_
        refine we_istore (ls1 := [.ref 95, .int (nI n), .int (nI a), .int tr, .int (nI k), .int ((s 0) + (nI k)), .int (-1), .int 0, .int 0]) (p := 49) dX12_goThrough_47 rfl rfl ?_
        refine y_go_i hF hM hW ha (dN D 2) 0 _ _ (by omega) ?_
        rw [e1]
        refine we_iload (p := 122) dX12_goThrough_120 rfl rfl ?_
        refine we_if_ge (t := 128) (p := 125) dX12_goThrough_122 (by decide) rfl rfl (fun hc122 => ?_) (fun hc122 => absurd (nI_pos' (by omega)) hc122)
        refine we_aload_n (p := 129) dX12_goThrough_128 rfl rfl ?_
        refine we_iload (p := 131) dX12_goThrough_129 rfl rfl ?_
        refine we_iconst (v := 1) (p := 132) dX12_goThrough_131 (by decide) rfl ?_
        refine we_callV_int (p := 135) (k' := 0) (a := [.ref 95, .int (nI w), .int 1]) (rr := []) dX12_goThrough_132 rfl rfl rfl rfl (rc_of rfl rfl (by decide) ⟨rfl, by decide⟩) (Nat.le_of_ble_eq_true rfl) (Nat.le_of_ble_eq_true rfl) (by decide) (y_ofWoman (x := w) (k := 1) hF (m7 hM (by omega)) (by omega) (by omega)) (Or.inl rfl) rfl ?_
        refine we_istore_n (ls1 := [.ref 95, .int (nI n), .int (D 7 w), .int tr, .int (nI k), .int (s 0 + nI k), .int (nI w), .int ((gN (dearM D a tr (s 0 + nI k)) 0 (dN D 2) (-1, 0)).2), .int (nI (dN D 2))]) (p := 136) dX12_goThrough_135 rfl rfl ?_
        refine we_iload_n (p := 137) dX12_goThrough_136 rfl rfl ?_
        refine we_iconst (v := 1) (p := 138) dX12_goThrough_137 (by decide) rfl ?_
        refine we_iload (p := 140) dX12_goThrough_138 rfl rfl ?_
        refine we_ishl (p := 141) dX12_goThrough_140 rfl ?_
        refine we_ior (p := 142) dX12_goThrough_141 rfl ?_
        refine we_istore_n (ls1 := [.ref 95, .int (nI n), .int (D 7 w), .int (tr ||| (1 <<< ((nI w) &&& 31))), .int (nI k), .int (s 0 + nI k), .int (nI w), .int ((gN (dearM D a tr (s 0 + nI k)) 0 (dN D 2) (-1, 0)).2), .int (nI (dN D 2))]) (p := 143) dX12_goThrough_142 rfl rfl ?_
        refine we_aload_n (p := 144) dX12_goThrough_143 rfl rfl ?_
        refine we_iload (p := 146) dX12_goThrough_144 rfl rfl ?_
        refine we_iload (p := 148) dX12_goThrough_146 rfl rfl ?_
        refine we_callV_int (p := 151) (k' := 5) (a := [.ref 95, .int (nI w), .int (s 0 + nI k)]) (rr := []) dX12_goThrough_148 rfl rfl rfl rfl (rc_of rfl rfl (by decide) ⟨rfl, by decide⟩) (Nat.le_of_ble_eq_true rfl) (Nat.le_of_ble_eq_true rfl) (by decide) (Ev.i c (y_courts hF hM hW hw h35)) (Or.inl rfl) rfl ?_
        refine we_if_ne (t := 157) (p := 154) dX12_goThrough_151 (by decide) rfl rfl (fun hc151 => absurd (by decide) hc151) (fun hc151 => ?_)
        refine we_goto (p := 166) dX12_goThrough_154 (by decide) rfl ?_
        refine we_iinc (ls1 := [.ref 95, .int (nI n), .int (D 7 w), .int (tr ||| (1 <<< ((nI w) &&& 31))), .int ((nI k) + 1), .int (s 0 + nI k), .int (nI w), .int ((gN (dearM D a tr (s 0 + nI k)) 0 (dN D 2) (-1, 0)).2), .int (nI (dN D 2))]) (p := 169) dX12_goThrough_166 rfl rfl rfl ?_
        refine we_goto (p := 23) dX12_goThrough_169 (by decide) rfl ?_
        rw [nI_1]
        have e3 : (dearS D (reachS D a) tr (s 0 + nI k)).toNatClampNeg = w := by rw [e2, nI_cl (by omega)]
        have eg : goG D (s 0) (m + 1) k a tr sd = goG D (s 0) m (k + 1) (hN D w) (tr ||| bit w) (couS D w (s 0 + nI k) sd).1 := by
          rw [goG, if_neg (show ¬ dearS D (reachS D a) tr (s 0 + nI k) = -2 from fun z => nI_m2 (show w < 1000 by omega) (e2.symm.trans z)), e3, if_pos c]
        rw [eg, show D 7 w = nI (hN D w) from hm_eq hD hH hw]
        refine (y_go_L hF hW hn m (k + 1) _ (hN D w) (tr ||| bit w) _ _ _ _ _ (by omega) (oM_u hM (by decide)) (stM_u hs (by decide)) hu_eq ((hu_nj (by decide)).trans h36) (hm_lt hD hH hw)).mono ?_
        rintro r h ⟨h1, I2, J2, F2, h2, h3, h4⟩
        exact ⟨h1, I2, J2, F2, h2, (Fm.rf.f (by omega) (by omega)).tr h3, h4⟩
      · skip
        have e3 : (dearS D (reachS D a) tr (s 0 + nI k)).toNatClampNeg = w := by rw [e2, nI_cl (by omega)]
        have eg : goG D (s 0) (m + 1) k a tr sd = (nI k, nI w, (couS D w (s 0 + nI k) sd).1) := by
          rw [goG, if_neg (show ¬ dearS D (reachS D a) tr (s 0 + nI k) = -2 from fun z => nI_m2 (show w < 1000 by omega) (e2.symm.trans z)), e3, if_neg c, e2]
        refine we_iload (p := 25) dX12_goThrough_23 rfl rfl ?_
        refine we_iload_n (p := 26) dX12_goThrough_25 rfl rfl ?_
        refine we_icmp_gt (t := 172) (p := 29) dX12_goThrough_26 (by decide) rfl rfl (fun hc26 => absurd hc26 (nI_nlt (a := n) (b := k) (by omega) (by omega))) (fun hc26 => ?_)
        refine we_aload_n (p := 30) dX12_goThrough_29 rfl rfl ?_
        refine we_getR (c := 11) (j := 17) (n := 37) (b := 100) (p := 33) dX12_goThrough_30 rfl rfl (by decide) (by decide) rfl (r_95_17 hF) rfl ?_
        refine we_iconst (v := 0) (p := 34) dX12_goThrough_33 (by decide) rfl ?_
        refine wf_iald (n := 6) (i := 0) (v := s 0) (p := 35) dX12_goThrough_34 rfl (by decide) (by decide) (by decide) (hs 0 (by decide)) rfl ?_
        refine we_iload (p := 37) dX12_goThrough_35 rfl rfl ?_
        refine we_iadd (p := 38) dX12_goThrough_37 rfl ?_
        refine we_istore (ls1 := [.ref 95, .int (nI n), .int (nI a), .int tr, .int (nI k), .int ((s 0) + (nI k)), z6, z7, z8]) (p := 40) dX12_goThrough_38 rfl rfl ?_
        refine we_iconst (v := -1) (p := 41) dX12_goThrough_40 (by decide) rfl ?_
        refine we_istore (ls1 := [.ref 95, .int (nI n), .int (nI a), .int tr, .int (nI k), .int ((s 0) + (nI k)), .int (-1), z7, z8]) (p := 43) dX12_goThrough_41 rfl rfl ?_
        refine we_iconst (v := 0) (p := 44) dX12_goThrough_43 (by decide) rfl ?_
        refine we_istore (ls1 := [.ref 95, .int (nI n), .int (nI a), .int tr, .int (nI k), .int ((s 0) + (nI k)), .int (-1), .int 0, z8]) (p := 46) dX12_goThrough_44 rfl rfl ?_
        refine we_iconst (v := 0) (p := 47) dX12_goThrough_46 (by decide) rfl ?_
        refine we_istore (ls1 := [.ref 95, .int (nI n), .int (nI a), .int tr, .int (nI k), .int ((s 0) + (nI k)), .int (-1), .int 0, .int 0]) (p := 49) dX12_goThrough_47 rfl rfl ?_
        refine y_go_i hF hM hW ha (dN D 2) 0 _ _ (by omega) ?_
        rw [e1]
        refine we_iload (p := 122) dX12_goThrough_120 rfl rfl ?_
        refine we_if_ge (t := 128) (p := 125) dX12_goThrough_122 (by decide) rfl rfl (fun hc122 => ?_) (fun hc122 => absurd (nI_pos' (by omega)) hc122)
        refine we_aload_n (p := 129) dX12_goThrough_128 rfl rfl ?_
        refine we_iload (p := 131) dX12_goThrough_129 rfl rfl ?_
        refine we_iconst (v := 1) (p := 132) dX12_goThrough_131 (by decide) rfl ?_
        refine we_callV_int (p := 135) (k' := 0) (a := [.ref 95, .int (nI w), .int 1]) (rr := []) dX12_goThrough_132 rfl rfl rfl rfl (rc_of rfl rfl (by decide) ⟨rfl, by decide⟩) (Nat.le_of_ble_eq_true rfl) (Nat.le_of_ble_eq_true rfl) (by decide) (y_ofWoman (x := w) (k := 1) hF (m7 hM (by omega)) (by omega) (by omega)) (Or.inl rfl) rfl ?_
        refine we_istore_n (ls1 := [.ref 95, .int (nI n), .int (D 7 w), .int tr, .int (nI k), .int (s 0 + nI k), .int (nI w), .int ((gN (dearM D a tr (s 0 + nI k)) 0 (dN D 2) (-1, 0)).2), .int (nI (dN D 2))]) (p := 136) dX12_goThrough_135 rfl rfl ?_
        refine we_iload_n (p := 137) dX12_goThrough_136 rfl rfl ?_
        refine we_iconst (v := 1) (p := 138) dX12_goThrough_137 (by decide) rfl ?_
        refine we_iload (p := 140) dX12_goThrough_138 rfl rfl ?_
        refine we_ishl (p := 141) dX12_goThrough_140 rfl ?_
        refine we_ior (p := 142) dX12_goThrough_141 rfl ?_
        refine we_istore_n (ls1 := [.ref 95, .int (nI n), .int (D 7 w), .int (tr ||| (1 <<< ((nI w) &&& 31))), .int (nI k), .int (s 0 + nI k), .int (nI w), .int ((gN (dearM D a tr (s 0 + nI k)) 0 (dN D 2) (-1, 0)).2), .int (nI (dN D 2))]) (p := 143) dX12_goThrough_142 rfl rfl ?_
        refine we_aload_n (p := 144) dX12_goThrough_143 rfl rfl ?_
        refine we_iload (p := 146) dX12_goThrough_144 rfl rfl ?_
        refine we_iload (p := 148) dX12_goThrough_146 rfl rfl ?_
        refine we_callV_int (p := 151) (k' := 5) (a := [.ref 95, .int (nI w), .int (s 0 + nI k)]) (rr := []) dX12_goThrough_148 rfl rfl rfl rfl (rc_of rfl rfl (by decide) ⟨rfl, by decide⟩) (Nat.le_of_ble_eq_true rfl) (Nat.le_of_ble_eq_true rfl) (by decide) (Ev.i ((cou01 (l := loveS D w ((s 0 + nI k) * D 0 0)) (tN D) sd).resolve_left c) (y_courts hF hM hW hw h35)) (Or.inl rfl) rfl ?_
        refine we_if_ne (t := 157) (p := 154) dX12_goThrough_151 (by decide) rfl rfl (fun hc151 => ?_) (fun hc151 => absurd hc151 (by decide))
        refine we_aload_n (p := 158) dX12_goThrough_157 rfl rfl ?_
        refine we_iload (p := 160) dX12_goThrough_158 rfl rfl ?_
        refine we_putI (c := 11) (j := 36) (n := 37)  (p := 163) dX12_goThrough_160 rfl rfl (by decide) (by decide) rfl rfl rfl ?_
        refine we_iload (p := 165) dX12_goThrough_163 rfl rfl ?_
        refine wi_ret dX12_goThrough_165 rfl rfl (by decide) (⟨?_, _, _, _, rfl, (Fm.rf.f (by omega) (by omega)).f (by omega) (by omega), rfl, rfl, ?_, ?_⟩)
        · rw [eg]
        · rw [eg]
          exact hu_eq
        · rw [eg]
          exact (hu_nj (by decide)).trans hu_eq
set_option maxRecDepth 10000 in
theorem y_goThrough {I : Nat → Nat → Int32} {J : Nat → Nat → Int64} {F : Nat → Nat → Option Nat} {nc ns : Nat} {D : oD} (hF : RFok F) (hM : oM I 98 D) (hW : WF D) (hO : I 95 14 = tol D) {s : Nat → Int32} (hs : stM I s) (hS : WFs D s) (h0 : 0 < dN D 0) {n : Nat} {sd : Int32} (hn : n ≤ 100) (h35 : I 95 35 = sd) : Ew 6 mX12_goThrough 0 [.ref 95, .int (nI n), .null, .null, .null, .null, .null, .null, .null] [] ((SH, nc, ns), I, J, F) (Ret nc ns (some (.int (goG D (s 0) n 1 (s 1).toNatClampNeg (s 4) sd).1)) (fun I' J' F' => Fm 103 103 35 37 I I' ∧ J' = J ∧ F' = F ∧ I' 95 36 = (goG D (s 0) n 1 (s 1).toNatClampNeg (s 4) sd).2.1 ∧ I' 95 35 = (goG D (s 0) n 1 (s 1).toNatClampNeg (s 4) sd).2.2)) := by
  have hD := hW.c
  have hH := hW.h
  have hT := hW.t
  have bt := hT.2
  obtain ⟨b0, b1, b2, b3, b4, b5, b6⟩ := hD.2
  have hat := hS.at_ h0
  refine we_aload_n (p := 1) dX12_goThrough_0 rfl rfl ?_
  refine we_getR (c := 11) (j := 17) (n := 37) (b := 100) (p := 4) dX12_goThrough_1 rfl rfl (by decide) (by decide) rfl (r_95_17 hF) rfl ?_
  refine we_iconst (v := 1) (p := 5) dX12_goThrough_4 (by decide) rfl ?_
  refine wf_iald (n := 6) (i := 1) (v := s 1) (p := 6) dX12_goThrough_5 rfl (by decide) (by decide) (by decide) (hs 1 (by decide)) rfl ?_
  refine we_istore_n (ls1 := [.ref 95, .int (nI n), .int (s 1), .null, .null, .null, .null, .null, .null]) (p := 7) dX12_goThrough_6 rfl rfl ?_
  refine we_aload_n (p := 8) dX12_goThrough_7 rfl rfl ?_
  refine we_getR (c := 11) (j := 17) (n := 37) (b := 100) (p := 11) dX12_goThrough_8 rfl rfl (by decide) (by decide) rfl (r_95_17 hF) rfl ?_
  refine we_iconst (v := 4) (p := 12) dX12_goThrough_11 (by decide) rfl ?_
  refine wf_iald (n := 6) (i := 4) (v := s 4) (p := 13) dX12_goThrough_12 rfl (by decide) (by decide) (by decide) (hs 4 (by decide)) rfl ?_
  refine we_istore_n (ls1 := [.ref 95, .int (nI n), .int (s 1), .int (s 4), .null, .null, .null, .null, .null]) (p := 14) dX12_goThrough_13 rfl rfl ?_
  refine we_aload_n (p := 15) dX12_goThrough_14 rfl rfl ?_
  refine we_bipush (v := -2) (p := 17) dX12_goThrough_15 (by decide) rfl ?_
  refine we_putI (c := 11) (j := 36) (n := 37)  (p := 20) dX12_goThrough_17 rfl rfl (by decide) (by decide) rfl rfl rfl ?_
  refine we_iconst (v := 1) (p := 21) dX12_goThrough_20 (by decide) rfl ?_
  refine we_istore (ls1 := [.ref 95, .int (nI n), .int (s 1), .int (s 4), .int 1, .null, .null, .null, .null]) (p := 23) dX12_goThrough_21 rfl rfl ?_
  rw [show Value.int (s 1) = .int (nI (s 1).toNatClampNeg) from congrArg Value.int hat.1]
  refine (y_go_L hF hW hn n 1 _ (s 1).toNatClampNeg (s 4) sd _ _ _ _ (by omega) (oM_u hM (by decide)) (stM_u hs (by decide)) ((hu_nj (by decide)).trans h35) hu_eq hat.2.1).mono ?_
  rintro r h ⟨h1, I2, J2, F2, h2, h3, h4⟩
  exact ⟨h1, I2, J2, F2, h2, (Fm.rf.f (by omega) (by omega)).tr h3, h4⟩
