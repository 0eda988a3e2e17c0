/-! The reference is told an oath. -/
theorem tk_n59 {k : Nat} (h : ¬ k = 3) : ¬ tkM k = 59 := by
  unfold tkM
  repeat' split
  all_goals first | omega | decide
theorem tk_n0 {k : Nat} (h : ¬ k = 0) : ¬ tkM k = 0 := by
  unfold tkM
  repeat' split
  all_goals first | omega | decide
def endX (T : Nat → Nat) (n : Nat) (S' : pZ) (I : Nat → Nat → Int32) : Prop := (zF S' = 0 ∧ cM T S' I ∧ I 95 13 = 0 ∧ I 95 9 = 0 ∧ I 95 10 = nI (T 1000) ∧ zI T n S' ∧ 0 < dN (zD S') 0 ∧ 0 < dN (zD S') 2) ∨ (¬ zF S' = 0 ∧ mF T n S' I)
def stX (T : Nat → Nat) (n : Nat) (X : pZ) (I : Nat → Nat → Int32) : Prop := (zF X = 0 ∧ tM T n (zP X) I ∧ cM T X I ∧ WFc (zD X)) ∨ (¬ zF X = 0 ∧ mF T n X I)
theorem Mo.L {T : Nat → Nat} {n : Nat} {S : pZ} : Mo n S (pL T n S) := Mo.B Mo.ls (fun _ => Mo.it (Mp.o Mp.rf) (Mp.o (Mp.sv Mp.rf)))
theorem dN_le0 {D : oD} (h : WFc D) {i : Nat} (hi : i < 7) : D 2 i ≤ 0 ↔ dN D i = 0 := by
  obtain ⟨a, b⟩ := h
  have : dN D i < 2 ^ 31 := by rcases (by omega : i = 0 ∨ i = 1 ∨ i = 2 ∨ i = 3 ∨ i = 4 ∨ i = 5 ∨ i = 6) with rfl | rfl | rfl | rfl | rfl | rfl | rfl <;> omega
  rw [a i hi]
  constructor
  · intro z
    exact Nat.eq_zero_of_not_pos (fun y => absurd z (nI_ge (a := 0) (b := dN D i) y this))
  · intro z
    rw [z]
    decide
set_option maxRecDepth 10000 in
theorem y_oath_L {J : Nat → Nat → Int64} {F : Nat → Nat → Option Nat} {nc ns : Nat} {T : Nat → Nat} {n : Nat} (hF : RFok F) (hn : n ≤ 900) {v z : Value} {Q : Option Value → hp_H → Prop} (m l : Nat) (S : pZ) (I : Nat → Nat → Int32) (hj : l + m = 900) (hz : zF S = 0) (hI : zI T n S) (hl : l ≤ zP S) (hX : stX T n (pL T n S) I) (q0 : ∀ I', FrL I I' → endX T n (pRd T n (m + 1) S) I' → Ew 9 mX12_oath 171 [.ref 95, v, z] [] ((SH, nc, ns), I', J, F) Q) : Ew 9 mX12_oath 77 [.ref 95, v, z] [] ((SH, nc, ns), I, J, F) Q := by
  by_cases hzx : zF (pL T n S) = 0
  · obtain ⟨zx, tx, cx, wx⟩ := hX.resolve_right (fun h => h.1 hzx)
    have hIX : zI T n (pL T n S) := zI_pL hI zx
    have hMo := Mo.L zx hI.1
    have b0 := wx.2
    by_cases hk3 : tK T n (zP (pL T n S)) = 3
    · have h3 := tK_3 hk3
      have h3n := (tE_le (T := T) hIX.1).1
      cases m with
      | zero => exact absurd hj (by omega)
      | succ m =>
        have hE : pRd T n (m + 1 + 1) S = pRd T n (m + 1) (pAv T n (pL T n S)) := by rw [pRd, pB_y (S := (pL T n S)) zx, if_pos hk3]
        refine we_aload_n (p := 78) dX12_oath_77 rfl rfl ?_
        refine wf_getI (c := 11) (j := 13) (n := 37) (v := 0) (p := 81) dX12_oath_78 rfl rfl (by decide) (by decide) (Or.inr rfl) tx.2.2.2.1 rfl ?_
        refine we_if_ne (t := 104) (p := 84) dX12_oath_81 (by decide) rfl rfl (fun hc81 => absurd (by decide) hc81) (fun hc81 => ?_)
        refine we_aload_n (p := 85) dX12_oath_84 rfl rfl ?_
        refine wf_getI (c := 11) (j := 6) (n := 37) (v := 59) (p := 88) dX12_oath_85 rfl rfl (by decide) (by decide) (Or.inl rfl) (tx.2.2.1.2.2.1.trans (by rw [hk3]; rfl)) rfl ?_
        refine we_bipush (v := 59) (p := 90) dX12_oath_88 (by decide) rfl ?_
        refine we_icmp_ne (t := 104) (p := 93) dX12_oath_90 (by decide) rfl rfl (fun hc90 => absurd (by decide) hc90) (fun hc90 => ?_)
        refine we_aload_n (p := 94) dX12_oath_93 rfl rfl ?_
        obtain ⟨_, _, e1, rfl, I1, J1, F1, rfl, rfl, rfl, f1, r1⟩ := y_next hF tx.1 (tE_le tx.2.1).1 tx.2.2.1.2.1
        refine we_callV_v (p := 97) (k' := 1) (a := [.ref 95]) (rr := []) dX12_oath_94 rfl rfl rfl rfl (rc_of rfl rfl (by decide) ⟨rfl, by decide⟩) (Nat.le_of_ble_eq_true rfl) (Nat.le_of_ble_eq_true rfl) (by decide) e1 (Or.inl rfl) rfl ?_
        refine we_aload_n (p := 98) dX12_oath_97 rfl rfl ?_
        obtain ⟨_, _, e2, I2, rfl, f2, ⟨z2, rfl, t2⟩ | ⟨z2, rfl, g2⟩⟩ := y_readLine (S := pAv T n (pL T n S)) hF (tM.nx tx f1 r1) (cx.sm (X := pAv T n (pL T n S)) (f1.1 99 (by decide) (by omega)) rfl rfl rfl) ⟨(tE_le hIX.1).1, hIX.2⟩ zx
        · skip
          refine we_callV_v (p := 101) (k' := 8) (a := [.ref 95]) (rr := []) dX12_oath_98 rfl rfl rfl rfl (rc_of rfl rfl (by decide) ⟨rfl, by decide⟩) (Nat.le_of_ble_eq_true rfl) (Nat.le_of_ble_eq_true rfl) (by decide) e2 (Or.inl rfl) rfl ?_
          refine we_goto (p := 77) dX12_oath_101 (by decide) rfl ?_
          exact y_oath_L hF hn m (l + 1) (pAv T n (pL T n S)) _ (by omega) zx ⟨(tE_le hIX.1).1, hIX.2⟩ (by show l + 1 ≤ tE T n (zP (pL T n S)); omega) (Or.inl ⟨z2, t2⟩) (fun I' f e => q0 I' ((FrT.fm f1).l.tr (f2.tr f)) (by rw [hE]; exact e))
        · skip
          refine we_callV_v (p := 101) (k' := 8) (a := [.ref 95]) (rr := []) dX12_oath_98 rfl rfl rfl rfl (rc_of rfl rfl (by decide) ⟨rfl, by decide⟩) (Nat.le_of_ble_eq_true rfl) (Nat.le_of_ble_eq_true rfl) (by decide) e2 (Or.inl rfl) rfl ?_
          refine we_goto (p := 77) dX12_oath_101 (by decide) rfl ?_
          exact y_oath_L hF hn m (l + 1) (pAv T n (pL T n S)) _ (by omega) zx ⟨(tE_le hIX.1).1, hIX.2⟩ (by show l + 1 ≤ tE T n (zP (pL T n S)); omega) (Or.inr ⟨z2, g2⟩) (fun I' f e => q0 I' ((FrT.fm f1).l.tr (f2.tr f)) (by rw [hE]; exact e))
    · by_cases hk0 : tK T n (zP (pL T n S)) = 0
      · by_cases hd0 : dN (zD (pL T n S)) 0 = 0
        · have hE : pRd T n (m + 1) S = pFl 6 (pL T n S) := by
            rw [pRd, pB_y (S := (pL T n S)) zx, if_neg hk3]
            unfold pEnd
            rw [if_pos hk0, if_pos ((dN_le0 wx (by decide)).mpr hd0)]
          by_cases hz0 : zD (pL T n S) 0 0 = 0
          · skip
            refine we_aload_n (p := 78) dX12_oath_77 rfl rfl ?_
            refine wf_getI (c := 11) (j := 13) (n := 37) (v := 0) (p := 81) dX12_oath_78 rfl rfl (by decide) (by decide) (Or.inr rfl) tx.2.2.2.1 rfl ?_
            refine we_if_ne (t := 104) (p := 84) dX12_oath_81 (by decide) rfl rfl (fun hc81 => absurd (by decide) hc81) (fun hc81 => ?_)
            refine we_aload_n (p := 85) dX12_oath_84 rfl rfl ?_
            refine wf_getI (c := 11) (j := 6) (n := 37) (v := 0) (p := 88) dX12_oath_85 rfl rfl (by decide) (by decide) (Or.inl rfl) (tx.2.2.1.2.2.1.trans (by rw [hk0]; rfl)) rfl ?_
            refine we_bipush (v := 59) (p := 90) dX12_oath_88 (by decide) rfl ?_
            refine we_icmp_ne (t := 104) (p := 93) dX12_oath_90 (by decide) rfl rfl (fun hc90 => ?_) (fun hc90 => absurd hc90 (by decide))
            refine we_aload_n (p := 105) dX12_oath_104 rfl rfl ?_
            refine wf_getI (c := 11) (j := 13) (n := 37) (v := 0) (p := 108) dX12_oath_105 rfl rfl (by decide) (by decide) (Or.inr rfl) tx.2.2.2.1 rfl ?_
            refine we_if_ne (t := 127) (p := 111) dX12_oath_108 (by decide) rfl rfl (fun hc108 => absurd (by decide) hc108) (fun hc108 => ?_)
            refine we_aload_n (p := 112) dX12_oath_111 rfl rfl ?_
            refine wf_getI (c := 11) (j := 6) (n := 37) (v := 0) (p := 115) dX12_oath_112 rfl rfl (by decide) (by decide) (Or.inl rfl) (tx.2.2.1.2.2.1.trans (by rw [hk0]; rfl)) rfl ?_
            refine we_if_eq (t := 127) (p := 118) dX12_oath_115 (by decide) rfl rfl (fun hc115 => ?_) (fun hc115 => absurd (by decide) hc115)
            refine we_aload_n (p := 128) dX12_oath_127 rfl rfl ?_
            refine wf_getI (c := 11) (j := 13) (n := 37) (v := 0) (p := 131) dX12_oath_128 rfl rfl (by decide) (by decide) (Or.inr rfl) tx.2.2.2.1 rfl ?_
            refine we_if_ne (t := 171) (p := 134) dX12_oath_131 (by decide) rfl rfl (fun hc131 => absurd (by decide) hc131) (fun hc131 => ?_)
            refine we_aload_n (p := 135) dX12_oath_134 rfl rfl ?_
            refine we_getR (c := 11) (j := 16) (n := 37) (b := 99) (p := 138) dX12_oath_135 rfl rfl (by decide) (by decide) rfl (r_95_16 hF) rfl ?_
            refine we_iconst (v := 0) (p := 139) dX12_oath_138 (by decide) rfl ?_
            refine wf_iald (n := 276) (i := 0) (v := zD (pL T n S) 0 0) (p := 140) dX12_oath_139 rfl (by decide) (by decide) (by decide) cx.1.1 rfl ?_
            refine we_if_eq (t := 161) (p := 143) dX12_oath_140 (by decide) rfl rfl (fun hc140 => ?_) (fun hc140 => absurd hz0 hc140)
            refine we_aload_n (p := 162) dX12_oath_161 rfl rfl ?_
            refine we_bipush (v := 6) (p := 164) dX12_oath_162 (by decide) rfl ?_
            refine we_aload_n (p := 165) dX12_oath_164 rfl rfl ?_
            refine wf_getI (c := 11) (j := 4) (n := 37) (v := nI (tS T n (zP (pL T n S)))) (p := 168) dX12_oath_165 rfl rfl (by decide) (by decide) (Or.inl rfl) tx.2.2.1.1 rfl ?_
            refine we_callV_v (p := 171) (k' := 0) (a := [.ref 95, .int 6, .int (nI (tS T n (zP (pL T n S))))]) (rr := []) dX12_oath_168 rfl rfl rfl rfl (rc_of rfl rfl (by decide) ⟨rfl, by decide⟩) (Nat.le_of_ble_eq_true rfl) (Nat.le_of_ble_eq_true rfl) (by decide) (y_wrong (b := tS T n (zP (pL T n S))) hF tx.2.2.2.1) (Or.inl rfl) rfl ?_
            refine q0 _ FrT.wr.l ?_
            rw [hE]
            exact Or.inr ⟨show ¬ (6 : Nat) = 0 by decide, mF.wr (k := 6) rfl rfl⟩
          · skip
            refine we_aload_n (p := 78) dX12_oath_77 rfl rfl ?_
            refine wf_getI (c := 11) (j := 13) (n := 37) (v := 0) (p := 81) dX12_oath_78 rfl rfl (by decide) (by decide) (Or.inr rfl) tx.2.2.2.1 rfl ?_
            refine we_if_ne (t := 104) (p := 84) dX12_oath_81 (by decide) rfl rfl (fun hc81 => absurd (by decide) hc81) (fun hc81 => ?_)
            refine we_aload_n (p := 85) dX12_oath_84 rfl rfl ?_
            refine wf_getI (c := 11) (j := 6) (n := 37) (v := 0) (p := 88) dX12_oath_85 rfl rfl (by decide) (by decide) (Or.inl rfl) (tx.2.2.1.2.2.1.trans (by rw [hk0]; rfl)) rfl ?_
            refine we_bipush (v := 59) (p := 90) dX12_oath_88 (by decide) rfl ?_
            refine we_icmp_ne (t := 104) (p := 93) dX12_oath_90 (by decide) rfl rfl (fun hc90 => ?_) (fun hc90 => absurd hc90 (by decide))
            refine we_aload_n (p := 105) dX12_oath_104 rfl rfl ?_
            refine wf_getI (c := 11) (j := 13) (n := 37) (v := 0) (p := 108) dX12_oath_105 rfl rfl (by decide) (by decide) (Or.inr rfl) tx.2.2.2.1 rfl ?_
            refine we_if_ne (t := 127) (p := 111) dX12_oath_108 (by decide) rfl rfl (fun hc108 => absurd (by decide) hc108) (fun hc108 => ?_)
            refine we_aload_n (p := 112) dX12_oath_111 rfl rfl ?_
            refine wf_getI (c := 11) (j := 6) (n := 37) (v := 0) (p := 115) dX12_oath_112 rfl rfl (by decide) (by decide) (Or.inl rfl) (tx.2.2.1.2.2.1.trans (by rw [hk0]; rfl)) rfl ?_
            refine we_if_eq (t := 127) (p := 118) dX12_oath_115 (by decide) rfl rfl (fun hc115 => ?_) (fun hc115 => absurd (by decide) hc115)
            refine we_aload_n (p := 128) dX12_oath_127 rfl rfl ?_
            refine wf_getI (c := 11) (j := 13) (n := 37) (v := 0) (p := 131) dX12_oath_128 rfl rfl (by decide) (by decide) (Or.inr rfl) tx.2.2.2.1 rfl ?_
            refine we_if_ne (t := 171) (p := 134) dX12_oath_131 (by decide) rfl rfl (fun hc131 => absurd (by decide) hc131) (fun hc131 => ?_)
            refine we_aload_n (p := 135) dX12_oath_134 rfl rfl ?_
            refine we_getR (c := 11) (j := 16) (n := 37) (b := 99) (p := 138) dX12_oath_135 rfl rfl (by decide) (by decide) rfl (r_95_16 hF) rfl ?_
            refine we_iconst (v := 0) (p := 139) dX12_oath_138 (by decide) rfl ?_
            refine wf_iald (n := 276) (i := 0) (v := zD (pL T n S) 0 0) (p := 140) dX12_oath_139 rfl (by decide) (by decide) (by decide) cx.1.1 rfl ?_
            refine we_if_eq (t := 161) (p := 143) dX12_oath_140 (by decide) rfl rfl (fun hc140 => absurd hc140 hz0) (fun hc140 => ?_)
            refine we_aload_n (p := 144) dX12_oath_143 rfl rfl ?_
            refine we_getR (c := 11) (j := 16) (n := 37) (b := 99) (p := 147) dX12_oath_144 rfl rfl (by decide) (by decide) rfl (r_95_16 hF) rfl ?_
            refine we_iconst (v := 2) (p := 148) dX12_oath_147 (by decide) rfl ?_
            refine wf_iald (n := 276) (i := 2) (v := nI (dN (zD (pL T n S)) 0)) (p := 149) dX12_oath_148 rfl (by decide) (by decide) (by decide) ((cx.1.2.2.1 0 (by decide)).trans (wx.1 0 (by decide))) rfl ?_
            refine we_if_eq (t := 161) (p := 152) dX12_oath_149 (by decide) rfl rfl (fun hc149 => ?_) (fun hc149 => absurd (by rw [hd0]; rfl) hc149)
            refine we_aload_n (p := 162) dX12_oath_161 rfl rfl ?_
            refine we_bipush (v := 6) (p := 164) dX12_oath_162 (by decide) rfl ?_
            refine we_aload_n (p := 165) dX12_oath_164 rfl rfl ?_
            refine wf_getI (c := 11) (j := 4) (n := 37) (v := nI (tS T n (zP (pL T n S)))) (p := 168) dX12_oath_165 rfl rfl (by decide) (by decide) (Or.inl rfl) tx.2.2.1.1 rfl ?_
            refine we_callV_v (p := 171) (k' := 0) (a := [.ref 95, .int 6, .int (nI (tS T n (zP (pL T n S))))]) (rr := []) dX12_oath_168 rfl rfl rfl rfl (rc_of rfl rfl (by decide) ⟨rfl, by decide⟩) (Nat.le_of_ble_eq_true rfl) (Nat.le_of_ble_eq_true rfl) (by decide) (y_wrong (b := tS T n (zP (pL T n S))) hF tx.2.2.2.1) (Or.inl rfl) rfl ?_
            refine q0 _ FrT.wr.l ?_
            rw [hE]
            exact Or.inr ⟨show ¬ (6 : Nat) = 0 by decide, mF.wr (k := 6) rfl rfl⟩
        · have hz0 : ¬ zD (pL T n S) 0 0 = 0 := fun z => hd0 ((yr_0 hIX.2.2.2.2.1 (by rw [z]; decide)).2 0 (by decide))
          by_cases hd2 : dN (zD (pL T n S)) 2 = 0
          · skip
            have hE : pRd T n (m + 1) S = pFl 6 (pL T n S) := by
              rw [pRd, pB_y (S := (pL T n S)) zx, if_neg hk3]
              unfold pEnd
              rw [if_pos hk0, if_neg (fun z => hd0 ((dN_le0 wx (by decide)).mp z)), if_pos ((dN_le0 wx (by decide)).mpr hd2)]
            refine we_aload_n (p := 78) dX12_oath_77 rfl rfl ?_
            refine wf_getI (c := 11) (j := 13) (n := 37) (v := 0) (p := 81) dX12_oath_78 rfl rfl (by decide) (by decide) (Or.inr rfl) tx.2.2.2.1 rfl ?_
            refine we_if_ne (t := 104) (p := 84) dX12_oath_81 (by decide) rfl rfl (fun hc81 => absurd (by decide) hc81) (fun hc81 => ?_)
            refine we_aload_n (p := 85) dX12_oath_84 rfl rfl ?_
            refine wf_getI (c := 11) (j := 6) (n := 37) (v := 0) (p := 88) dX12_oath_85 rfl rfl (by decide) (by decide) (Or.inl rfl) (tx.2.2.1.2.2.1.trans (by rw [hk0]; rfl)) rfl ?_
            refine we_bipush (v := 59) (p := 90) dX12_oath_88 (by decide) rfl ?_
            refine we_icmp_ne (t := 104) (p := 93) dX12_oath_90 (by decide) rfl rfl (fun hc90 => ?_) (fun hc90 => absurd hc90 (by decide))
            refine we_aload_n (p := 105) dX12_oath_104 rfl rfl ?_
            refine wf_getI (c := 11) (j := 13) (n := 37) (v := 0) (p := 108) dX12_oath_105 rfl rfl (by decide) (by decide) (Or.inr rfl) tx.2.2.2.1 rfl ?_
            refine we_if_ne (t := 127) (p := 111) dX12_oath_108 (by decide) rfl rfl (fun hc108 => absurd (by decide) hc108) (fun hc108 => ?_)
            refine we_aload_n (p := 112) dX12_oath_111 rfl rfl ?_
            refine wf_getI (c := 11) (j := 6) (n := 37) (v := 0) (p := 115) dX12_oath_112 rfl rfl (by decide) (by decide) (Or.inl rfl) (tx.2.2.1.2.2.1.trans (by rw [hk0]; rfl)) rfl ?_
            refine we_if_eq (t := 127) (p := 118) dX12_oath_115 (by decide) rfl rfl (fun hc115 => ?_) (fun hc115 => absurd (by decide) hc115)
            refine we_aload_n (p := 128) dX12_oath_127 rfl rfl ?_
            refine wf_getI (c := 11) (j := 13) (n := 37) (v := 0) (p := 131) dX12_oath_128 rfl rfl (by decide) (by decide) (Or.inr rfl) tx.2.2.2.1 rfl ?_
            refine we_if_ne (t := 171) (p := 134) dX12_oath_131 (by decide) rfl rfl (fun hc131 => absurd (by decide) hc131) (fun hc131 => ?_)
            refine we_aload_n (p := 135) dX12_oath_134 rfl rfl ?_
            refine we_getR (c := 11) (j := 16) (n := 37) (b := 99) (p := 138) dX12_oath_135 rfl rfl (by decide) (by decide) rfl (r_95_16 hF) rfl ?_
            refine we_iconst (v := 0) (p := 139) dX12_oath_138 (by decide) rfl ?_
            refine wf_iald (n := 276) (i := 0) (v := zD (pL T n S) 0 0) (p := 140) dX12_oath_139 rfl (by decide) (by decide) (by decide) cx.1.1 rfl ?_
            refine we_if_eq (t := 161) (p := 143) dX12_oath_140 (by decide) rfl rfl (fun hc140 => absurd hc140 hz0) (fun hc140 => ?_)
            refine we_aload_n (p := 144) dX12_oath_143 rfl rfl ?_
            refine we_getR (c := 11) (j := 16) (n := 37) (b := 99) (p := 147) dX12_oath_144 rfl rfl (by decide) (by decide) rfl (r_95_16 hF) rfl ?_
            refine we_iconst (v := 2) (p := 148) dX12_oath_147 (by decide) rfl ?_
            refine wf_iald (n := 276) (i := 2) (v := nI (dN (zD (pL T n S)) 0)) (p := 149) dX12_oath_148 rfl (by decide) (by decide) (by decide) ((cx.1.2.2.1 0 (by decide)).trans (wx.1 0 (by decide))) rfl ?_
            refine we_if_eq (t := 161) (p := 152) dX12_oath_149 (by decide) rfl rfl (fun hc149 => absurd hc149 (nI_ne0 (by omega) (by omega))) (fun hc149 => ?_)
            refine we_aload_n (p := 153) dX12_oath_152 rfl rfl ?_
            refine we_getR (c := 11) (j := 16) (n := 37) (b := 99) (p := 156) dX12_oath_153 rfl rfl (by decide) (by decide) rfl (r_95_16 hF) rfl ?_
            refine we_iconst (v := 4) (p := 157) dX12_oath_156 (by decide) rfl ?_
            refine wf_iald (n := 276) (i := 4) (v := nI (dN (zD (pL T n S)) 2)) (p := 158) dX12_oath_157 rfl (by decide) (by decide) (by decide) ((cx.1.2.2.1 2 (by decide)).trans (wx.1 2 (by decide))) rfl ?_
            refine we_if_ne (t := 171) (p := 161) dX12_oath_158 (by decide) rfl rfl (fun hc158 => absurd (by rw [hd2]; rfl) hc158) (fun hc158 => ?_)
            refine we_aload_n (p := 162) dX12_oath_161 rfl rfl ?_
            refine we_bipush (v := 6) (p := 164) dX12_oath_162 (by decide) rfl ?_
            refine we_aload_n (p := 165) dX12_oath_164 rfl rfl ?_
            refine wf_getI (c := 11) (j := 4) (n := 37) (v := nI (tS T n (zP (pL T n S)))) (p := 168) dX12_oath_165 rfl rfl (by decide) (by decide) (Or.inl rfl) tx.2.2.1.1 rfl ?_
            refine we_callV_v (p := 171) (k' := 0) (a := [.ref 95, .int 6, .int (nI (tS T n (zP (pL T n S))))]) (rr := []) dX12_oath_168 rfl rfl rfl rfl (rc_of rfl rfl (by decide) ⟨rfl, by decide⟩) (Nat.le_of_ble_eq_true rfl) (Nat.le_of_ble_eq_true rfl) (by decide) (y_wrong (b := tS T n (zP (pL T n S))) hF tx.2.2.2.1) (Or.inl rfl) rfl ?_
            refine q0 _ FrT.wr.l ?_
            rw [hE]
            exact Or.inr ⟨show ¬ (6 : Nat) = 0 by decide, mF.wr (k := 6) rfl rfl⟩
          · skip
            have hE : pRd T n (m + 1) S = (pL T n S) := by
              rw [pRd, pB_y (S := (pL T n S)) zx, if_neg hk3]
              unfold pEnd
              rw [if_pos hk0, if_neg (fun z => hd0 ((dN_le0 wx (by decide)).mp z)), if_neg (fun z => hd2 ((dN_le0 wx (by decide)).mp z))]
            refine we_aload_n (p := 78) dX12_oath_77 rfl rfl ?_
            refine wf_getI (c := 11) (j := 13) (n := 37) (v := 0) (p := 81) dX12_oath_78 rfl rfl (by decide) (by decide) (Or.inr rfl) tx.2.2.2.1 rfl ?_
            refine we_if_ne (t := 104) (p := 84) dX12_oath_81 (by decide) rfl rfl (fun hc81 => absurd (by decide) hc81) (fun hc81 => ?_)
            refine we_aload_n (p := 85) dX12_oath_84 rfl rfl ?_
            refine wf_getI (c := 11) (j := 6) (n := 37) (v := 0) (p := 88) dX12_oath_85 rfl rfl (by decide) (by decide) (Or.inl rfl) (tx.2.2.1.2.2.1.trans (by rw [hk0]; rfl)) rfl ?_
            refine we_bipush (v := 59) (p := 90) dX12_oath_88 (by decide) rfl ?_
            refine we_icmp_ne (t := 104) (p := 93) dX12_oath_90 (by decide) rfl rfl (fun hc90 => ?_) (fun hc90 => absurd hc90 (by decide))
            refine we_aload_n (p := 105) dX12_oath_104 rfl rfl ?_
            refine wf_getI (c := 11) (j := 13) (n := 37) (v := 0) (p := 108) dX12_oath_105 rfl rfl (by decide) (by decide) (Or.inr rfl) tx.2.2.2.1 rfl ?_
            refine we_if_ne (t := 127) (p := 111) dX12_oath_108 (by decide) rfl rfl (fun hc108 => absurd (by decide) hc108) (fun hc108 => ?_)
            refine we_aload_n (p := 112) dX12_oath_111 rfl rfl ?_
            refine wf_getI (c := 11) (j := 6) (n := 37) (v := 0) (p := 115) dX12_oath_112 rfl rfl (by decide) (by decide) (Or.inl rfl) (tx.2.2.1.2.2.1.trans (by rw [hk0]; rfl)) rfl ?_
            refine we_if_eq (t := 127) (p := 118) dX12_oath_115 (by decide) rfl rfl (fun hc115 => ?_) (fun hc115 => absurd (by decide) hc115)
            refine we_aload_n (p := 128) dX12_oath_127 rfl rfl ?_
            refine wf_getI (c := 11) (j := 13) (n := 37) (v := 0) (p := 131) dX12_oath_128 rfl rfl (by decide) (by decide) (Or.inr rfl) tx.2.2.2.1 rfl ?_
            refine we_if_ne (t := 171) (p := 134) dX12_oath_131 (by decide) rfl rfl (fun hc131 => absurd (by decide) hc131) (fun hc131 => ?_)
            refine we_aload_n (p := 135) dX12_oath_134 rfl rfl ?_
            refine we_getR (c := 11) (j := 16) (n := 37) (b := 99) (p := 138) dX12_oath_135 rfl rfl (by decide) (by decide) rfl (r_95_16 hF) rfl ?_
            refine we_iconst (v := 0) (p := 139) dX12_oath_138 (by decide) rfl ?_
            refine wf_iald (n := 276) (i := 0) (v := zD (pL T n S) 0 0) (p := 140) dX12_oath_139 rfl (by decide) (by decide) (by decide) cx.1.1 rfl ?_
            refine we_if_eq (t := 161) (p := 143) dX12_oath_140 (by decide) rfl rfl (fun hc140 => absurd hc140 hz0) (fun hc140 => ?_)
            refine we_aload_n (p := 144) dX12_oath_143 rfl rfl ?_
            refine we_getR (c := 11) (j := 16) (n := 37) (b := 99) (p := 147) dX12_oath_144 rfl rfl (by decide) (by decide) rfl (r_95_16 hF) rfl ?_
            refine we_iconst (v := 2) (p := 148) dX12_oath_147 (by decide) rfl ?_
            refine wf_iald (n := 276) (i := 2) (v := nI (dN (zD (pL T n S)) 0)) (p := 149) dX12_oath_148 rfl (by decide) (by decide) (by decide) ((cx.1.2.2.1 0 (by decide)).trans (wx.1 0 (by decide))) rfl ?_
            refine we_if_eq (t := 161) (p := 152) dX12_oath_149 (by decide) rfl rfl (fun hc149 => absurd hc149 (nI_ne0 (by omega) (by omega))) (fun hc149 => ?_)
            refine we_aload_n (p := 153) dX12_oath_152 rfl rfl ?_
            refine we_getR (c := 11) (j := 16) (n := 37) (b := 99) (p := 156) dX12_oath_153 rfl rfl (by decide) (by decide) rfl (r_95_16 hF) rfl ?_
            refine we_iconst (v := 4) (p := 157) dX12_oath_156 (by decide) rfl ?_
            refine wf_iald (n := 276) (i := 4) (v := nI (dN (zD (pL T n S)) 2)) (p := 158) dX12_oath_157 rfl (by decide) (by decide) (by decide) ((cx.1.2.2.1 2 (by decide)).trans (wx.1 2 (by decide))) rfl ?_
            refine we_if_ne (t := 171) (p := 161) dX12_oath_158 (by decide) rfl rfl (fun hc158 => ?_) (fun hc158 => absurd hc158 (nI_ne0 (by omega) (by omega)))
            refine q0 _ FrL.rf ?_
            rw [hE]
            exact Or.inl ⟨zx, cx, tx.2.2.2.1, tx.2.2.2.2.1, tx.2.2.2.2.2, hIX, by omega, by omega⟩
      · skip
        have hE : pRd T n (m + 1) S = pFl 1 (pL T n S) := by
          rw [pRd, pB_y (S := (pL T n S)) zx, if_neg hk3]
          unfold pEnd
          rw [if_neg hk0]
        refine we_aload_n (p := 78) dX12_oath_77 rfl rfl ?_
        refine wf_getI (c := 11) (j := 13) (n := 37) (v := 0) (p := 81) dX12_oath_78 rfl rfl (by decide) (by decide) (Or.inr rfl) tx.2.2.2.1 rfl ?_
        refine we_if_ne (t := 104) (p := 84) dX12_oath_81 (by decide) rfl rfl (fun hc81 => absurd (by decide) hc81) (fun hc81 => ?_)
        refine we_aload_n (p := 85) dX12_oath_84 rfl rfl ?_
        refine wf_getI (c := 11) (j := 6) (n := 37) (v := tkM (tK T n (zP (pL T n S)))) (p := 88) dX12_oath_85 rfl rfl (by decide) (by decide) (Or.inl rfl) tx.2.2.1.2.2.1 rfl ?_
        refine we_bipush (v := 59) (p := 90) dX12_oath_88 (by decide) rfl ?_
        refine we_icmp_ne (t := 104) (p := 93) dX12_oath_90 (by decide) rfl rfl (fun hc90 => ?_) (fun hc90 => absurd hc90 (tk_n59 hk3))
        refine we_aload_n (p := 105) dX12_oath_104 rfl rfl ?_
        refine wf_getI (c := 11) (j := 13) (n := 37) (v := 0) (p := 108) dX12_oath_105 rfl rfl (by decide) (by decide) (Or.inr rfl) tx.2.2.2.1 rfl ?_
        refine we_if_ne (t := 127) (p := 111) dX12_oath_108 (by decide) rfl rfl (fun hc108 => absurd (by decide) hc108) (fun hc108 => ?_)
        refine we_aload_n (p := 112) dX12_oath_111 rfl rfl ?_
        refine wf_getI (c := 11) (j := 6) (n := 37) (v := tkM (tK T n (zP (pL T n S)))) (p := 115) dX12_oath_112 rfl rfl (by decide) (by decide) (Or.inl rfl) tx.2.2.1.2.2.1 rfl ?_
        refine we_if_eq (t := 127) (p := 118) dX12_oath_115 (by decide) rfl rfl (fun hc115 => absurd hc115 (tk_n0 hk0)) (fun hc115 => ?_)
        refine we_aload_n (p := 119) dX12_oath_118 rfl rfl ?_
        refine we_iconst (v := 1) (p := 120) dX12_oath_119 (by decide) rfl ?_
        refine we_aload_n (p := 121) dX12_oath_120 rfl rfl ?_
        refine wf_getI (c := 11) (j := 4) (n := 37) (v := nI (tS T n (zP (pL T n S)))) (p := 124) dX12_oath_121 rfl rfl (by decide) (by decide) (Or.inl rfl) tx.2.2.1.1 rfl ?_
        refine we_callV_v (p := 127) (k' := 0) (a := [.ref 95, .int 1, .int (nI (tS T n (zP (pL T n S))))]) (rr := []) dX12_oath_124 rfl rfl rfl rfl (rc_of rfl rfl (by decide) ⟨rfl, by decide⟩) (Nat.le_of_ble_eq_true rfl) (Nat.le_of_ble_eq_true rfl) (by decide) (y_wrong (b := tS T n (zP (pL T n S))) hF tx.2.2.2.1) (Or.inl rfl) rfl ?_
        refine we_aload_n (p := 128) dX12_oath_127 rfl rfl ?_
        refine wf_getI (c := 11) (j := 13) (n := 37) (v := 1) (p := 131) dX12_oath_128 rfl rfl (by decide) (by decide) (Or.inr rfl) wr13 rfl ?_
        refine we_if_ne (t := 171) (p := 134) dX12_oath_131 (by decide) rfl rfl (fun hc131 => ?_) (fun hc131 => absurd hc131 (by decide))
        refine q0 _ FrT.wr.l ?_
        rw [hE]
        exact Or.inr ⟨show ¬ (1 : Nat) = 0 by decide, mF.wr (k := 1) rfl rfl⟩
  · obtain ⟨zx, gx⟩ := hX.resolve_left (fun h => hzx h.1)
    refine we_aload_n (p := 78) dX12_oath_77 rfl rfl ?_
    refine wf_getI (c := 11) (j := 13) (n := 37) (v := 1) (p := 81) dX12_oath_78 rfl rfl (by decide) (by decide) (Or.inr rfl) gx.1 rfl ?_
    refine we_if_ne (t := 104) (p := 84) dX12_oath_81 (by decide) rfl rfl (fun hc81 => ?_) (fun hc81 => absurd hc81 (by decide))
    refine we_aload_n (p := 105) dX12_oath_104 rfl rfl ?_
    refine wf_getI (c := 11) (j := 13) (n := 37) (v := 1) (p := 108) dX12_oath_105 rfl rfl (by decide) (by decide) (Or.inr rfl) gx.1 rfl ?_
    refine we_if_ne (t := 127) (p := 111) dX12_oath_108 (by decide) rfl rfl (fun hc108 => ?_) (fun hc108 => absurd hc108 (by decide))
    refine we_aload_n (p := 128) dX12_oath_127 rfl rfl ?_
    refine wf_getI (c := 11) (j := 13) (n := 37) (v := 1) (p := 131) dX12_oath_128 rfl rfl (by decide) (by decide) (Or.inr rfl) gx.1 rfl ?_
    refine we_if_ne (t := 171) (p := 134) dX12_oath_131 (by decide) rfl rfl (fun hc131 => ?_) (fun hc131 => absurd hc131 (by decide))
    refine q0 _ FrL.rf ?_
    rw [show pRd T n (m + 1) S = (pL T n S) by rw [pRd, pB_n zx]]
    exact Or.inr ⟨zx, gx⟩
