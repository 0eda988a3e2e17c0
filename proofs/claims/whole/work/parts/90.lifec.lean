/-! Lives: the class. -/
def dearW (D : oD) (s : Nat → Int32) : Int32 := dearS D (reachS D (s 1).toNatClampNeg) (s 4) (s 0 + 1)
theorem dear_of {D : oD} {hs lo l : Int32} : dearS D hs lo l = -2 ∨ ∃ w, w < dN D 2 ∧ dearS D hs lo l = nI w := by
  unfold dearS
  refine gN_inv (fun z : Int32 × Int32 => z.1 = -2 ∨ ∃ w, w < dN D 2 ∧ z.1 = nI w) _ _ _ (Or.inl rfl) ?_
  intro k a h1 h2 ha
  unfold dearF
  split
  · exact ha
  · split
    · split
      · exact ha
      · exact Or.inr ⟨k, by omega, rfl⟩
    · exact ha
def lifeL (D : oD) (s : Nat → Int32) : Nat → Int32 := if dearW D s = -2 then landS D s (s 1) else courtS D (landS D s (D 7 (dearW D s).toNatClampNeg)) (dearW D s).toNatClampNeg
def WFv (D : oD) (s : Nat → Int32) : Prop := (∃ h, h < dN D 0 ∧ s 1 = nI h) ∧ ∃ f, f ≤ dN D 2 ∧ s 2 = nI f
theorem WFv.at_ {D : oD} {s : Nat → Int32} (hD : WFc D) (h : WFv D s) : s 1 = nI (s 1).toNatClampNeg ∧ (s 1).toNatClampNeg < dN D 0 ∧ (s 1).toNatClampNeg < 6 := by
  obtain ⟨⟨a, h1, h3⟩, -⟩ := h
  have := hD.2.1
  rw [h3, nI_cl (by omega)]
  exact ⟨rfl, h1, by omega⟩
theorem fr_iff {f : Nat} {s : Nat → Int32} (h : f < 1000) (e : s 2 = nI f) : frS (s 2) = -2 ↔ s 2 ≤ 0 := by
  rw [e]
  unfold frS
  cases f with
  | zero => decide
  | succ f =>
    rw [if_neg (nI_ne0 (by omega) (by omega)), nI_pred]
    exact ⟨fun z => absurd z (nI_m2 (by omega)), fun z => absurd z (nI_nle (by omega) (by omega))⟩
theorem WFv.fr {D : oD} {s : Nat → Int32} (hD : WFc D) (h : WFv D s) : frS (s 2) = -2 ↔ s 2 ≤ 0 := by
  obtain ⟨-, f, h1, e⟩ := h
  have := hD.2.2.2.1
  exact fr_iff (by omega) e
theorem WFv.land {D : oD} {s : Nat → Int32} {h : Int32} (hv : WFv D s) (hh : ∃ q, q < dN D 0 ∧ h = nI q) : WFv D (landS D s h) := ⟨hh, hv.2⟩
theorem WFv.court {D : oD} {s : Nat → Int32} {w : Nat} (hv : WFv D s) (hw : w < dN D 2) : WFv D (courtS D s w) := by
  refine ⟨hv.1, ?_⟩
  show ∃ f, f ≤ dN D 2 ∧ (if (couS D w (s 0) (s 3)).2 = 0 then s 2 else nI w + 1) = nI f
  split
  · exact hv.2
  · exact ⟨w + 1, by omega, nI_1 w⟩
theorem WFv.life {D : oD} {s : Nat → Int32} (hH : WFh D) (hv : WFv D s) : WFv D (lifeL D s) := by
  unfold lifeL
  rcases dear_of (D := D) (hs := reachS D (s 1).toNatClampNeg) (lo := s 4) (l := s 0 + 1) with e | ⟨w, hw, e⟩
  · rw [if_pos (show dearW D s = -2 from e)]
    exact hv.land hv.1
  · by_cases c : dearW D s = -2
    · rw [if_pos c]
      exact hv.land hv.1
    · rw [if_neg c]
      by_cases c2 : w < 2 ^ 31
      · have e2 : (dearW D s).toNatClampNeg = w := by
          unfold dearW
          rw [e, nI_clamp c2]
        rw [e2]
        exact (hv.land (hH w hw)).court hw
      · rw [show dearW D s = nI w from e]
        have h7 : (nI w).toNatClampNeg < dN D 2 := by
          have : (nI w).toNatClampNeg < 2 ^ 31 := Int32.toNatClampNeg_lt _
          omega
        exact (hv.land (hH _ h7)).court h7
set_option maxRecDepth 10000 in
theorem x_liveLanding {I : Nat → Nat → Int32} {J : Nat → Nat → Int64} {F : Nat → Nat → Option Nat} {nc ns : Nat} {o : Nat} {D : oD} {s : Nat → Int32} (ho : isO o) (hF : RFok F) (hC : oC I o D) (hW : WF D) (hmt : mo I 94 s) (hv : WFv D s) : Ew 5 mX2_liveLanding 0 [.ref 93, .ref o, .null] [] ((SH, nc, ns), I, J, F) (Ret nc ns none (fun I' J' F' => Fr 94 95 I I' ∧ J' = J ∧ F' = F ∧ mo I' 94 (lifeL D s))) := by
  have hD := hW.c
  have hH := hW.h
  have hT := hW.t
  have bt := hT.2
  obtain ⟨b0, b1, b2, b3, b4, b5, b6⟩ := hD.2
  have hat := hv.at_ hD
  rcases dear_of (D := D) (hs := reachS D (s 1).toNatClampNeg) (lo := s 4) (l := s 0 + 1) with e | ⟨w, hw, e⟩
  · skip
    refine we_aload_n (p := 1) dX2_liveLanding_0 rfl rfl ?_
    refine we_aload_n (p := 2) dX2_liveLanding_1 rfl rfl ?_
    refine we_aload_n (p := 3) dX2_liveLanding_2 rfl rfl ?_
    refine we_getR (c := 2) (j := 0) (n := 2) (b := 94) (p := 6) dX2_liveLanding_3 rfl rfl (by decide) (by decide) rfl (r_93_0 hF) rfl ?_
    refine wf_getI (c := 3) (j := 1) (n := 6) (v := s 1) (p := 9) dX2_liveLanding_6 rfl rfl (by decide) (by decide) (Or.inl rfl) hmt.2.1 rfl ?_
    refine we_callV_int (p := 12) (k' := 0) (a := [.ref o, .int (s 1)]) (rr := [.ref o]) dX2_liveLanding_9 rfl rfl rfl rfl (rc_of rfl (s_o ho) (l_o0 ho) ⟨rfl, by decide⟩) (Nat.le_of_ble_eq_true rfl) (Nat.le_of_ble_eq_true rfl) (by decide) (x_reach ho hF hC hW.c hat.1 hat.2.2) (Or.inl rfl) rfl ?_
    refine we_aload_n (p := 13) dX2_liveLanding_12 rfl rfl ?_
    refine we_getR (c := 2) (j := 0) (n := 2) (b := 94) (p := 16) dX2_liveLanding_13 rfl rfl (by decide) (by decide) rfl (r_93_0 hF) rfl ?_
    refine wf_getI (c := 3) (j := 2) (n := 6) (v := s 4) (p := 19) dX2_liveLanding_16 rfl rfl (by decide) (by decide) (Or.inl rfl) hmt.2.2.1 rfl ?_
    refine we_aload_n (p := 20) dX2_liveLanding_19 rfl rfl ?_
    refine we_getR (c := 2) (j := 0) (n := 2) (b := 94) (p := 23) dX2_liveLanding_20 rfl rfl (by decide) (by decide) rfl (r_93_0 hF) rfl ?_
    refine wf_getI (c := 3) (j := 0) (n := 6) (v := s 0) (p := 26) dX2_liveLanding_23 rfl rfl (by decide) (by decide) (Or.inl rfl) hmt.1 rfl ?_
    refine we_iconst (v := 1) (p := 27) dX2_liveLanding_26 (by decide) rfl ?_
    refine we_iadd (p := 28) dX2_liveLanding_27 rfl ?_
    refine we_callV_int (p := 31) (k' := 3) (a := [.ref o, .int (reachS D (s 1).toNatClampNeg), .int (s 4), .int ((s 0) + 1)]) (rr := []) dX2_liveLanding_28 rfl rfl rfl rfl (rc_of rfl (s_o ho) (l_o0 ho) ⟨rfl, by decide⟩) (Nat.le_of_ble_eq_true rfl) (Nat.le_of_ble_eq_true rfl) (by decide) (x_dearest ho hF hC hW.c hW.h) (Or.inl rfl) rfl ?_
    rw [show dearS D (reachS D (s 1).toNatClampNeg) (s 4) (s 0 + 1) = -2 from e]
    refine we_istore_n (ls1 := [.ref 93, .ref o, .int (-2)]) (p := 32) dX2_liveLanding_31 rfl rfl ?_
    refine we_iload_n (p := 33) dX2_liveLanding_32 rfl rfl ?_
    refine we_bipush (v := -2) (p := 35) dX2_liveLanding_33 (by decide) rfl ?_
    refine we_icmp_ne (t := 54) (p := 38) dX2_liveLanding_35 (by decide) rfl rfl (fun hc35 => absurd (by decide) hc35) (fun hc35 => ?_)
    refine we_aload_n (p := 39) dX2_liveLanding_38 rfl rfl ?_
    refine we_getR (c := 2) (j := 0) (n := 2) (b := 94) (p := 42) dX2_liveLanding_39 rfl rfl (by decide) (by decide) rfl (r_93_0 hF) rfl ?_
    refine we_aload_n (p := 43) dX2_liveLanding_42 rfl rfl ?_
    refine we_aload_n (p := 44) dX2_liveLanding_43 rfl rfl ?_
    refine we_getR (c := 2) (j := 0) (n := 2) (b := 94) (p := 47) dX2_liveLanding_44 rfl rfl (by decide) (by decide) rfl (r_93_0 hF) rfl ?_
    refine wf_getI (c := 3) (j := 1) (n := 6) (v := s 1) (p := 50) dX2_liveLanding_47 rfl rfl (by decide) (by decide) (Or.inl rfl) hmt.2.1 rfl ?_
    refine we_callV_v (p := 53) (k' := 1) (a := [.ref 94, .ref o, .int (s 1)]) (rr := []) dX2_liveLanding_50 rfl rfl rfl rfl (rc_of rfl rfl (by decide) ⟨rfl, by decide⟩) (Nat.le_of_ble_eq_true rfl) (Nat.le_of_ble_eq_true rfl) (by decide) (x_land (t := 94) ⟨rfl, by decide⟩ (by decide) hmt ho hF hC hW) (Or.inl rfl) rfl ?_
    exact wv_ret dX2_liveLanding_53 rfl (⟨rfl, _, _, _, rfl, fun k hk => lnd_ne (by omega), rfl, rfl, by rw [show lifeL D s = landS D s (s 1) from if_pos e]; exact lnd_mo hmt⟩)
  · skip
    refine we_aload_n (p := 1) dX2_liveLanding_0 rfl rfl ?_
    refine we_aload_n (p := 2) dX2_liveLanding_1 rfl rfl ?_
    refine we_aload_n (p := 3) dX2_liveLanding_2 rfl rfl ?_
    refine we_getR (c := 2) (j := 0) (n := 2) (b := 94) (p := 6) dX2_liveLanding_3 rfl rfl (by decide) (by decide) rfl (r_93_0 hF) rfl ?_
    refine wf_getI (c := 3) (j := 1) (n := 6) (v := s 1) (p := 9) dX2_liveLanding_6 rfl rfl (by decide) (by decide) (Or.inl rfl) hmt.2.1 rfl ?_
    refine we_callV_int (p := 12) (k' := 0) (a := [.ref o, .int (s 1)]) (rr := [.ref o]) dX2_liveLanding_9 rfl rfl rfl rfl (rc_of rfl (s_o ho) (l_o0 ho) ⟨rfl, by decide⟩) (Nat.le_of_ble_eq_true rfl) (Nat.le_of_ble_eq_true rfl) (by decide) (x_reach ho hF hC hW.c hat.1 hat.2.2) (Or.inl rfl) rfl ?_
    refine we_aload_n (p := 13) dX2_liveLanding_12 rfl rfl ?_
    refine we_getR (c := 2) (j := 0) (n := 2) (b := 94) (p := 16) dX2_liveLanding_13 rfl rfl (by decide) (by decide) rfl (r_93_0 hF) rfl ?_
    refine wf_getI (c := 3) (j := 2) (n := 6) (v := s 4) (p := 19) dX2_liveLanding_16 rfl rfl (by decide) (by decide) (Or.inl rfl) hmt.2.2.1 rfl ?_
    refine we_aload_n (p := 20) dX2_liveLanding_19 rfl rfl ?_
    refine we_getR (c := 2) (j := 0) (n := 2) (b := 94) (p := 23) dX2_liveLanding_20 rfl rfl (by decide) (by decide) rfl (r_93_0 hF) rfl ?_
    refine wf_getI (c := 3) (j := 0) (n := 6) (v := s 0) (p := 26) dX2_liveLanding_23 rfl rfl (by decide) (by decide) (Or.inl rfl) hmt.1 rfl ?_
    refine we_iconst (v := 1) (p := 27) dX2_liveLanding_26 (by decide) rfl ?_
    refine we_iadd (p := 28) dX2_liveLanding_27 rfl ?_
    refine we_callV_int (p := 31) (k' := 3) (a := [.ref o, .int (reachS D (s 1).toNatClampNeg), .int (s 4), .int ((s 0) + 1)]) (rr := []) dX2_liveLanding_28 rfl rfl rfl rfl (rc_of rfl (s_o ho) (l_o0 ho) ⟨rfl, by decide⟩) (Nat.le_of_ble_eq_true rfl) (Nat.le_of_ble_eq_true rfl) (by decide) (x_dearest ho hF hC hW.c hW.h) (Or.inl rfl) rfl ?_
    rw [show dearS D (reachS D (s 1).toNatClampNeg) (s 4) (s 0 + 1) = nI w from e]
    refine we_istore_n (ls1 := [.ref 93, .ref o, .int (nI w)]) (p := 32) dX2_liveLanding_31 rfl rfl ?_
    refine we_iload_n (p := 33) dX2_liveLanding_32 rfl rfl ?_
    refine we_bipush (v := -2) (p := 35) dX2_liveLanding_33 (by decide) rfl ?_
    refine we_icmp_ne (t := 54) (p := 38) dX2_liveLanding_35 (by decide) rfl rfl (fun hc35 => ?_) (fun hc35 => absurd hc35 (fun z => nI_m2 (by omega) z))
    refine we_aload_n (p := 55) dX2_liveLanding_54 rfl rfl ?_
    refine we_getR (c := 2) (j := 0) (n := 2) (b := 94) (p := 58) dX2_liveLanding_55 rfl rfl (by decide) (by decide) rfl (r_93_0 hF) rfl ?_
    refine we_aload_n (p := 59) dX2_liveLanding_58 rfl rfl ?_
    refine we_aload_n (p := 60) dX2_liveLanding_59 rfl rfl ?_
    refine we_getR (c := 4) (j := 7) (n := 18) (b := (o + 6)) (p := 63) dX2_liveLanding_60 rfl (s_o ho) (l_o0 ho) (by decide) rfl (r_o7 hF ho) rfl ?_
    refine we_iload_n (p := 64) dX2_liveLanding_63 rfl rfl ?_
    refine wf_iald (n := 8) (i := w) (v := D 7 w) (p := 65) dX2_liveLanding_64 (s_o6 ho) (l_o ho 6 (by decide)) (in_nJ (by omega) (by decide)) (nI_cl (by omega)) (c7 hC (by omega)) rfl ?_
    refine we_callV_v (p := 68) (k' := 1) (a := [.ref 94, .ref o, .int (D 7 w)]) (rr := []) dX2_liveLanding_65 rfl rfl rfl rfl (rc_of rfl rfl (by decide) ⟨rfl, by decide⟩) (Nat.le_of_ble_eq_true rfl) (Nat.le_of_ble_eq_true rfl) (by decide) (x_land (t := 94) ⟨rfl, by decide⟩ (by decide) hmt ho hF hC hW) (Or.inl rfl) rfl ?_
    refine we_aload_n (p := 69) dX2_liveLanding_68 rfl rfl ?_
    refine we_getR (c := 2) (j := 0) (n := 2) (b := 94) (p := 72) dX2_liveLanding_69 rfl rfl (by decide) (by decide) rfl (r_93_0 hF) rfl ?_
    refine we_aload_n (p := 73) dX2_liveLanding_72 rfl rfl ?_
    refine we_iload_n (p := 74) dX2_liveLanding_73 rfl rfl ?_
    refine we_callV_v (p := 77) (k' := 4) (a := [.ref 94, .ref o, .int (nI w)]) (rr := []) dX2_liveLanding_74 rfl rfl rfl rfl (rc_of rfl rfl (by decide) ⟨rfl, by decide⟩) (Nat.le_of_ble_eq_true rfl) (Nat.le_of_ble_eq_true rfl) (by decide) (x_tryWoman (t := 94) ⟨rfl, by decide⟩ (by decide) (lnd_mo hmt) ho hF (oC_fr hC ho (fun k h1 h2 => lnd_ne (by omega))) hW hw) (Or.inl rfl) rfl ?_
    exact wv_ret dX2_liveLanding_77 rfl (⟨rfl, _, _, _, rfl, fun k hk => (tryI_ne (by omega)).trans (lnd_ne (by omega)), rfl, rfl, by
      have e2 : (dearW D s).toNatClampNeg = w := by
        rw [show dearW D s = nI w from e, nI_cl (by omega)]
      rw [show lifeL D s = courtS D (landS D s (D 7 w)) w by unfold lifeL; rw [e2, if_neg (show ¬ dearW D s = -2 from fun z => nI_m2 (show w < 1000 by omega) (e.symm.trans z))]]
      exact tryI_mo (by omega) (lnd_mo hmt)⟩)
def liveG (D : oD) : Nat → Nat → (Nat → Int32) → (Nat → Int32) × Int32
  | 0, _, s => (s, 0)
  | m + 1, i, s => if lifeL D s 2 ≤ 0 then liveG D m (i + 1) (lifeL D s) else (lifeL D s, nI i)
set_option maxRecDepth 10000 in
theorem x_live_L {J : Nat → Nat → Int64} {F : Nat → Nat → Option Nat} {nc ns : Nat} {o n : Nat} {D : oD} {x : Int32} (ho : isO o) (hF : RFok F) (hW : WF D) (hn : n ≤ 100) : ∀ (m j : Nat) (I : Nat → Nat → Int32) (s : Nat → Int32), j + m = n + 1 → oC I o D → mo I 94 s → I 93 1 = 0 → WFv D s → s 2 ≤ 0 → Ew 6 mX2_live 24 [.ref 93, .ref o, .ref 42, .int x, .int (nI n), .int (nI j)] [] ((SH, nc, ns), I, J, F) (Ret nc ns none (fun I' J' F' => Fr 93 95 I I' ∧ J' = J ∧ F' = F ∧ mo I' 94 (liveG D m j s).1 ∧ I' 93 1 = (liveG D m j s).2))
  | 0, j, I, s, hj, hC, hmt, h93, hv, hs2 => by
    have hD := hW.c
    refine we_iload (p := 26) dX2_live_24 rfl rfl ?_
    refine we_iload (p := 28) dX2_live_26 rfl rfl ?_
    refine we_icmp_gt (t := 68) (p := 31) dX2_live_28 (by decide) rfl rfl (fun hc28 => ?_) (fun hc28 => absurd (nI_lt (a := n) (b := j) (by omega) (by omega)) hc28)
    exact wv_ret dX2_live_68 rfl (⟨rfl, _, _, _, rfl, Fr.rf, rfl, rfl, hmt, h93⟩)
  | m + 1, j, I, s, hj, hC, hmt, h93, hv, hs2 => by
    have hD := hW.c
    by_cases c : lifeL D s 2 ≤ 0
    · skip
      refine we_iload (p := 26) dX2_live_24 rfl rfl ?_
      refine we_iload (p := 28) dX2_live_26 rfl rfl ?_
      refine we_icmp_gt (t := 68) (p := 31) dX2_live_28 (by decide) rfl rfl (fun hc28 => absurd hc28 (nI_nlt (a := n) (b := j) (by omega) (by omega))) (fun hc28 => ?_)
      refine we_aload_n (p := 32) dX2_live_31 rfl rfl ?_
      refine we_getR (c := 2) (j := 0) (n := 2) (b := 94) (p := 35) dX2_live_32 rfl rfl (by decide) (by decide) rfl (r_93_0 hF) rfl ?_
      refine we_callV_int (p := 38) (k' := 0) (a := [.ref 94]) (rr := []) dX2_live_35 rfl rfl rfl rfl (rc_of rfl rfl (by decide) ⟨rfl, by decide⟩) (Nat.le_of_ble_eq_true rfl) (Nat.le_of_ble_eq_true rfl) (by decide) (Ev.i (if_pos hs2) (x_isFreedV (t := 94) ⟨rfl, by decide⟩ hmt (hv.fr hW.c))) (Or.inl rfl) rfl ?_
      refine we_if_ne (t := 68) (p := 41) dX2_live_38 (by decide) rfl rfl (fun hc38 => absurd (by decide) hc38) (fun hc38 => ?_)
      refine we_aload_n (p := 42) dX2_live_41 rfl rfl ?_
      refine we_aload_n (p := 43) dX2_live_42 rfl rfl ?_
      obtain ⟨_, _, e1, rfl, I1, J1, F1, rfl, ⟨f1, rfl, rfl, m1⟩⟩ := x_liveLanding (I := I) ho hF hC hW hmt hv
      refine we_callV_v (p := 46) (k' := 5) (a := [.ref 93, .ref o]) (rr := []) dX2_live_43 rfl rfl rfl rfl (rc_of rfl rfl (by decide) ⟨rfl, by decide⟩) (Nat.le_of_ble_eq_true rfl) (Nat.le_of_ble_eq_true rfl) (by decide) e1 (Or.inl rfl) rfl ?_
      refine we_aload_n (p := 47) dX2_live_46 rfl rfl ?_
      refine we_getR (c := 2) (j := 0) (n := 2) (b := 94) (p := 50) dX2_live_47 rfl rfl (by decide) (by decide) rfl (r_93_0 hF) rfl ?_
      refine we_callV_int (p := 53) (k' := 0) (a := [.ref 94]) (rr := []) dX2_live_50 rfl rfl rfl rfl (rc_of rfl rfl (by decide) ⟨rfl, by decide⟩) (Nat.le_of_ble_eq_true rfl) (Nat.le_of_ble_eq_true rfl) (by decide) (Ev.i (if_pos c) (x_isFreedV (t := 94) ⟨rfl, by decide⟩ m1 ((hv.life hW.h).fr hW.c))) (Or.inl rfl) rfl ?_
      refine we_if_eq (t := 62) (p := 56) dX2_live_53 (by decide) rfl rfl (fun hc53 => ?_) (fun hc53 => absurd (by decide) hc53)
      refine we_iinc (ls1 := [.ref 93, .ref o, .ref 42, .int x, .int (nI n), .int ((nI j) + 1)]) (p := 65) dX2_live_62 rfl rfl rfl ?_
      refine we_goto (p := 24) dX2_live_65 (by decide) rfl ?_
      rw [nI_1]
      rw [show liveG D (m + 1) j s = liveG D m (j + 1) (lifeL D s) from if_pos c]
      refine (x_live_L ho hF hW hn m (j + 1) I1 (lifeL D s) (by omega) (oC_fr hC ho (fun k h1 h2 => f1 k (by omega))) m1 ((congrFun (f1 93 (by omega)) 1).trans h93) (hv.life hW.h) c).mono ?_
      rintro r h ⟨h1, I2, J2, F2, h2, h3, h4⟩
      exact ⟨h1, I2, J2, F2, h2, (f1.wd (by omega) (by omega)).tr h3, h4⟩
    · skip
      refine we_iload (p := 26) dX2_live_24 rfl rfl ?_
      refine we_iload (p := 28) dX2_live_26 rfl rfl ?_
      refine we_icmp_gt (t := 68) (p := 31) dX2_live_28 (by decide) rfl rfl (fun hc28 => absurd hc28 (nI_nlt (a := n) (b := j) (by omega) (by omega))) (fun hc28 => ?_)
      refine we_aload_n (p := 32) dX2_live_31 rfl rfl ?_
      refine we_getR (c := 2) (j := 0) (n := 2) (b := 94) (p := 35) dX2_live_32 rfl rfl (by decide) (by decide) rfl (r_93_0 hF) rfl ?_
      refine we_callV_int (p := 38) (k' := 0) (a := [.ref 94]) (rr := []) dX2_live_35 rfl rfl rfl rfl (rc_of rfl rfl (by decide) ⟨rfl, by decide⟩) (Nat.le_of_ble_eq_true rfl) (Nat.le_of_ble_eq_true rfl) (by decide) (Ev.i (if_pos hs2) (x_isFreedV (t := 94) ⟨rfl, by decide⟩ hmt (hv.fr hW.c))) (Or.inl rfl) rfl ?_
      refine we_if_ne (t := 68) (p := 41) dX2_live_38 (by decide) rfl rfl (fun hc38 => absurd (by decide) hc38) (fun hc38 => ?_)
      refine we_aload_n (p := 42) dX2_live_41 rfl rfl ?_
      refine we_aload_n (p := 43) dX2_live_42 rfl rfl ?_
      obtain ⟨_, _, e1, rfl, I1, J1, F1, rfl, ⟨f1, rfl, rfl, m1⟩⟩ := x_liveLanding (I := I) ho hF hC hW hmt hv
      refine we_callV_v (p := 46) (k' := 5) (a := [.ref 93, .ref o]) (rr := []) dX2_live_43 rfl rfl rfl rfl (rc_of rfl rfl (by decide) ⟨rfl, by decide⟩) (Nat.le_of_ble_eq_true rfl) (Nat.le_of_ble_eq_true rfl) (by decide) e1 (Or.inl rfl) rfl ?_
      refine we_aload_n (p := 47) dX2_live_46 rfl rfl ?_
      refine we_getR (c := 2) (j := 0) (n := 2) (b := 94) (p := 50) dX2_live_47 rfl rfl (by decide) (by decide) rfl (r_93_0 hF) rfl ?_
      refine we_callV_int (p := 53) (k' := 0) (a := [.ref 94]) (rr := []) dX2_live_50 rfl rfl rfl rfl (rc_of rfl rfl (by decide) ⟨rfl, by decide⟩) (Nat.le_of_ble_eq_true rfl) (Nat.le_of_ble_eq_true rfl) (by decide) (Ev.i (if_neg c) (x_isFreedV (t := 94) ⟨rfl, by decide⟩ m1 ((hv.life hW.h).fr hW.c))) (Or.inl rfl) rfl ?_
      refine we_if_eq (t := 62) (p := 56) dX2_live_53 (by decide) rfl rfl (fun hc53 => absurd hc53 (by decide)) (fun hc53 => ?_)
      refine we_aload_n (p := 57) dX2_live_56 rfl rfl ?_
      refine we_iload (p := 59) dX2_live_57 rfl rfl ?_
      refine we_putI (c := 2) (j := 1) (n := 2)  (p := 62) dX2_live_59 rfl rfl (by decide) (by decide) rfl rfl rfl ?_
      refine we_iinc (ls1 := [.ref 93, .ref o, .ref 42, .int x, .int (nI n), .int ((nI j) + 1)]) (p := 65) dX2_live_62 rfl rfl rfl ?_
      refine we_goto (p := 24) dX2_live_65 (by decide) rfl ?_
      refine we_iload (p := 26) dX2_live_24 rfl rfl ?_
      refine we_iload (p := 28) dX2_live_26 rfl rfl ?_
      refine we_icmp_gt (t := 68) (p := 31) dX2_live_28 (by decide) rfl rfl (fun hc28 => ?_) (fun hc28 => ?_)
      · skip
        exact wv_ret dX2_live_68 rfl (⟨rfl, _, _, _, rfl, (f1.wd (by omega) (by omega)).u (by omega) (by omega), rfl, rfl, by rw [show liveG D (m + 1) j s = (lifeL D s, nI j) from if_neg c]; exact ⟨mo_u m1 (by decide), hu_eq⟩⟩)
      · skip
        refine we_aload_n (p := 32) dX2_live_31 rfl rfl ?_
        refine we_getR (c := 2) (j := 0) (n := 2) (b := 94) (p := 35) dX2_live_32 rfl rfl (by decide) (by decide) rfl (r_93_0 hF) rfl ?_
        refine we_callV_int (p := 38) (k' := 0) (a := [.ref 94]) (rr := []) dX2_live_35 rfl rfl rfl rfl (rc_of rfl rfl (by decide) ⟨rfl, by decide⟩) (Nat.le_of_ble_eq_true rfl) (Nat.le_of_ble_eq_true rfl) (by decide) (Ev.i (if_neg c) (x_isFreedV (t := 94) ⟨rfl, by decide⟩ (mo_u m1 (by decide)) ((hv.life hW.h).fr hW.c))) (Or.inl rfl) rfl ?_
        refine we_if_ne (t := 68) (p := 41) dX2_live_38 (by decide) rfl rfl (fun hc38 => ?_) (fun hc38 => absurd hc38 (by decide))
        exact wv_ret dX2_live_68 rfl (⟨rfl, _, _, _, rfl, (f1.wd (by omega) (by omega)).u (by omega) (by omega), rfl, rfl, by rw [show liveG D (m + 1) j s = (lifeL D s, nI j) from if_neg c]; exact ⟨mo_u m1 (by decide), hu_eq⟩⟩)
def sdS (s : Nat → Int32) (x : Int32) : Nat → Int32 := fun i => if i = 3 then x else s i
theorem sd_mo {I : Nat → Nat → Int32} {t : Nat} {s : Nat → Int32} {x : Int32} (h : mo I t s) : mo (hp_u I t 5 x) t (sdS s x) := by
  obtain ⟨h0, h1, h2, h3, h4, h5⟩ := h
  refine ⟨?_, ?_, ?_, ?_, ?_, ?_⟩ <;> simp [hu_if, sdS] <;> assumption
set_option maxRecDepth 10000 in
theorem x_live {I : Nat → Nat → Int32} {J : Nat → Nat → Int64} {F : Nat → Nat → Option Nat} {nc ns : Nat} {o n : Nat} {D : oD} {s : Nat → Int32} {x : Int32} (ho : isO o) (hF : RFok F) (hC : oC I o D) (hW : WF D) (hm : mo I 42 s) (hv : WFv D s) (hs2 : s 2 ≤ 0) (hn : n ≤ 100) : Ew 6 mX2_live 0 [.ref 93, .ref o, .ref 42, .int x, .int (nI n), .null] [] ((SH, nc, ns), I, J, F) (Ret nc ns none (fun I' J' F' => Fr 93 95 I I' ∧ J' = J ∧ F' = F ∧ mo I' 94 (liveG D n 1 (sdS s x)).1 ∧ I' 93 1 = (liveG D n 1 (sdS s x)).2)) := by
  refine we_aload_n (p := 1) dX2_live_0 rfl rfl ?_
  refine we_getR (c := 2) (j := 0) (n := 2) (b := 94) (p := 4) dX2_live_1 rfl rfl (by decide) (by decide) rfl (r_93_0 hF) rfl ?_
  refine we_aload_n (p := 5) dX2_live_4 rfl rfl ?_
  refine we_callV_v (p := 8) (k' := 0) (a := [.ref 94, .ref 42]) (rr := []) dX2_live_5 rfl rfl rfl rfl (rc_of rfl rfl (by decide) ⟨rfl, by decide⟩) (Nat.le_of_ble_eq_true rfl) (Nat.le_of_ble_eq_true rfl) (by decide) (x_copyM (t := 94) (u := 42) ⟨rfl, by decide⟩ ⟨rfl, by decide⟩ (by decide)) (Or.inl rfl) rfl ?_
  refine we_aload_n (p := 9) dX2_live_8 rfl rfl ?_
  refine we_getR (c := 2) (j := 0) (n := 2) (b := 94) (p := 12) dX2_live_9 rfl rfl (by decide) (by decide) rfl (r_93_0 hF) rfl ?_
  refine we_iload_n (p := 13) dX2_live_12 rfl rfl ?_
  refine we_putI (c := 3) (j := 5) (n := 6)  (p := 16) dX2_live_13 rfl rfl (by decide) (by decide) rfl rfl rfl ?_
  refine we_aload_n (p := 17) dX2_live_16 rfl rfl ?_
  refine we_iconst (v := 0) (p := 18) dX2_live_17 (by decide) rfl ?_
  refine we_putI (c := 2) (j := 1) (n := 2)  (p := 21) dX2_live_18 rfl rfl (by decide) (by decide) rfl rfl rfl ?_
  refine we_iconst (v := 1) (p := 22) dX2_live_21 (by decide) rfl ?_
  refine we_istore (ls1 := [.ref 93, .ref o, .ref 42, .int x, .int (nI n), .int 1]) (p := 24) dX2_live_22 rfl rfl ?_
  refine (x_live_L ho hF hW hn n 1 _ (sdS s x) (by omega) (oC_fr hC ho (fun k h1 h2 => (hu_ne (by omega)).trans ((hu_ne (by omega)).trans (mcp_ne (by omega))))) (mo_u (sd_mo (mcp_mo hm)) (by decide)) hu_eq hv hs2).mono ?_
  rintro r h ⟨h1, I2, J2, F2, h2, h3, h4⟩
  exact ⟨h1, I2, J2, F2, h2, Fr.tr (fun k hk => (hu_ne (by omega)).trans ((hu_ne (by omega)).trans (mcp_ne (by omega)))) h3, h4⟩
set_option maxRecDepth 10000 in
theorem c_life_no {I : Nat → Nat → Int32} {J : Nat → Nat → Int64} {F : Nat → Nat → Option Nat} {nc ns : Nat} {o : Nat} {D : oD} {s : Nat → Int32} (ho : isO o) (hF : RFok F) (hoF : F 0 2 = some o) (hC : oC I o D) (hW : WF D) (hm : mo I 42 s) (hS : WFs D s) {v n : Int32} (ht : ¬ (eiS (toS D) (eiS (nuS v 0 65536) (eiS (nuS n 0 20) (frD s)))) = 0) : Ev 7 mX11_life 0 [.ref 0, .int v, .int n] [] ((SH, nc, ns), I, J, F) (some (.int (-1))) ((SH, nc, ns), hp_u I 0 10 (eiS (toS D) (eiS (nuS v 0 65536) (eiS (nuS n 0 20) (frD s)))), J, F) := by
  have hD := hW.c
  have hH := hW.h
  have hT := hW.t
  have bt := hT.2
  obtain ⟨b0, b1, b2, b3, b4, b5, b6⟩ := hD.2
  refine e_aload_n (p := 1) dX11_life_0 rfl rfl ?_
  refine e_aload_n (p := 2) dX11_life_1 rfl rfl ?_
  refine e_iload_n (p := 3) dX11_life_2 rfl rfl ?_
  refine e_iload_n (p := 4) dX11_life_3 rfl rfl ?_
  refine e_iconst (v := 0) (p := 5) dX11_life_4 (by decide) rfl ?_
  refine e_bipush (v := 20) (p := 7) dX11_life_5 (by decide) rfl ?_
  refine e_callV_int (p := 10) (k' := 2) (a := [.ref 0, .int v, .int n, .int 0, .int 20]) (rr := [.ref 0]) dX11_life_7 rfl rfl rfl rfl (rc_of rfl rfl (by decide) ⟨rfl, by decide⟩) (Nat.le_of_ble_eq_true rfl) (Nat.le_of_ble_eq_true rfl) (by decide) (x_ofLife ho hF hoF hC hW hm hS) (Or.inl rfl) rfl ?_
  refine e_callV_int (p := 13) (k' := 0) (a := [.ref 0, .int (eiS (toS D) (eiS (nuS v 0 65536) (eiS (nuS n 0 20) (frD s))))]) (rr := []) dX11_life_10 rfl rfl rfl rfl (rc_of rfl rfl (by decide) ⟨rfl, by decide⟩) (Nat.le_of_ble_eq_true rfl) (Nat.le_of_ble_eq_true rfl) (by decide) x_refused (Or.inl rfl) rfl ?_
  refine e_if_eq (t := 18) (p := 16) dX11_life_13 (by decide) rfl rfl (fun hc13 => absurd hc13 (rf_ne ht)) (fun hc13 => ?_)
  refine e_iconst (v := -1) (p := 17) dX11_life_16 (by decide) rfl ?_
  exact e_iretE dX11_life_17 rfl rfl (by decide) ⟨rfl, rfl⟩
set_option maxRecDepth 10000 in
theorem c_lifeBy_no {I : Nat → Nat → Int32} {J : Nat → Nat → Int64} {F : Nat → Nat → Option Nat} {nc ns : Nat} {o : Nat} {D : oD} {s : Nat → Int32} (ho : isO o) (hF : RFok F) (hoF : F 0 2 = some o) (hC : oC I o D) (hW : WF D) (hm : mo I 42 s) (hS : WFs D s) {v n : Int32} (ht : ¬ (eiS (toS D) (eiS (nuS v 0 65536) (eiS (nuS n 0 20) (frD s)))) = 0) : Ev 7 mX11_lifeBy 0 [.ref 0, .int v, .int n] [] ((SH, nc, ns), I, J, F) (some (.int (-1))) ((SH, nc, ns), hp_u I 0 10 (eiS (toS D) (eiS (nuS v 0 65536) (eiS (nuS n 0 20) (frD s)))), J, F) := by
  have hD := hW.c
  have hH := hW.h
  have hT := hW.t
  have bt := hT.2
  obtain ⟨b0, b1, b2, b3, b4, b5, b6⟩ := hD.2
  refine e_aload_n (p := 1) dX11_lifeBy_0 rfl rfl ?_
  refine e_aload_n (p := 2) dX11_lifeBy_1 rfl rfl ?_
  refine e_iload_n (p := 3) dX11_lifeBy_2 rfl rfl ?_
  refine e_iload_n (p := 4) dX11_lifeBy_3 rfl rfl ?_
  refine e_iconst (v := 0) (p := 5) dX11_lifeBy_4 (by decide) rfl ?_
  refine e_bipush (v := 20) (p := 7) dX11_lifeBy_5 (by decide) rfl ?_
  refine e_callV_int (p := 10) (k' := 2) (a := [.ref 0, .int v, .int n, .int 0, .int 20]) (rr := [.ref 0]) dX11_lifeBy_7 rfl rfl rfl rfl (rc_of rfl rfl (by decide) ⟨rfl, by decide⟩) (Nat.le_of_ble_eq_true rfl) (Nat.le_of_ble_eq_true rfl) (by decide) (x_ofLife ho hF hoF hC hW hm hS) (Or.inl rfl) rfl ?_
  refine e_callV_int (p := 13) (k' := 0) (a := [.ref 0, .int (eiS (toS D) (eiS (nuS v 0 65536) (eiS (nuS n 0 20) (frD s))))]) (rr := []) dX11_lifeBy_10 rfl rfl rfl rfl (rc_of rfl rfl (by decide) ⟨rfl, by decide⟩) (Nat.le_of_ble_eq_true rfl) (Nat.le_of_ble_eq_true rfl) (by decide) x_refused (Or.inl rfl) rfl ?_
  refine e_if_eq (t := 18) (p := 16) dX11_lifeBy_13 (by decide) rfl rfl (fun hc13 => absurd hc13 (rf_ne ht)) (fun hc13 => ?_)
  refine e_iconst (v := -1) (p := 17) dX11_lifeBy_16 (by decide) rfl ?_
  exact e_iretE dX11_lifeBy_17 rfl rfl (by decide) ⟨rfl, rfl⟩
set_option maxRecDepth 10000 in
theorem c_lives_no {I : Nat → Nat → Int32} {J : Nat → Nat → Int64} {F : Nat → Nat → Option Nat} {nc ns : Nat} {o : Nat} {D : oD} {s : Nat → Int32} (ho : isO o) (hF : RFok F) (hoF : F 0 2 = some o) (hC : oC I o D) (hW : WF D) (hm : mo I 42 s) (hS : WFs D s) {v n : Int32} (ht : ¬ (eiS (toS D) (eiS (nuS v 0 65536) (eiS (nuS n 1 30) (frD s)))) = 0) : Ev 7 mX11_lives 0 [.ref 0, .int v, .int n, .null, .null, .null] [] ((SH, nc, ns), I, J, F) (some (.int (-1))) ((SH, nc, ns), hp_u I 0 10 (eiS (toS D) (eiS (nuS v 0 65536) (eiS (nuS n 1 30) (frD s)))), J, F) := by
  have hD := hW.c
  have hH := hW.h
  have hT := hW.t
  have bt := hT.2
  obtain ⟨b0, b1, b2, b3, b4, b5, b6⟩ := hD.2
  refine e_aload_n (p := 1) dX11_lives_0 rfl rfl ?_
  refine e_aload_n (p := 2) dX11_lives_1 rfl rfl ?_
  refine e_iload_n (p := 3) dX11_lives_2 rfl rfl ?_
  refine e_iload_n (p := 4) dX11_lives_3 rfl rfl ?_
  refine e_iconst (v := 1) (p := 5) dX11_lives_4 (by decide) rfl ?_
  refine e_bipush (v := 30) (p := 7) dX11_lives_5 (by decide) rfl ?_
  refine e_callV_int (p := 10) (k' := 2) (a := [.ref 0, .int v, .int n, .int 1, .int 30]) (rr := [.ref 0]) dX11_lives_7 rfl rfl rfl rfl (rc_of rfl rfl (by decide) ⟨rfl, by decide⟩) (Nat.le_of_ble_eq_true rfl) (Nat.le_of_ble_eq_true rfl) (by decide) (x_ofLife ho hF hoF hC hW hm hS) (Or.inl rfl) rfl ?_
  refine e_callV_int (p := 13) (k' := 0) (a := [.ref 0, .int (eiS (toS D) (eiS (nuS v 0 65536) (eiS (nuS n 1 30) (frD s))))]) (rr := []) dX11_lives_10 rfl rfl rfl rfl (rc_of rfl rfl (by decide) ⟨rfl, by decide⟩) (Nat.le_of_ble_eq_true rfl) (Nat.le_of_ble_eq_true rfl) (by decide) x_refused (Or.inl rfl) rfl ?_
  refine e_if_eq (t := 18) (p := 16) dX11_lives_13 (by decide) rfl rfl (fun hc13 => absurd hc13 (rf_ne ht)) (fun hc13 => ?_)
  refine e_iconst (v := -1) (p := 17) dX11_lives_16 (by decide) rfl ?_
  exact e_iretE dX11_lives_17 rfl rfl (by decide) ⟨rfl, rfl⟩
theorem WFs.v {D : oD} {s : Nat → Int32} (h : WFs D s) (h0 : 0 < dN D 0) : WFv D s := by
  obtain ⟨-, ⟨a, h1, h2, h3⟩, h4, -⟩ := h
  exact ⟨⟨a, by omega, h3⟩, h4⟩
set_option maxRecDepth 10000 in
theorem c_life_ok {I : Nat → Nat → Int32} {J : Nat → Nat → Int64} {F : Nat → Nat → Option Nat} {nc ns : Nat} {o : Nat} {D : oD} {s : Nat → Int32} (ho : isO o) (hF : RFok F) (hoF : F 0 2 = some o) (hC : oC I o D) (hW : WF D) (hm : mo I 42 s) (hS : WFs D s) (ht1 : tol D = 1) (hfr : s 2 ≤ 0) {v n : Nat} (hv : v ≤ 65536) (hn : n ≤ 20) : Ew 7 mX11_life 0 [.ref 0, .int (nI v), .int (nI n)] [] ((SH, nc, ns), I, J, F) (QC nc ns I J F (.int ((liveG D n 1 (sdS s (nI v))).2)) 0) := by
  have hD := hW.c
  have hH := hW.h
  have hT := hW.t
  have bt := hT.2
  obtain ⟨b0, b1, b2, b3, b4, b5, b6⟩ := hD.2
  refine we_aload_n (p := 1) dX11_life_0 rfl rfl ?_
  refine we_aload_n (p := 2) dX11_life_1 rfl rfl ?_
  refine we_iload_n (p := 3) dX11_life_2 rfl rfl ?_
  refine we_iload_n (p := 4) dX11_life_3 rfl rfl ?_
  refine we_iconst (v := 0) (p := 5) dX11_life_4 (by decide) rfl ?_
  refine we_bipush (v := 20) (p := 7) dX11_life_5 (by decide) rfl ?_
  refine we_callV_int (p := 10) (k' := 2) (a := [.ref 0, .int (nI v), .int (nI n), .int 0, .int 20]) (rr := [.ref 0]) dX11_life_7 rfl rfl rfl rfl (rc_of rfl rfl (by decide) ⟨rfl, by decide⟩) (Nat.le_of_ble_eq_true rfl) (Nat.le_of_ble_eq_true rfl) (by decide) (x_ofLife_ok ho hF hoF hC hW hm hS ht1 hfr (nu_ok (a := 0) (b := 65536) (n := v) (by omega) (by omega) (by omega)) (nu_ok (a := 0) (b := 20) (n := n) (by omega) (by omega) (by omega))) (Or.inl rfl) rfl ?_
  refine we_callV_int (p := 13) (k' := 0) (a := [.ref 0, .int 0]) (rr := []) dX11_life_10 rfl rfl rfl rfl (rc_of rfl rfl (by decide) ⟨rfl, by decide⟩) (Nat.le_of_ble_eq_true rfl) (Nat.le_of_ble_eq_true rfl) (by decide) (Ev.i (show rfS 0 = 0 by decide) (x_refused)) (Or.inl rfl) rfl ?_
  refine we_if_eq (t := 18) (p := 16) dX11_life_13 (by decide) rfl rfl (fun hc13 => ?_) (fun hc13 => absurd (by decide) hc13)
  refine we_aload_n (p := 19) dX11_life_18 rfl rfl ?_
  refine we_getR (c := 10) (j := 9) (n := 13) (b := 93) (p := 22) dX11_life_19 rfl rfl (by decide) (by decide) rfl (r_0_9 hF) rfl ?_
  refine we_aload_n (p := 23) dX11_life_22 rfl rfl ?_
  refine we_getR (c := 10) (j := 2) (n := 13) (b := o) (p := 26) dX11_life_23 rfl rfl (by decide) (by decide) rfl hoF rfl ?_
  refine we_aload_n (p := 27) dX11_life_26 rfl rfl ?_
  refine we_getR (c := 10) (j := 3) (n := 13) (b := 42) (p := 30) dX11_life_27 rfl rfl (by decide) (by decide) rfl (r_0_3 hF) rfl ?_
  refine we_iload_n (p := 31) dX11_life_30 rfl rfl ?_
  refine we_iload_n (p := 32) dX11_life_31 rfl rfl ?_
  obtain ⟨_, _, e1, rfl, I1, J1, F1, rfl, ⟨f1, rfl, rfl, m1, q1⟩⟩ := x_live (I := (hp_u I 0 10 0)) (n := n) (x := (nI v)) ho hF (oC_u hC ho (by decide)) hW (mo_u hm (by decide)) (hS.v (tol_h hW ht1)) hfr (by omega)
  refine we_callV_v (p := 35) (k' := 6) (a := [.ref 93, .ref o, .ref 42, .int (nI v), .int (nI n)]) (rr := []) dX11_life_32 rfl rfl rfl rfl (rc_of rfl rfl (by decide) ⟨rfl, by decide⟩) (Nat.le_of_ble_eq_true rfl) (Nat.le_of_ble_eq_true rfl) (by decide) e1 (Or.inl rfl) rfl ?_
  refine we_aload_n (p := 36) dX11_life_35 rfl rfl ?_
  refine we_getR (c := 10) (j := 9) (n := 13) (b := 93) (p := 39) dX11_life_36 rfl rfl (by decide) (by decide) rfl (r_0_9 hF) rfl ?_
  refine wf_getI (c := 2) (j := 1) (n := 2) (v := (liveG D n 1 (sdS s (nI v))).2) (p := 42) dX11_life_39 rfl rfl (by decide) (by decide) (Or.inl rfl) q1 rfl ?_
  exact wi_ret dX11_life_42 rfl rfl (by decide) (⟨rfl, _, _, _, rfl, f1.wd (by omega) (by omega), Fr.rf, rfl⟩)
set_option maxRecDepth 10000 in
theorem c_lifeBy_ok {I : Nat → Nat → Int32} {J : Nat → Nat → Int64} {F : Nat → Nat → Option Nat} {nc ns : Nat} {o : Nat} {D : oD} {s : Nat → Int32} (ho : isO o) (hF : RFok F) (hoF : F 0 2 = some o) (hC : oC I o D) (hW : WF D) (hm : mo I 42 s) (hS : WFs D s) (ht1 : tol D = 1) (hfr : s 2 ≤ 0) {v n : Nat} (hv : v ≤ 65536) (hn : n ≤ 20) : Ew 7 mX11_lifeBy 0 [.ref 0, .int (nI v), .int (nI n)] [] ((SH, nc, ns), I, J, F) (QC nc ns I J F (.int (frS ((liveG D n 1 (sdS s (nI v))).1 2))) 0) := by
  have hD := hW.c
  have hH := hW.h
  have hT := hW.t
  have bt := hT.2
  obtain ⟨b0, b1, b2, b3, b4, b5, b6⟩ := hD.2
  refine we_aload_n (p := 1) dX11_lifeBy_0 rfl rfl ?_
  refine we_aload_n (p := 2) dX11_lifeBy_1 rfl rfl ?_
  refine we_iload_n (p := 3) dX11_lifeBy_2 rfl rfl ?_
  refine we_iload_n (p := 4) dX11_lifeBy_3 rfl rfl ?_
  refine we_iconst (v := 0) (p := 5) dX11_lifeBy_4 (by decide) rfl ?_
  refine we_bipush (v := 20) (p := 7) dX11_lifeBy_5 (by decide) rfl ?_
  refine we_callV_int (p := 10) (k' := 2) (a := [.ref 0, .int (nI v), .int (nI n), .int 0, .int 20]) (rr := [.ref 0]) dX11_lifeBy_7 rfl rfl rfl rfl (rc_of rfl rfl (by decide) ⟨rfl, by decide⟩) (Nat.le_of_ble_eq_true rfl) (Nat.le_of_ble_eq_true rfl) (by decide) (x_ofLife_ok ho hF hoF hC hW hm hS ht1 hfr (nu_ok (a := 0) (b := 65536) (n := v) (by omega) (by omega) (by omega)) (nu_ok (a := 0) (b := 20) (n := n) (by omega) (by omega) (by omega))) (Or.inl rfl) rfl ?_
  refine we_callV_int (p := 13) (k' := 0) (a := [.ref 0, .int 0]) (rr := []) dX11_lifeBy_10 rfl rfl rfl rfl (rc_of rfl rfl (by decide) ⟨rfl, by decide⟩) (Nat.le_of_ble_eq_true rfl) (Nat.le_of_ble_eq_true rfl) (by decide) (Ev.i (show rfS 0 = 0 by decide) (x_refused)) (Or.inl rfl) rfl ?_
  refine we_if_eq (t := 18) (p := 16) dX11_lifeBy_13 (by decide) rfl rfl (fun hc13 => ?_) (fun hc13 => absurd (by decide) hc13)
  refine we_aload_n (p := 19) dX11_lifeBy_18 rfl rfl ?_
  refine we_getR (c := 10) (j := 9) (n := 13) (b := 93) (p := 22) dX11_lifeBy_19 rfl rfl (by decide) (by decide) rfl (r_0_9 hF) rfl ?_
  refine we_aload_n (p := 23) dX11_lifeBy_22 rfl rfl ?_
  refine we_getR (c := 10) (j := 2) (n := 13) (b := o) (p := 26) dX11_lifeBy_23 rfl rfl (by decide) (by decide) rfl hoF rfl ?_
  refine we_aload_n (p := 27) dX11_lifeBy_26 rfl rfl ?_
  refine we_getR (c := 10) (j := 3) (n := 13) (b := 42) (p := 30) dX11_lifeBy_27 rfl rfl (by decide) (by decide) rfl (r_0_3 hF) rfl ?_
  refine we_iload_n (p := 31) dX11_lifeBy_30 rfl rfl ?_
  refine we_iload_n (p := 32) dX11_lifeBy_31 rfl rfl ?_
  obtain ⟨_, _, e1, rfl, I1, J1, F1, rfl, ⟨f1, rfl, rfl, m1, q1⟩⟩ := x_live (I := (hp_u I 0 10 0)) (n := n) (x := (nI v)) ho hF (oC_u hC ho (by decide)) hW (mo_u hm (by decide)) (hS.v (tol_h hW ht1)) hfr (by omega)
  refine we_callV_v (p := 35) (k' := 6) (a := [.ref 93, .ref o, .ref 42, .int (nI v), .int (nI n)]) (rr := []) dX11_lifeBy_32 rfl rfl rfl rfl (rc_of rfl rfl (by decide) ⟨rfl, by decide⟩) (Nat.le_of_ble_eq_true rfl) (Nat.le_of_ble_eq_true rfl) (by decide) e1 (Or.inl rfl) rfl ?_
  refine we_aload_n (p := 36) dX11_lifeBy_35 rfl rfl ?_
  refine we_getR (c := 10) (j := 9) (n := 13) (b := 93) (p := 39) dX11_lifeBy_36 rfl rfl (by decide) (by decide) rfl (r_0_9 hF) rfl ?_
  refine we_getR (c := 2) (j := 0) (n := 2) (b := 94) (p := 42) dX11_lifeBy_39 rfl rfl (by decide) (by decide) rfl (r_93_0 hF) rfl ?_
  refine wf_getI (c := 3) (j := 4) (n := 6) (v := frS ((liveG D n 1 (sdS s (nI v))).1 2)) (p := 45) dX11_lifeBy_42 rfl rfl (by decide) (by decide) (Or.inl rfl) m1.2.2.2.2.1 rfl ?_
  exact wi_ret dX11_lifeBy_45 rfl rfl (by decide) (⟨rfl, _, _, _, rfl, f1.wd (by omega) (by omega), Fr.rf, rfl⟩)
def livF (D : oD) (s : Nat → Int32) (a : Int32 × Int32) : Int32 × Int32 := (if (liveG D 3 1 (sdS s a.2)).1 2 ≤ 0 then a.1 else a.1 + 1, (liveG D 3 1 (sdS s a.2)).1 3)
theorem liveG_v {D : oD} (hH : WFh D) : ∀ m i s, WFv D s → WFv D (liveG D m i s).1
  | 0, _, _, h => h
  | m + 1, i, s, h => by
    rw [liveG]
    split
    · exact liveG_v hH m (i + 1) _ (h.life hH)
    · exact h.life hH
set_option maxRecDepth 10000 in
theorem x_lives_L {J : Nat → Nat → Int64} {F : Nat → Nat → Option Nat} {nc ns : Nat} {o n : Nat} {D : oD} {s : Nat → Int32} {v : Int32} (ho : isO o) (hF : RFok F) (hoF : F 0 2 = some o) (hW : WF D) (hS : WFs D s) (ht1 : tol D = 1) (hfr : s 2 ≤ 0) (hn : n ≤ 30) : ∀ (m j : Nat) (I : Nat → Nat → Int32) (c g : Int32), j + m = n → oC I o D → mo I 42 s → Ew 7 mX11_lives 26 [.ref 0, .int v, .int (nI n), .int c, .int g, .int (nI j)] [] ((SH, nc, ns), I, J, F) (Ret nc ns (some (.int (gN (fun _ a => livF D s a) j m (c, g)).1)) (fun I' J' F' => Fr 93 95 I I' ∧ J' = J ∧ F' = F))
  | 0, j, I, c, g, hj, hC, hm => by
    refine we_iload (p := 28) dX11_lives_26 rfl rfl ?_
    refine we_iload_n (p := 29) dX11_lives_28 rfl rfl ?_
    refine we_icmp_ge (t := 84) (p := 32) dX11_lives_29 (by decide) rfl rfl (fun hc29 => ?_) (fun hc29 => absurd (nI_le (a := n) (b := j) (by omega) (by omega)) hc29)
    refine we_iload_n (p := 85) dX11_lives_84 rfl rfl ?_
    exact wi_ret dX11_lives_85 rfl rfl (by decide) (⟨rfl, _, _, _, rfl, Fr.rf, rfl, rfl⟩)
  | m + 1, j, I, c, g, hj, hC, hm => by
    have hD := hW.c
    have hvs : WFv D (sdS s g) := hS.v (tol_h hW ht1)
    by_cases z : (liveG D 3 1 (sdS s g)).1 2 ≤ 0
    · skip
      refine we_iload (p := 28) dX11_lives_26 rfl rfl ?_
      refine we_iload_n (p := 29) dX11_lives_28 rfl rfl ?_
      refine we_icmp_ge (t := 84) (p := 32) dX11_lives_29 (by decide) rfl rfl (fun hc29 => absurd hc29 (nI_ge (a := j) (b := n) (by omega) (by omega))) (fun hc29 => ?_)
      refine we_aload_n (p := 33) dX11_lives_32 rfl rfl ?_
      refine we_getR (c := 10) (j := 9) (n := 13) (b := 93) (p := 36) dX11_lives_33 rfl rfl (by decide) (by decide) rfl (r_0_9 hF) rfl ?_
      refine we_aload_n (p := 37) dX11_lives_36 rfl rfl ?_
      refine we_getR (c := 10) (j := 2) (n := 13) (b := o) (p := 40) dX11_lives_37 rfl rfl (by decide) (by decide) rfl hoF rfl ?_
      refine we_aload_n (p := 41) dX11_lives_40 rfl rfl ?_
      refine we_getR (c := 10) (j := 3) (n := 13) (b := 42) (p := 44) dX11_lives_41 rfl rfl (by decide) (by decide) rfl (r_0_3 hF) rfl ?_
      refine we_iload (p := 46) dX11_lives_44 rfl rfl ?_
      refine we_iconst (v := 3) (p := 47) dX11_lives_46 (by decide) rfl ?_
      obtain ⟨_, _, e1, rfl, I1, J1, F1, rfl, ⟨f1, rfl, rfl, m1, q1⟩⟩ := x_live (I := I) (n := 3) (x := g) ho hF hC hW hm (hS.v (tol_h hW ht1)) hfr (by omega)
      refine we_callV_v (p := 50) (k' := 6) (a := [.ref 93, .ref o, .ref 42, .int g, .int 3]) (rr := []) dX11_lives_47 rfl rfl rfl rfl (rc_of rfl rfl (by decide) ⟨rfl, by decide⟩) (Nat.le_of_ble_eq_true rfl) (Nat.le_of_ble_eq_true rfl) (by decide) e1 (Or.inl rfl) rfl ?_
      refine we_aload_n (p := 51) dX11_lives_50 rfl rfl ?_
      refine we_getR (c := 10) (j := 9) (n := 13) (b := 93) (p := 54) dX11_lives_51 rfl rfl (by decide) (by decide) rfl (r_0_9 hF) rfl ?_
      refine we_getR (c := 2) (j := 0) (n := 2) (b := 94) (p := 57) dX11_lives_54 rfl rfl (by decide) (by decide) rfl (r_93_0 hF) rfl ?_
      refine wf_getI (c := 3) (j := 5) (n := 6) (v := (liveG D 3 1 (sdS s g)).1 3) (p := 60) dX11_lives_57 rfl rfl (by decide) (by decide) (Or.inl rfl) m1.2.2.2.2.2 rfl ?_
      refine we_istore (ls1 := [.ref 0, .int v, .int (nI n), .int c, .int ((liveG D 3 1 (sdS s g)).1 3), .int (nI j)]) (p := 62) dX11_lives_60 rfl rfl ?_
      refine we_aload_n (p := 63) dX11_lives_62 rfl rfl ?_
      refine we_getR (c := 10) (j := 9) (n := 13) (b := 93) (p := 66) dX11_lives_63 rfl rfl (by decide) (by decide) rfl (r_0_9 hF) rfl ?_
      refine we_getR (c := 2) (j := 0) (n := 2) (b := 94) (p := 69) dX11_lives_66 rfl rfl (by decide) (by decide) rfl (r_93_0 hF) rfl ?_
      refine we_callV_int (p := 72) (k' := 0) (a := [.ref 94]) (rr := []) dX11_lives_69 rfl rfl rfl rfl (rc_of rfl rfl (by decide) ⟨rfl, by decide⟩) (Nat.le_of_ble_eq_true rfl) (Nat.le_of_ble_eq_true rfl) (by decide) (Ev.i (if_pos z) (x_isFreedV (t := 94) ⟨rfl, by decide⟩ m1 ((liveG_v hW.h 3 1 _ hvs).fr hW.c))) (Or.inl rfl) rfl ?_
      refine we_if_eq (t := 78) (p := 75) dX11_lives_72 (by decide) rfl rfl (fun hc72 => ?_) (fun hc72 => absurd (by decide) hc72)
      refine we_iinc (ls1 := [.ref 0, .int v, .int (nI n), .int c, .int ((liveG D 3 1 (sdS s g)).1 3), .int ((nI j) + 1)]) (p := 81) dX11_lives_78 rfl rfl rfl ?_
      refine we_goto (p := 26) dX11_lives_81 (by decide) rfl ?_
      rw [nI_1]
      refine (x_lives_L ho hF hoF hW hS ht1 hfr hn m (j + 1) I1 c ((liveG D 3 1 (sdS s g)).1 3) (by omega) (oC_fr hC ho (fun k h1 h2 => f1 k (by omega))) (mo_fr hm (f1 42 (by omega)))).mono ?_
      rw [show gN (fun _ a => livF D s a) j (m + 1) (c, g) = gN (fun _ a => livF D s a) (j + 1) m (c, (liveG D 3 1 (sdS s g)).1 3) by rw [gN, livF]; simp only [z, ↓reduceIte]]
      rintro r h ⟨h1, I2, J2, F2, h2, h3, h4⟩
      exact ⟨h1, I2, J2, F2, h2, f1.tr h3, h4⟩
    · skip
      refine we_iload (p := 28) dX11_lives_26 rfl rfl ?_
      refine we_iload_n (p := 29) dX11_lives_28 rfl rfl ?_
      refine we_icmp_ge (t := 84) (p := 32) dX11_lives_29 (by decide) rfl rfl (fun hc29 => absurd hc29 (nI_ge (a := j) (b := n) (by omega) (by omega))) (fun hc29 => ?_)
      refine we_aload_n (p := 33) dX11_lives_32 rfl rfl ?_
      refine we_getR (c := 10) (j := 9) (n := 13) (b := 93) (p := 36) dX11_lives_33 rfl rfl (by decide) (by decide) rfl (r_0_9 hF) rfl ?_
      refine we_aload_n (p := 37) dX11_lives_36 rfl rfl ?_
      refine we_getR (c := 10) (j := 2) (n := 13) (b := o) (p := 40) dX11_lives_37 rfl rfl (by decide) (by decide) rfl hoF rfl ?_
      refine we_aload_n (p := 41) dX11_lives_40 rfl rfl ?_
      refine we_getR (c := 10) (j := 3) (n := 13) (b := 42) (p := 44) dX11_lives_41 rfl rfl (by decide) (by decide) rfl (r_0_3 hF) rfl ?_
      refine we_iload (p := 46) dX11_lives_44 rfl rfl ?_
      refine we_iconst (v := 3) (p := 47) dX11_lives_46 (by decide) rfl ?_
      obtain ⟨_, _, e1, rfl, I1, J1, F1, rfl, ⟨f1, rfl, rfl, m1, q1⟩⟩ := x_live (I := I) (n := 3) (x := g) ho hF hC hW hm (hS.v (tol_h hW ht1)) hfr (by omega)
      refine we_callV_v (p := 50) (k' := 6) (a := [.ref 93, .ref o, .ref 42, .int g, .int 3]) (rr := []) dX11_lives_47 rfl rfl rfl rfl (rc_of rfl rfl (by decide) ⟨rfl, by decide⟩) (Nat.le_of_ble_eq_true rfl) (Nat.le_of_ble_eq_true rfl) (by decide) e1 (Or.inl rfl) rfl ?_
      refine we_aload_n (p := 51) dX11_lives_50 rfl rfl ?_
      refine we_getR (c := 10) (j := 9) (n := 13) (b := 93) (p := 54) dX11_lives_51 rfl rfl (by decide) (by decide) rfl (r_0_9 hF) rfl ?_
      refine we_getR (c := 2) (j := 0) (n := 2) (b := 94) (p := 57) dX11_lives_54 rfl rfl (by decide) (by decide) rfl (r_93_0 hF) rfl ?_
      refine wf_getI (c := 3) (j := 5) (n := 6) (v := (liveG D 3 1 (sdS s g)).1 3) (p := 60) dX11_lives_57 rfl rfl (by decide) (by decide) (Or.inl rfl) m1.2.2.2.2.2 rfl ?_
      refine we_istore (ls1 := [.ref 0, .int v, .int (nI n), .int c, .int ((liveG D 3 1 (sdS s g)).1 3), .int (nI j)]) (p := 62) dX11_lives_60 rfl rfl ?_
      refine we_aload_n (p := 63) dX11_lives_62 rfl rfl ?_
      refine we_getR (c := 10) (j := 9) (n := 13) (b := 93) (p := 66) dX11_lives_63 rfl rfl (by decide) (by decide) rfl (r_0_9 hF) rfl ?_
      refine we_getR (c := 2) (j := 0) (n := 2) (b := 94) (p := 69) dX11_lives_66 rfl rfl (by decide) (by decide) rfl (r_93_0 hF) rfl ?_
      refine we_callV_int (p := 72) (k' := 0) (a := [.ref 94]) (rr := []) dX11_lives_69 rfl rfl rfl rfl (rc_of rfl rfl (by decide) ⟨rfl, by decide⟩) (Nat.le_of_ble_eq_true rfl) (Nat.le_of_ble_eq_true rfl) (by decide) (Ev.i (if_neg z) (x_isFreedV (t := 94) ⟨rfl, by decide⟩ m1 ((liveG_v hW.h 3 1 _ hvs).fr hW.c))) (Or.inl rfl) rfl ?_
      refine we_if_eq (t := 78) (p := 75) dX11_lives_72 (by decide) rfl rfl (fun hc72 => absurd hc72 (by decide)) (fun hc72 => ?_)
      refine we_iinc (ls1 := [.ref 0, .int v, .int (nI n), .int (c + 1), .int ((liveG D 3 1 (sdS s g)).1 3), .int (nI j)]) (p := 78) dX11_lives_75 rfl rfl rfl ?_
      refine we_iinc (ls1 := [.ref 0, .int v, .int (nI n), .int (c + 1), .int ((liveG D 3 1 (sdS s g)).1 3), .int ((nI j) + 1)]) (p := 81) dX11_lives_78 rfl rfl rfl ?_
      refine we_goto (p := 26) dX11_lives_81 (by decide) rfl ?_
      rw [nI_1]
      refine (x_lives_L ho hF hoF hW hS ht1 hfr hn m (j + 1) I1 (c + 1) ((liveG D 3 1 (sdS s g)).1 3) (by omega) (oC_fr hC ho (fun k h1 h2 => f1 k (by omega))) (mo_fr hm (f1 42 (by omega)))).mono ?_
      rw [show gN (fun _ a => livF D s a) j (m + 1) (c, g) = gN (fun _ a => livF D s a) (j + 1) m ((c + 1), (liveG D 3 1 (sdS s g)).1 3) by rw [gN, livF]; simp only [z, ↓reduceIte]]
      rintro r h ⟨h1, I2, J2, F2, h2, h3, h4⟩
      exact ⟨h1, I2, J2, F2, h2, f1.tr h3, h4⟩
set_option maxRecDepth 10000 in
theorem c_lives_ok {I : Nat → Nat → Int32} {J : Nat → Nat → Int64} {F : Nat → Nat → Option Nat} {nc ns : Nat} {o : Nat} {D : oD} {s : Nat → Int32} (ho : isO o) (hF : RFok F) (hoF : F 0 2 = some o) (hC : oC I o D) (hW : WF D) (hm : mo I 42 s) (hS : WFs D s) (ht1 : tol D = 1) (hfr : s 2 ≤ 0) {v n : Nat} (hv : v ≤ 65536) (h1n : 1 ≤ n) (hn : n ≤ 30) : Ew 7 mX11_lives 0 [.ref 0, .int (nI v), .int (nI n), .null, .null, .null] [] ((SH, nc, ns), I, J, F) (QC nc ns I J F (.int ((gN (fun _ a => livF D s a) 0 n (0, nI v)).1)) 0) := by
  have hD := hW.c
  have hH := hW.h
  have hT := hW.t
  have bt := hT.2
  obtain ⟨b0, b1, b2, b3, b4, b5, b6⟩ := hD.2
  refine we_aload_n (p := 1) dX11_lives_0 rfl rfl ?_
  refine we_aload_n (p := 2) dX11_lives_1 rfl rfl ?_
  refine we_iload_n (p := 3) dX11_lives_2 rfl rfl ?_
  refine we_iload_n (p := 4) dX11_lives_3 rfl rfl ?_
  refine we_iconst (v := 1) (p := 5) dX11_lives_4 (by decide) rfl ?_
  refine we_bipush (v := 30) (p := 7) dX11_lives_5 (by decide) rfl ?_
  refine we_callV_int (p := 10) (k' := 2) (a := [.ref 0, .int (nI v), .int (nI n), .int 1, .int 30]) (rr := [.ref 0]) dX11_lives_7 rfl rfl rfl rfl (rc_of rfl rfl (by decide) ⟨rfl, by decide⟩) (Nat.le_of_ble_eq_true rfl) (Nat.le_of_ble_eq_true rfl) (by decide) (x_ofLife_ok ho hF hoF hC hW hm hS ht1 hfr (nu_ok (a := 0) (b := 65536) (n := v) (by omega) (by omega) (by omega)) (nu_ok (a := 1) (b := 30) (n := n) (by omega) (by omega) (by omega))) (Or.inl rfl) rfl ?_
  refine we_callV_int (p := 13) (k' := 0) (a := [.ref 0, .int 0]) (rr := []) dX11_lives_10 rfl rfl rfl rfl (rc_of rfl rfl (by decide) ⟨rfl, by decide⟩) (Nat.le_of_ble_eq_true rfl) (Nat.le_of_ble_eq_true rfl) (by decide) (Ev.i (show rfS 0 = 0 by decide) (x_refused)) (Or.inl rfl) rfl ?_
  refine we_if_eq (t := 18) (p := 16) dX11_lives_13 (by decide) rfl rfl (fun hc13 => ?_) (fun hc13 => absurd (by decide) hc13)
  refine we_iconst (v := 0) (p := 19) dX11_lives_18 (by decide) rfl ?_
  refine we_istore_n (ls1 := [.ref 0, .int (nI v), .int (nI n), .int 0, .null, .null]) (p := 20) dX11_lives_19 rfl rfl ?_
  refine we_iload_n (p := 21) dX11_lives_20 rfl rfl ?_
  refine we_istore (ls1 := [.ref 0, .int (nI v), .int (nI n), .int 0, .int (nI v), .null]) (p := 23) dX11_lives_21 rfl rfl ?_
  refine we_iconst (v := 0) (p := 24) dX11_lives_23 (by decide) rfl ?_
  refine we_istore (ls1 := [.ref 0, .int (nI v), .int (nI n), .int 0, .int (nI v), .int 0]) (p := 26) dX11_lives_24 rfl rfl ?_
  refine (x_lives_L ho hF hoF hW hS ht1 hfr hn n 0 _ 0 (nI v) (by omega) (oC_u hC ho (by decide)) (mo_u hm (by decide))).mono ?_
  rintro r h ⟨h1, I2, J2, F2, h2, h3, rfl, h5⟩
  exact ⟨h1, I2, _, F2, h2, h3.wd (by omega) (by omega), Fr.rf, h5⟩
