/-! Moments: copied, landed, tried. -/
theorem hu_self {α : Type} {I : Nat → Nat → α} {k j : Nat} {v : α} (h : I k j = v) : hp_u I k j v = I := by
  funext a b
  unfold hp_u
  by_cases c : a = k
  · by_cases c2 : b = j
    · rw [if_pos c, if_pos c2, c, c2, h]
    · rw [if_pos c, if_neg c2]
  · rw [if_neg c]
def mcp (I : Nat → Nat → Int32) (t u : Nat) : Nat → Nat → Int32 := hp_u (hp_u (hp_u (hp_u (hp_u (hp_u I t 0 (I u 0)) t 1 (I u 1)) t 2 (I u 2)) t 3 (I u 3)) t 4 (I u 4)) t 5 (I u 5)
theorem mcp_ne {I : Nat → Nat → Int32} {t u x : Nat} (h : x ≠ t) : mcp I t u x = I x := by
  unfold mcp
  rw [hu_ne h, hu_ne h, hu_ne h, hu_ne h, hu_ne h, hu_ne h]
theorem mcp_at {I : Nat → Nat → Int32} {t u j : Nat} (h : j < 6) : mcp I t u t j = I u j := by
  unfold mcp
  rcases (by omega : j = 0 ∨ j = 1 ∨ j = 2 ∨ j = 3 ∨ j = 4 ∨ j = 5) with rfl | rfl | rfl | rfl | rfl | rfl <;> simp [hu_if]
theorem mcp_mo {I : Nat → Nat → Int32} {t u : Nat} {s : Nat → Int32} (h : mo I u s) : mo (mcp I t u) t s := by
  obtain ⟨h0, h1, h2, h3, h4, h5⟩ := h
  exact ⟨(mcp_at (by decide)).trans h0, (mcp_at (by decide)).trans h1, (mcp_at (by decide)).trans h2, (mcp_at (by decide)).trans h3, (mcp_at (by decide)).trans h4, (mcp_at (by decide)).trans h5⟩
set_option maxRecDepth 10000 in
theorem x_copyM {I : Nat → Nat → Int32} {J : Nat → Nat → Int64} {F : Nat → Nat → Option Nat} {nc ns : Nat} {t u : Nat} (ht : isM t) (hu : isM u) (hne : u ≠ t)  : Ev 0 mX3_copy 0 [.ref t, .ref u] [] ((SH, nc, ns), I, J, F) (none) ((SH, nc, ns), mcp I t u, J, F) := by
  refine e_aload_n (p := 1) dX3_copy_0 rfl rfl ?_
  refine e_aload_n (p := 2) dX3_copy_1 rfl rfl ?_
  refine f_getI (c := 3) (j := 0) (n := 6) (v := I u 0) (p := 5) dX3_copy_2 rfl hu.1 hu.2 (by decide) (Or.inl rfl) (show I u 0 = I u 0 from rfl) rfl ?_
  refine e_putI (c := 3) (j := 0) (n := 6)  (p := 8) dX3_copy_5 rfl ht.1 ht.2 (by decide) rfl rfl rfl ?_
  refine e_aload_n (p := 9) dX3_copy_8 rfl rfl ?_
  refine e_aload_n (p := 10) dX3_copy_9 rfl rfl ?_
  refine f_getI (c := 3) (j := 1) (n := 6) (v := I u 1) (p := 13) dX3_copy_10 rfl hu.1 hu.2 (by decide) (Or.inl rfl) (I_u (show I u 1 = I u 1 from rfl) (fun z => hne z.1)) rfl ?_
  refine e_putI (c := 3) (j := 1) (n := 6)  (p := 16) dX3_copy_13 rfl ht.1 ht.2 (by decide) rfl rfl rfl ?_
  refine e_aload_n (p := 17) dX3_copy_16 rfl rfl ?_
  refine e_aload_n (p := 18) dX3_copy_17 rfl rfl ?_
  refine f_getI (c := 3) (j := 2) (n := 6) (v := I u 2) (p := 21) dX3_copy_18 rfl hu.1 hu.2 (by decide) (Or.inl rfl) (I_u (I_u (show I u 2 = I u 2 from rfl) (fun z => hne z.1)) (fun z => hne z.1)) rfl ?_
  refine e_putI (c := 3) (j := 2) (n := 6)  (p := 24) dX3_copy_21 rfl ht.1 ht.2 (by decide) rfl rfl rfl ?_
  refine e_aload_n (p := 25) dX3_copy_24 rfl rfl ?_
  refine e_aload_n (p := 26) dX3_copy_25 rfl rfl ?_
  refine f_getI (c := 3) (j := 3) (n := 6) (v := I u 3) (p := 29) dX3_copy_26 rfl hu.1 hu.2 (by decide) (Or.inl rfl) (I_u (I_u (I_u (show I u 3 = I u 3 from rfl) (fun z => hne z.1)) (fun z => hne z.1)) (fun z => hne z.1)) rfl ?_
  refine e_putI (c := 3) (j := 3) (n := 6)  (p := 32) dX3_copy_29 rfl ht.1 ht.2 (by decide) rfl rfl rfl ?_
  refine e_aload_n (p := 33) dX3_copy_32 rfl rfl ?_
  refine e_aload_n (p := 34) dX3_copy_33 rfl rfl ?_
  refine f_getI (c := 3) (j := 4) (n := 6) (v := I u 4) (p := 37) dX3_copy_34 rfl hu.1 hu.2 (by decide) (Or.inl rfl) (I_u (I_u (I_u (I_u (show I u 4 = I u 4 from rfl) (fun z => hne z.1)) (fun z => hne z.1)) (fun z => hne z.1)) (fun z => hne z.1)) rfl ?_
  refine e_putI (c := 3) (j := 4) (n := 6)  (p := 40) dX3_copy_37 rfl ht.1 ht.2 (by decide) rfl rfl rfl ?_
  refine e_aload_n (p := 41) dX3_copy_40 rfl rfl ?_
  refine e_aload_n (p := 42) dX3_copy_41 rfl rfl ?_
  refine f_getI (c := 3) (j := 5) (n := 6) (v := I u 5) (p := 45) dX3_copy_42 rfl hu.1 hu.2 (by decide) (Or.inl rfl) (I_u (I_u (I_u (I_u (I_u (show I u 5 = I u 5 from rfl) (fun z => hne z.1)) (fun z => hne z.1)) (fun z => hne z.1)) (fun z => hne z.1)) (fun z => hne z.1)) rfl ?_
  refine e_putI (c := 3) (j := 5) (n := 6)  (p := 48) dX3_copy_45 rfl ht.1 ht.2 (by decide) rfl rfl rfl ?_
  exact e_vretE dX3_copy_48 rfl rfl
def landS (D : oD) (s : Nat → Int32) (h : Int32) : Nat → Int32 := fun i => if i = 0 then s 0 + 1 else if i = 1 then h else if i = 5 then s 5 ||| dueS D h (s 0 + 1) else s i
def lnd (I : Nat → Nat → Int32) (t : Nat) (D : oD) (s : Nat → Int32) (h : Int32) : Nat → Nat → Int32 := hp_u (hp_u (hp_u I t 0 (s 0 + 1)) t 1 h) t 3 (s 5 ||| dueS D h (s 0 + 1))
theorem lnd_ne {I : Nat → Nat → Int32} {t x : Nat} {D : oD} {s : Nat → Int32} {h : Int32} (c : x ≠ t) : lnd I t D s h x = I x := by
  unfold lnd
  rw [hu_ne c, hu_ne c, hu_ne c]
theorem lnd_mo {I : Nat → Nat → Int32} {t : Nat} {D : oD} {s : Nat → Int32} {h : Int32} (q : mo I t s) : mo (lnd I t D s h) t (landS D s h) := by
  obtain ⟨h0, h1, h2, h3, h4, h5⟩ := q
  refine ⟨?_, ?_, ?_, ?_, ?_, ?_⟩ <;> simp [lnd, hu_if, landS] <;> assumption
set_option maxRecDepth 10000 in
theorem x_land {I : Nat → Nat → Int32} {J : Nat → Nat → Int64} {F : Nat → Nat → Option Nat} {nc ns : Nat} {t : Nat} {D : oD} {s : Nat → Int32} {o : Nat} (ht : isM t) (ht2 : 42 ≤ t) (hmt : mo I t s) (ho : isO o) (hF : RFok F) (hC : oC I o D) (hW : WF D) {h : Int32}  : Ev 1 mX3_land 0 [.ref t, .ref o, .int h] [] ((SH, nc, ns), I, J, F) (none) ((SH, nc, ns), lnd I t D s h, J, F) := by
  refine e_aload_n (p := 1) dX3_land_0 rfl rfl ?_
  refine e_dup_ref (p := 2) dX3_land_1 rfl ?_
  refine f_getI (c := 3) (j := 0) (n := 6) (v := s 0) (p := 5) dX3_land_2 rfl ht.1 ht.2 (by decide) (Or.inl rfl) hmt.1 rfl ?_
  refine e_iconst (v := 1) (p := 6) dX3_land_5 (by decide) rfl ?_
  refine e_iadd (p := 7) dX3_land_6 rfl ?_
  refine e_putI (c := 3) (j := 0) (n := 6)  (p := 10) dX3_land_7 rfl ht.1 ht.2 (by decide) rfl rfl rfl ?_
  refine e_aload_n (p := 11) dX3_land_10 rfl rfl ?_
  refine e_iload_n (p := 12) dX3_land_11 rfl rfl ?_
  refine e_putI (c := 3) (j := 1) (n := 6)  (p := 15) dX3_land_12 rfl ht.1 ht.2 (by decide) rfl rfl rfl ?_
  refine e_aload_n (p := 16) dX3_land_15 rfl rfl ?_
  refine e_dup_ref (p := 17) dX3_land_16 rfl ?_
  refine f_getI (c := 3) (j := 3) (n := 6) (v := s 5) (p := 20) dX3_land_17 rfl ht.1 ht.2 (by decide) (Or.inl rfl) (I_u (I_u hmt.2.2.2.1 (by omega)) (by omega)) rfl ?_
  refine e_aload_n (p := 21) dX3_land_20 rfl rfl ?_
  refine e_iload_n (p := 22) dX3_land_21 rfl rfl ?_
  refine e_aload_n (p := 23) dX3_land_22 rfl rfl ?_
  refine f_getI (c := 3) (j := 0) (n := 6) (v := s 0 + 1) (p := 26) dX3_land_23 rfl ht.1 ht.2 (by decide) (Or.inl rfl) (I_u hu_eq (by omega)) rfl ?_
  refine e_callV_int (p := 29) (k' := 0) (a := [.ref o, .int h, .int (s 0 + 1)]) (rr := [.int (s 5), .ref t]) dX3_land_26 rfl rfl rfl rfl (rc_of rfl (s_o ho) (l_o0 ho) ⟨rfl, by decide⟩) (Nat.le_of_ble_eq_true rfl) (Nat.le_of_ble_eq_true rfl) (by decide) (x_lettersDue ho hF (oC_u (oC_u hC ho (by omega)) ho (by omega)) hW.c ) (Or.inl rfl) rfl ?_
  refine e_ior (p := 30) dX3_land_29 rfl ?_
  refine e_putI (c := 3) (j := 3) (n := 6)  (p := 33) dX3_land_30 rfl ht.1 ht.2 (by decide) rfl rfl rfl ?_
  exact e_vretE dX3_land_33 rfl rfl
def drawS (x : Int32) : Int32 := 75 * x + 74 - (75 * x + 74) / 65537 * 65537
def couG (l : Int32) : Nat → Int32 → Int32 × Int32
  | 0, x => (x, 1)
  | m + 1, x => if drawS x - drawS x / 100 * 100 < l then couG l m (drawS x) else (drawS x, 0)
def couS (D : oD) (w : Nat) (l x : Int32) : Int32 × Int32 := couG (loveS D w (l * D 0 0)) (tN D) x
theorem cou01 {l : Int32} : ∀ m x, (couG l m x).2 = 0 ∨ (couG l m x).2 = 1
  | 0, _ => z1
  | m + 1, x => by
    rw [couG]
    split
    · exact cou01 m _
    · exact z0
set_option maxRecDepth 10000 in
theorem x_nextDraw {I : Nat → Nat → Int32} {J : Nat → Nat → Int64} {F : Nat → Nat → Option Nat} {nc ns : Nat} {t : Nat} {x : Int32} (ht : isM t) (hx : I t 5 = x)  : Ev 0 mX3_nextDraw 0 [.ref t] [] ((SH, nc, ns), I, J, F) (some (.int (drawS x))) ((SH, nc, ns), hp_u I t 5 (drawS x), J, F) := by
  refine e_aload_n (p := 1) dX3_nextDraw_0 rfl rfl ?_
  refine e_bipush (v := 75) (p := 3) dX3_nextDraw_1 (by decide) rfl ?_
  refine e_aload_n (p := 4) dX3_nextDraw_3 rfl rfl ?_
  refine f_getI (c := 3) (j := 5) (n := 6) (v := x) (p := 7) dX3_nextDraw_4 rfl ht.1 ht.2 (by decide) (Or.inl rfl) hx rfl ?_
  refine e_imul (p := 8) dX3_nextDraw_7 rfl ?_
  refine e_bipush (v := 74) (p := 10) dX3_nextDraw_8 (by decide) rfl ?_
  refine e_iadd (p := 11) dX3_nextDraw_10 rfl ?_
  refine e_ldcI (p := 13) dX3_nextDraw_11 rfl rfl ?_
  refine e_irem (p := 14) dX3_nextDraw_13 (by decide) rfl ?_
  refine e_putI (c := 3) (j := 5) (n := 6)  (p := 17) dX3_nextDraw_14 rfl ht.1 ht.2 (by decide) rfl rfl rfl ?_
  refine e_aload_n (p := 18) dX3_nextDraw_17 rfl rfl ?_
  refine f_getI (c := 3) (j := 5) (n := 6) (v := drawS x) (p := 21) dX3_nextDraw_18 rfl ht.1 ht.2 (by decide) (Or.inl rfl) hu_eq rfl ?_
  exact e_iretE dX3_nextDraw_21 rfl rfl (by decide) ⟨rfl, rfl⟩
def tryH (X : Nat → Nat → Int32) (t w : Nat) (r : Int32 × Int32) : Nat → Nat → Int32 := if r.2 = 0 then hp_u X t 5 r.1 else hp_u (hp_u X t 5 r.1) t 4 (nI w)
def courtS (D : oD) (s : Nat → Int32) (w : Nat) : Nat → Int32 := fun i => if i = 4 then s 4 ||| bit w else if i = 3 then (couS D w (s 0) (s 3)).1 else if i = 2 then (if (couS D w (s 0) (s 3)).2 = 0 then s 2 else nI w + 1) else s i
def tryI (I : Nat → Nat → Int32) (t : Nat) (D : oD) (s : Nat → Int32) (w : Nat) : Nat → Nat → Int32 := tryH (hp_u I t 2 (s 4 ||| bit w)) t w (couS D w (s 0) (s 3))
theorem tryH_ne {X : Nat → Nat → Int32} {t w x : Nat} {r : Int32 × Int32} (h : x ≠ t) : tryH X t w r x = X x := by
  unfold tryH
  split
  · exact hu_ne h
  · rw [hu_ne h, hu_ne h]
theorem tryI_ne {I : Nat → Nat → Int32} {t w x : Nat} {D : oD} {s : Nat → Int32} (h : x ≠ t) : tryI I t D s w x = I x := (tryH_ne h).trans (hu_ne h)
theorem frS_1 {w : Nat} (h : w < 1000) : frS (nI w + 1) = nI w := by
  unfold frS
  rw [nI_1, if_neg (nI_ne0 (by omega) (by omega)), nI_pred]
theorem tryI_mo {I : Nat → Nat → Int32} {t w : Nat} {D : oD} {s : Nat → Int32} (hw : w < 1000) (q : mo I t s) : mo (tryI I t D s w) t (courtS D s w) := by
  obtain ⟨h0, h1, h2, h3, h4, h5⟩ := q
  have e : frS (nI w + 1) = nI w := frS_1 hw
  unfold tryI tryH courtS
  by_cases c : (couS D w (s 0) (s 3)).2 = 0
  · refine ⟨?_, ?_, ?_, ?_, ?_, ?_⟩ <;> simp [c, hu_if] <;> assumption
  · refine ⟨?_, ?_, ?_, ?_, ?_, ?_⟩ <;> simp [c, hu_if, e] <;> assumption
theorem Ev.h1 {k : Nat} {M : ev_M} {pc : Nat} {ls st : List Value} {h : hp_H} {S : List (Nat × Nat) × Nat × Nat} {I I2 : Nat → Nat → Int32} {R : (Nat → Nat → Int64) × (Nat → Nat → Option Nat)} {r : Option Value} (e : I = I2) (q : Ev k M pc ls st h r (S, I, R)) : Ev k M pc ls st h r (S, I2, R) := e ▸ q
set_option maxRecDepth 10000 in
theorem x_try_L {J : Nat → Nat → Int64} {F : Nat → Nat → Option Nat} {nc ns : Nat} {X : Nat → Nat → Int32} {t : Nat} {D : oD} {o w : Nat} {l : Int32} (ht : isM t) (ht2 : 42 ≤ t) (ho : isO o) (hF : RFok F) (hC : oC X o D) (hW : WF D)  : ∀ (m j : Nat) (x : Int32), j + m = tN D → Ev 4 mX3_tryWoman 25 [.ref t, .ref o, .int (nI w), .int l, .int (nI j)] [] ((SH, nc, ns), hp_u X t 5 x, J, F) (none) ((SH, nc, ns), tryH X t w (couG l m x), J, F)
  | 0, j, x, hj => by
    have hD := hW.c
    have hT := hW.t
    have bt := hT.2
    refine e_iload (p := 27) dX3_tryWoman_25 rfl rfl ?_
    refine e_aload_n (p := 28) dX3_tryWoman_27 rfl rfl ?_
    refine f_getI (c := 4) (j := 1) (n := 18) (v := nI (tN D)) (p := 31) dX3_tryWoman_28 rfl (s_o ho) (l_o0 ho) (by decide) (Or.inl rfl) ((oC_u hC ho (by omega)).2.1.trans hT.1) rfl ?_
    refine e_icmp_ge (t := 52) (p := 34) dX3_tryWoman_31 (by decide) rfl rfl (fun hc31 => ?_) (fun hc31 => absurd (nle (by omega) (by omega)) hc31)
    refine e_aload_n (p := 53) dX3_tryWoman_52 rfl rfl ?_
    refine e_iload_n (p := 54) dX3_tryWoman_53 rfl rfl ?_
    refine e_putI (c := 3) (j := 4) (n := 6)  (p := 57) dX3_tryWoman_54 rfl ht.1 ht.2 (by decide) rfl rfl rfl ?_
    exact e_vretE dX3_tryWoman_57 rfl (by simp only [couG, tryH, (show ¬ (1 : Int32) = 0 by decide), ↓reduceIte])
  | m + 1, j, x, hj => by
    have hD := hW.c
    have hT := hW.t
    have bt := hT.2
    refine e_iload (p := 27) dX3_tryWoman_25 rfl rfl ?_
    refine e_aload_n (p := 28) dX3_tryWoman_27 rfl rfl ?_
    refine f_getI (c := 4) (j := 1) (n := 18) (v := nI (tN D)) (p := 31) dX3_tryWoman_28 rfl (s_o ho) (l_o0 ho) (by decide) (Or.inl rfl) ((oC_u hC ho (by omega)).2.1.trans hT.1) rfl ?_
    refine e_icmp_ge (t := 52) (p := 34) dX3_tryWoman_31 (by decide) rfl rfl (fun hc31 => absurd hc31 (nge (by omega) (by omega))) (fun hc31 => ?_)
    refine e_aload_n (p := 35) dX3_tryWoman_34 rfl rfl ?_
    refine e_callV_int (p := 38) (k' := 0) (a := [.ref t]) (rr := []) dX3_tryWoman_35 rfl rfl rfl rfl (rc_of rfl ht.1 ht.2 ⟨rfl, by decide⟩) (Nat.le_of_ble_eq_true rfl) (Nat.le_of_ble_eq_true rfl) (by decide) (Ev.h1 hu_hu (x_nextDraw (x := x) ht hu_eq)) (Or.inl rfl) rfl ?_
    refine e_bipush (v := 100) (p := 40) dX3_tryWoman_38 (by decide) rfl ?_
    refine e_irem (p := 41) dX3_tryWoman_40 (by decide) rfl ?_
    refine e_iload_n (p := 42) dX3_tryWoman_41 rfl rfl ?_
    refine e_icmp_lt (t := 46) (p := 45) dX3_tryWoman_42 (by decide) rfl rfl (fun hc42 => ?_) (fun hc42 => ?_)
    · skip
      refine e_iinc (ls1 := [.ref t, .ref o, .int (nI w), .int l, .int ((nI j) + 1)]) (p := 49) dX3_tryWoman_46 rfl rfl rfl ?_
      refine e_goto (p := 25) dX3_tryWoman_49 (by decide) rfl ?_
      rw [nI_1]
      have e : couG l (m + 1) x = couG l m (drawS x) := by
        rw [couG, if_pos hc42]
      rw [e]
      exact x_try_L ht ht2 ho hF hC hW m (j + 1) _ (by omega)
    · skip
      exact e_vretE dX3_tryWoman_45 rfl (by simp only [couG, tryH, hc42, ↓reduceIte])
set_option maxRecDepth 10000 in
theorem x_tryWoman {I : Nat → Nat → Int32} {J : Nat → Nat → Int64} {F : Nat → Nat → Option Nat} {nc ns : Nat} {t : Nat} {D : oD} {s : Nat → Int32} {o : Nat} (ht : isM t) (ht2 : 42 ≤ t) (hmt : mo I t s) (ho : isO o) (hF : RFok F) (hC : oC I o D) (hW : WF D) {w : Nat} (hw : w < dN D 2)  : Ev 4 mX3_tryWoman 0 [.ref t, .ref o, .int (nI w), .null, .null] [] ((SH, nc, ns), I, J, F) (none) ((SH, nc, ns), tryI I t D s w, J, F) := by
  have hD := hW.c
  have hH := hW.h
  have hT := hW.t
  have bt := hT.2
  obtain ⟨b0, b1, b2, b3, b4, b5, b6⟩ := hD.2
  refine e_aload_n (p := 1) dX3_tryWoman_0 rfl rfl ?_
  refine e_iload_n (p := 2) dX3_tryWoman_1 rfl rfl ?_
  refine e_aload_n (p := 3) dX3_tryWoman_2 rfl rfl ?_
  refine f_getI (c := 3) (j := 0) (n := 6) (v := s 0) (p := 6) dX3_tryWoman_3 rfl ht.1 ht.2 (by decide) (Or.inl rfl) hmt.1 rfl ?_
  refine e_callV_int (p := 9) (k' := 3) (a := [.ref o, .int (nI w), .int (s 0)]) (rr := []) dX3_tryWoman_6 rfl rfl rfl rfl (rc_of rfl (s_o ho) (l_o0 ho) ⟨rfl, by decide⟩) (Nat.le_of_ble_eq_true rfl) (Nat.le_of_ble_eq_true rfl) (by decide) (x_loveAt ho hF hC hW.c hW.h (by omega)) (Or.inl rfl) rfl ?_
  refine e_istore_n (ls1 := [.ref t, .ref o, .int (nI w), .int (loveS D w ((s 0) * D 0 0)), .null]) (p := 10) dX3_tryWoman_9 rfl rfl ?_
  refine e_aload_n (p := 11) dX3_tryWoman_10 rfl rfl ?_
  refine e_dup_ref (p := 12) dX3_tryWoman_11 rfl ?_
  refine f_getI (c := 3) (j := 2) (n := 6) (v := s 4) (p := 15) dX3_tryWoman_12 rfl ht.1 ht.2 (by decide) (Or.inl rfl) hmt.2.2.1 rfl ?_
  refine e_iconst (v := 1) (p := 16) dX3_tryWoman_15 (by decide) rfl ?_
  refine e_iload_n (p := 17) dX3_tryWoman_16 rfl rfl ?_
  refine e_ishl (p := 18) dX3_tryWoman_17 rfl ?_
  refine e_ior (p := 19) dX3_tryWoman_18 rfl ?_
  refine e_putI (c := 3) (j := 2) (n := 6)  (p := 22) dX3_tryWoman_19 rfl ht.1 ht.2 (by decide) rfl rfl rfl ?_
  refine e_iconst (v := 0) (p := 23) dX3_tryWoman_22 (by decide) rfl ?_
  refine e_istore (ls1 := [.ref t, .ref o, .int (nI w), .int (loveS D w ((s 0) * D 0 0)), .int 0]) (p := 25) dX3_tryWoman_23 rfl rfl ?_
  exact Ev.h0 (by rw [hu_self ((hu_nj (by decide)).trans hmt.2.2.2.2.2)]; rfl) (x_try_L (X := hp_u I t 2 (s 4 ||| bit w)) ht ht2 ho hF (oC_u hC ho (by omega)) hW (tN D) 0 (s 3) (by omega))
def begI (I : Nat → Nat → Int32) : Nat → Nat → Int32 := hp_u (hp_u (hp_u (hp_u (hp_u (hp_u I 42 0 0) 42 1 0) 42 2 0) 42 3 0) 42 4 (-2)) 42 5 0
theorem begI_ne {I : Nat → Nat → Int32} {x : Nat} (h : x ≠ 42) : begI I x = I x := by
  unfold begI
  rw [hu_ne h, hu_ne h, hu_ne h, hu_ne h, hu_ne h, hu_ne h]
theorem begI_mo {I : Nat → Nat → Int32} : mo (begI I) 42 (fun _ => 0) := by
  unfold begI
  refine ⟨?_, ?_, ?_, ?_, ?_, ?_⟩ <;> simp [hu_if]
  decide
set_option maxRecDepth 10000 in
theorem x_begin {I : Nat → Nat → Int32} {J : Nat → Nat → Int64} {F : Nat → Nat → Option Nat} {nc ns : Nat}  : Ev 0 mX3_begin 0 [.ref 42] [] ((SH, nc, ns), I, J, F) (none) ((SH, nc, ns), begI I, J, F) := by
  refine e_aload_n (p := 1) dX3_begin_0 rfl rfl ?_
  refine e_iconst (v := 0) (p := 2) dX3_begin_1 (by decide) rfl ?_
  refine e_putI (c := 3) (j := 0) (n := 6)  (p := 5) dX3_begin_2 rfl rfl (by decide) (by decide) rfl rfl rfl ?_
  refine e_aload_n (p := 6) dX3_begin_5 rfl rfl ?_
  refine e_iconst (v := 0) (p := 7) dX3_begin_6 (by decide) rfl ?_
  refine e_putI (c := 3) (j := 1) (n := 6)  (p := 10) dX3_begin_7 rfl rfl (by decide) (by decide) rfl rfl rfl ?_
  refine e_aload_n (p := 11) dX3_begin_10 rfl rfl ?_
  refine e_iconst (v := 0) (p := 12) dX3_begin_11 (by decide) rfl ?_
  refine e_putI (c := 3) (j := 2) (n := 6)  (p := 15) dX3_begin_12 rfl rfl (by decide) (by decide) rfl rfl rfl ?_
  refine e_aload_n (p := 16) dX3_begin_15 rfl rfl ?_
  refine e_iconst (v := 0) (p := 17) dX3_begin_16 (by decide) rfl ?_
  refine e_putI (c := 3) (j := 3) (n := 6)  (p := 20) dX3_begin_17 rfl rfl (by decide) (by decide) rfl rfl rfl ?_
  refine e_aload_n (p := 21) dX3_begin_20 rfl rfl ?_
  refine e_bipush (v := -2) (p := 23) dX3_begin_21 (by decide) rfl ?_
  refine e_putI (c := 3) (j := 4) (n := 6)  (p := 26) dX3_begin_23 rfl rfl (by decide) (by decide) rfl rfl rfl ?_
  refine e_aload_n (p := 27) dX3_begin_26 rfl rfl ?_
  refine e_iconst (v := 0) (p := 28) dX3_begin_27 (by decide) rfl ?_
  refine e_putI (c := 3) (j := 5) (n := 6)  (p := 31) dX3_begin_28 rfl rfl (by decide) (by decide) rfl rfl rfl ?_
  exact e_vretE dX3_begin_31 rfl rfl
set_option maxRecDepth 10000 in
theorem x_isFreedV {I : Nat → Nat → Int32} {J : Nat → Nat → Int64} {F : Nat → Nat → Option Nat} {nc ns : Nat} {t : Nat} {s : Nat → Int32} (ht : isM t) (hmt : mo I t s) (hq : frS (s 2) = -2 ↔ s 2 ≤ 0)  : Ev 0 mX3_isFreed 0 [.ref t] [] ((SH, nc, ns), I, J, F) (some (.int (freeB s))) ((SH, nc, ns), I, J, F) := by
  refine e_aload_n (p := 1) dX3_isFreed_0 rfl rfl ?_
  refine f_getI (c := 3) (j := 4) (n := 6) (v := frS (s 2)) (p := 4) dX3_isFreed_1 rfl ht.1 ht.2 (by decide) (Or.inl rfl) hmt.2.2.2.2.1 rfl ?_
  refine e_bipush (v := -2) (p := 6) dX3_isFreed_4 (by decide) rfl ?_
  refine e_icmp_eq (t := 13) (p := 9) dX3_isFreed_6 (by decide) rfl rfl (fun hc6 => ?_) (fun hc6 => ?_)
  · skip
    refine e_iconst (v := 0) (p := 14) dX3_isFreed_13 (by decide) rfl ?_
    exact e_iretE dX3_isFreed_14 rfl (by decide) (by decide) ⟨by rw [hq] at hc6; simp only [freeB, hc6, ↓reduceIte], rfl⟩
  · skip
    refine e_iconst (v := 1) (p := 10) dX3_isFreed_9 (by decide) rfl ?_
    refine e_goto (p := 14) dX3_isFreed_10 (by decide) rfl ?_
    exact e_iretE dX3_isFreed_14 rfl (by decide) (by decide) ⟨by rw [hq] at hc6; simp only [freeB, hc6, ↓reduceIte], rfl⟩
