/-! The class's tokens: advance. -/
theorem Ew.h0 {k : Nat} {M : ev_M} {pc : Nat} {ls st : List Value} {h h2 : hp_H} {Q : Option Value → hp_H → Prop} (e : h = h2) (q : Ew k M pc ls st h2 Q) : Ew k M pc ls st h Q := e ▸ q
theorem hu_sw {α : Type} {X : Nat → Nat → α} {k i j : Nat} {a b c : α} (h : i ≠ j) : hp_u (hp_u (hp_u X k i a) k j b) k i c = hp_u (hp_u X k i c) k j b := by
  funext x y
  unfold hp_u
  by_cases c1 : x = k
  · by_cases c2 : y = i
    · simp [c1, c2, h]
    · simp [c1, c2]
  · simp [c1]
theorem nI_le8 {a : Nat} (h : a ≤ 8) : nI a ≤ 8 := Int32.not_lt.mp (nI_nlt (a := 8) (b := a) h (by omega))
theorem nI_nle8 {a : Nat} (h : 8 < a) (ha : a < 2 ^ 31) : ¬ nI a ≤ 8 := Int32.not_le.mpr (nI_lt (a := 8) (b := a) h ha)
set_option maxRecDepth 10000 in
theorem x_scanWord {I : Nat → Nat → Int32} {J : Nat → Nat → Int64} {F : Nat → Nat → Option Nat} {nc ns : Nat} {T : Nat → Nat} {n : Nat} (hF : RFok F) (ht : txC T n I J) {s : Nat} (hs : s < n) (hat : I 3 9 = nI s) (hst : I 3 1 = nI s) (hk : I 3 13 = -1) : Ew 1 mX7_scanWord 0 [.ref 3, .null] [] ((SH, nc, ns), I, J, F) (Ret nc ns none (fun I' J' F' => F' = F ∧ AvC I I' J J' ∧ I' 3 9 = nI (rn isLt T n s) ∧ I' 3 1 = nI s ∧ I' 3 11 = nI (if rn isLt T n s - s ≤ 8 then 1 else 4) ∧ I' 3 13 = (if rn isLt T n s - s ≤ 8 then kwI (pkw T s (rn isLt T n s)) else -1) ∧ J' 3 12 = lN (pkw T s (rn isLt T n s)))) := by
  have hn9 := ht.1
  have hle := rn_le (f := isLt) (T := T) (n := n) (p := s) (by omega)
  by_cases c : rn isLt T n s - s ≤ 8
  · skip
    refine we_aload_n (p := 1) dX7_scanWord_0 rfl rfl ?_
    refine we_lconst (v := 0) (p := 2) dX7_scanWord_1 (by decide) rfl ?_
    refine we_putJ (c := 7) (j := 12) (n := 16)  (p := 5) dX7_scanWord_2 rfl rfl (by decide) (by decide) rfl rfl rfl ?_
    refine Ew.h0 (h2 := ((SH, nc, ns), hp_u I 3 9 (nI s), hp_u J 3 12 (lN 0), F)) (by rw [hu_self hat]; rfl) ?_
    refine x_scanW_L hF ht (n - s) s 0 (by omega) ?_
    refine we_aload_n (p := 65) dX7_scanWord_64 rfl rfl ?_
    refine wf_getI (c := 7) (j := 9) (n := 16) (v := nI (rn isLt T n s)) (p := 68) dX7_scanWord_65 rfl rfl (by decide) (by decide) (Or.inl rfl) hu_eq rfl ?_
    refine we_aload_n (p := 69) dX7_scanWord_68 rfl rfl ?_
    refine wf_getI (c := 7) (j := 1) (n := 16) (v := nI s) (p := 72) dX7_scanWord_69 rfl rfl (by decide) (by decide) (Or.inl rfl) ((hu_nj (by decide)).trans hst) rfl ?_
    refine we_isub (p := 73) dX7_scanWord_72 rfl ?_
    rw [pk_sub rn_ge]
    refine we_bipush (v := 8) (p := 75) dX7_scanWord_73 (by decide) rfl ?_
    refine we_icmp_le (t := 84) (p := 78) dX7_scanWord_75 (by decide) rfl rfl (fun hc75 => ?_) (fun hc75 => absurd (nI_le8 c) hc75)
    refine we_aload_n (p := 85) dX7_scanWord_84 rfl rfl ?_
    refine we_iconst (v := 1) (p := 86) dX7_scanWord_85 (by decide) rfl ?_
    refine we_putI (c := 7) (j := 11) (n := 16)  (p := 89) dX7_scanWord_86 rfl rfl (by decide) (by decide) rfl rfl rfl ?_
    refine we_iconst (v := 0) (p := 90) dX7_scanWord_89 (by decide) rfl ?_
    refine we_istore_n (ls1 := [.ref 3, .int 0]) (p := 91) dX7_scanWord_90 rfl rfl ?_
    refine (Ev.h0 (h2 := ((SH, nc, ns), hp_u (hp_u (hp_u I 3 9 (nI (rn isLt T n s))) 3 11 1) 3 13 (-1), hp_u J 3 12 (lN (pwF T (rn isLt T n s - s) s 0)), F)) (by rw [hu_self (k := 3) ((hu_nj (by decide)).trans ((hu_nj (by decide)).trans hk))]) (x_kw_L (I := hp_u (hp_u I 3 9 (nI (rn isLt T n s))) 3 11 1) (x := pkw T s (rn isLt T n s)) hF (fun k hk => by rw [hu_ne (by decide)]; exact ht.2.2.2 k hk) (pkw_lt c) hu_eq 25 0 (-1) (by omega))).w ?_
    exact ⟨rfl, _, _, _, rfl, rfl, ((AvC.rf.u (by omega)).u (by omega)).u (by omega) |>.j, (hu_nj (by decide)).trans ((hu_nj (by decide)).trans hu_eq), (hu_nj (by decide)).trans ((hu_nj (by decide)).trans ((hu_nj (by decide)).trans hst)), (hu_nj (by decide)).trans (hu_eq.trans (by rw [if_pos c]; rfl)), hu_eq.trans (if_pos c).symm, hu_eq⟩
  · skip
    refine we_aload_n (p := 1) dX7_scanWord_0 rfl rfl ?_
    refine we_lconst (v := 0) (p := 2) dX7_scanWord_1 (by decide) rfl ?_
    refine we_putJ (c := 7) (j := 12) (n := 16)  (p := 5) dX7_scanWord_2 rfl rfl (by decide) (by decide) rfl rfl rfl ?_
    refine Ew.h0 (h2 := ((SH, nc, ns), hp_u I 3 9 (nI s), hp_u J 3 12 (lN 0), F)) (by rw [hu_self hat]; rfl) ?_
    refine x_scanW_L hF ht (n - s) s 0 (by omega) ?_
    refine we_aload_n (p := 65) dX7_scanWord_64 rfl rfl ?_
    refine wf_getI (c := 7) (j := 9) (n := 16) (v := nI (rn isLt T n s)) (p := 68) dX7_scanWord_65 rfl rfl (by decide) (by decide) (Or.inl rfl) hu_eq rfl ?_
    refine we_aload_n (p := 69) dX7_scanWord_68 rfl rfl ?_
    refine wf_getI (c := 7) (j := 1) (n := 16) (v := nI s) (p := 72) dX7_scanWord_69 rfl rfl (by decide) (by decide) (Or.inl rfl) ((hu_nj (by decide)).trans hst) rfl ?_
    refine we_isub (p := 73) dX7_scanWord_72 rfl ?_
    rw [pk_sub rn_ge]
    refine we_bipush (v := 8) (p := 75) dX7_scanWord_73 (by decide) rfl ?_
    refine we_icmp_le (t := 84) (p := 78) dX7_scanWord_75 (by decide) rfl rfl (fun hc75 => absurd hc75 (nI_nle8 (by omega) (by omega))) (fun hc75 => ?_)
    refine we_aload_n (p := 79) dX7_scanWord_78 rfl rfl ?_
    refine we_iconst (v := 4) (p := 80) dX7_scanWord_79 (by decide) rfl ?_
    refine we_putI (c := 7) (j := 11) (n := 16)  (p := 83) dX7_scanWord_80 rfl rfl (by decide) (by decide) rfl rfl rfl ?_
    exact wv_ret dX7_scanWord_83 rfl (⟨rfl, _, _, _, rfl, rfl, ((AvC.rf.u (by omega)).u (by omega)).j, (hu_nj (by decide)).trans hu_eq, (hu_nj (by decide)).trans ((hu_nj (by decide)).trans hst), hu_eq.trans (by rw [if_neg c]; rfl), (hu_nj (by decide)).trans ((hu_nj (by decide)).trans (hk.trans (if_neg c).symm)), hu_eq⟩)
set_option maxRecDepth 10000 in
theorem x_scanD_L {I : Nat → Nat → Int32} {J : Nat → Nat → Int64} {F : Nat → Nat → Option Nat} {nc ns : Nat} {T : Nat → Nat} {n : Nat} (hF : RFok F) (ht : txC T n I J) {Q : Option Value → hp_H → Prop} : ∀ (m q x : Nat), q + m = n → Ew 1 mX7_scanWhole 68 [.ref 3] [] ((SH, nc, ns), hp_u (hp_u I 3 14 (nI (nmF T (rn isDg T n q - q) q x))) 3 9 (nI (rn isDg T n q)), J, F) Q → Ew 1 mX7_scanWhole 5 [.ref 3] [] ((SH, nc, ns), hp_u (hp_u I 3 14 (nI x)) 3 9 (nI q), J, F) Q
  | 0, q, x, hj => fun q0 => by
    have hn9 := ht.1
    refine we_aload_n (p := 6) dX7_scanWhole_5 rfl rfl ?_
    refine wf_getI (c := 7) (j := 9) (n := 16) (v := nI q) (p := 9) dX7_scanWhole_6 rfl rfl (by decide) (by decide) (Or.inl rfl) hu_eq rfl ?_
    refine we_aload_n (p := 10) dX7_scanWhole_9 rfl rfl ?_
    refine wf_getI (c := 7) (j := 8) (n := 16) (v := nI n) (p := 13) dX7_scanWhole_10 rfl rfl (by decide) (by decide) (Or.inl rfl) ((hu_nj (by decide)).trans ((hu_nj (by decide)).trans ht.2.1)) rfl ?_
    refine we_icmp_ge (t := 68) (p := 16) dX7_scanWhole_13 (by decide) rfl rfl (fun hc13 => ?_) (fun hc13 => absurd (nI_le (a := n) (b := q) (by omega) (by omega)) hc13)
    rw [rn_n (fun z => by omega), Nat.sub_self] at q0
    exact q0
  | m + 1, q, x, hj => fun q0 => by
    have hn9 := ht.1
    have hq : q < n := by omega
    by_cases hf : isDg (T q) = true
    · skip
      refine we_aload_n (p := 6) dX7_scanWhole_5 rfl rfl ?_
      refine wf_getI (c := 7) (j := 9) (n := 16) (v := nI q) (p := 9) dX7_scanWhole_6 rfl rfl (by decide) (by decide) (Or.inl rfl) hu_eq rfl ?_
      refine we_aload_n (p := 10) dX7_scanWhole_9 rfl rfl ?_
      refine wf_getI (c := 7) (j := 8) (n := 16) (v := nI n) (p := 13) dX7_scanWhole_10 rfl rfl (by decide) (by decide) (Or.inl rfl) ((hu_nj (by decide)).trans ((hu_nj (by decide)).trans ht.2.1)) rfl ?_
      refine we_icmp_ge (t := 68) (p := 16) dX7_scanWhole_13 (by decide) rfl rfl (fun hc13 => absurd hc13 (nI_ge (a := q) (b := n) (by omega) (by omega))) (fun hc13 => ?_)
      refine we_aload_n (p := 17) dX7_scanWhole_16 rfl rfl ?_
      refine we_getR (c := 7) (j := 2) (n := 16) (b := 2) (p := 20) dX7_scanWhole_17 rfl rfl (by decide) (by decide) rfl (r_3_2 hF) rfl ?_
      refine we_aload_n (p := 21) dX7_scanWhole_20 rfl rfl ?_
      refine wf_getI (c := 7) (j := 9) (n := 16) (v := nI q) (p := 24) dX7_scanWhole_21 rfl rfl (by decide) (by decide) (Or.inl rfl) hu_eq rfl ?_
      refine wg_bald (n := 900) (i := q) (v := sB (T q)) (p := 25) dX7_scanWhole_24 rfl (by decide) (in_nJ (by omega) (by decide)) (nI_cl (by omega)) ((congrFun ((hu_ne (by decide)).trans (hu_ne (by decide))) q).trans (ht.2.2.1 q hq).2) rfl ?_
      refine we_callS_int (p := 28) (k' := 0) (a := [.int (sB (T q))]) (rr := []) dX7_scanWhole_25 rfl rfl rfl rfl rfl (rc_st rfl) (Nat.le_of_ble_eq_true rfl) (Nat.le_of_ble_eq_true rfl) (by decide) (Ev.i ((sB_D (T q) (ht.2.2.1 q hq).1).trans (if_pos hf)) (x_isDigit7)) (Or.inl rfl) rfl ?_
      refine we_if_eq (t := 68) (p := 31) dX7_scanWhole_28 (by decide) rfl rfl (fun hc28 => absurd hc28 (by decide)) (fun hc28 => ?_)
      refine we_aload_n (p := 32) dX7_scanWhole_31 rfl rfl ?_
      refine we_aload_n (p := 33) dX7_scanWhole_32 rfl rfl ?_
      refine wf_getI (c := 7) (j := 14) (n := 16) (v := nI x) (p := 36) dX7_scanWhole_33 rfl rfl (by decide) (by decide) (Or.inl rfl) ((hu_nj (by decide)).trans hu_eq) rfl ?_
      refine we_bipush (v := 10) (p := 38) dX7_scanWhole_36 (by decide) rfl ?_
      refine we_imul (p := 39) dX7_scanWhole_38 rfl ?_
      refine we_aload_n (p := 40) dX7_scanWhole_39 rfl rfl ?_
      refine we_getR (c := 7) (j := 2) (n := 16) (b := 2) (p := 43) dX7_scanWhole_40 rfl rfl (by decide) (by decide) rfl (r_3_2 hF) rfl ?_
      refine we_aload_n (p := 44) dX7_scanWhole_43 rfl rfl ?_
      refine wf_getI (c := 7) (j := 9) (n := 16) (v := nI q) (p := 47) dX7_scanWhole_44 rfl rfl (by decide) (by decide) (Or.inl rfl) hu_eq rfl ?_
      refine wg_bald (n := 900) (i := q) (v := sB (T q)) (p := 48) dX7_scanWhole_47 rfl (by decide) (in_nJ (by omega) (by decide)) (nI_cl (by omega)) ((congrFun ((hu_ne (by decide)).trans (hu_ne (by decide))) q).trans (ht.2.2.1 q hq).2) rfl ?_
      refine we_bipush (v := 48) (p := 50) dX7_scanWhole_48 (by decide) rfl ?_
      refine we_isub (p := 51) dX7_scanWhole_50 rfl ?_
      refine we_iadd (p := 52) dX7_scanWhole_51 rfl ?_
      refine we_putI (c := 7) (j := 14) (n := 16)  (p := 55) dX7_scanWhole_52 rfl rfl (by decide) (by decide) rfl rfl rfl ?_
      refine we_aload_n (p := 56) dX7_scanWhole_55 rfl rfl ?_
      refine we_dup_ref (p := 57) dX7_scanWhole_56 rfl ?_
      refine wf_getI (c := 7) (j := 9) (n := 16) (v := nI q) (p := 60) dX7_scanWhole_57 rfl rfl (by decide) (by decide) (Or.inl rfl) (I_u hu_eq (by decide)) rfl ?_
      refine we_iconst (v := 1) (p := 61) dX7_scanWhole_60 (by decide) rfl ?_
      refine we_iadd (p := 62) dX7_scanWhole_61 rfl ?_
      refine we_putI (c := 7) (j := 9) (n := 16)  (p := 65) dX7_scanWhole_62 rfl rfl (by decide) (by decide) rfl rfl rfl ?_
      refine we_goto (p := 5) dX7_scanWhole_65 (by decide) rfl ?_
      rw [nI_1, nm_D _ (ht.2.2.1 q hq).1 hf, show (nI x * 10 + nI (T q - 48) : Int32) = nI (x * 10 + (T q - 48)) by rw [show (10 : Int32) = nI 10 from rfl, pk_mul, nI_add], hu_sw (by decide), hu_sw (by decide)]
      refine x_scanD_L hF ht m (q + 1) _ (by omega) ?_
      rw [rn_y hq hf, show rn isDg T n (q + 1) - q = (rn isDg T n (q + 1) - (q + 1)) + 1 by have := rn_ge (f := isDg) (T := T) (n := n) (p := q + 1); omega] at q0
      exact q0
    · skip
      refine we_aload_n (p := 6) dX7_scanWhole_5 rfl rfl ?_
      refine wf_getI (c := 7) (j := 9) (n := 16) (v := nI q) (p := 9) dX7_scanWhole_6 rfl rfl (by decide) (by decide) (Or.inl rfl) hu_eq rfl ?_
      refine we_aload_n (p := 10) dX7_scanWhole_9 rfl rfl ?_
      refine wf_getI (c := 7) (j := 8) (n := 16) (v := nI n) (p := 13) dX7_scanWhole_10 rfl rfl (by decide) (by decide) (Or.inl rfl) ((hu_nj (by decide)).trans ((hu_nj (by decide)).trans ht.2.1)) rfl ?_
      refine we_icmp_ge (t := 68) (p := 16) dX7_scanWhole_13 (by decide) rfl rfl (fun hc13 => absurd hc13 (nI_ge (a := q) (b := n) (by omega) (by omega))) (fun hc13 => ?_)
      refine we_aload_n (p := 17) dX7_scanWhole_16 rfl rfl ?_
      refine we_getR (c := 7) (j := 2) (n := 16) (b := 2) (p := 20) dX7_scanWhole_17 rfl rfl (by decide) (by decide) rfl (r_3_2 hF) rfl ?_
      refine we_aload_n (p := 21) dX7_scanWhole_20 rfl rfl ?_
      refine wf_getI (c := 7) (j := 9) (n := 16) (v := nI q) (p := 24) dX7_scanWhole_21 rfl rfl (by decide) (by decide) (Or.inl rfl) hu_eq rfl ?_
      refine wg_bald (n := 900) (i := q) (v := sB (T q)) (p := 25) dX7_scanWhole_24 rfl (by decide) (in_nJ (by omega) (by decide)) (nI_cl (by omega)) ((congrFun ((hu_ne (by decide)).trans (hu_ne (by decide))) q).trans (ht.2.2.1 q hq).2) rfl ?_
      refine we_callS_int (p := 28) (k' := 0) (a := [.int (sB (T q))]) (rr := []) dX7_scanWhole_25 rfl rfl rfl rfl rfl (rc_st rfl) (Nat.le_of_ble_eq_true rfl) (Nat.le_of_ble_eq_true rfl) (by decide) (Ev.i ((sB_D (T q) (ht.2.2.1 q hq).1).trans (if_neg hf)) (x_isDigit7)) (Or.inl rfl) rfl ?_
      refine we_if_eq (t := 68) (p := 31) dX7_scanWhole_28 (by decide) rfl rfl (fun hc28 => ?_) (fun hc28 => absurd (by decide) hc28)
      rw [rn_n (fun z => hf z.2), Nat.sub_self] at q0
      exact q0
theorem nI_nlt3 {a : Nat} (h : a ≤ 3) : ¬ 3 < nI a := nI_nlt (a := 3) (b := a) h (by omega)
theorem nI_lt3 {a : Nat} (h : 3 < a) (ha : a < 2 ^ 31) : 3 < nI a := nI_lt (a := 3) (b := a) h ha
set_option maxRecDepth 10000 in
theorem x_scanWhole {I : Nat → Nat → Int32} {J : Nat → Nat → Int64} {F : Nat → Nat → Option Nat} {nc ns : Nat} {T : Nat → Nat} {n : Nat} (hF : RFok F) (ht : txC T n I J) {s : Nat} (hs : s < n) (hat : I 3 9 = nI s) (hst : I 3 1 = nI s) (hk : I 3 13 = -1) : Ew 1 mX7_scanWhole 0 [.ref 3] [] ((SH, nc, ns), I, J, F) (Ret nc ns none (fun I' J' F' => F' = F ∧ AvC I I' J J' ∧ I' 3 9 = nI (rn isDg T n s) ∧ I' 3 1 = nI s ∧ I' 3 11 = nI (if rn isDg T n s - s ≤ 3 then 2 else 4) ∧ I' 3 13 = -1 ∧ I' 3 14 = nI (nmN T s (rn isDg T n s)))) := by
  have hn9 := ht.1
  have hle := rn_le (f := isDg) (T := T) (n := n) (p := s) (by omega)
  by_cases c : rn isDg T n s - s ≤ 3
  · skip
    refine we_aload_n (p := 1) dX7_scanWhole_0 rfl rfl ?_
    refine we_iconst (v := 0) (p := 2) dX7_scanWhole_1 (by decide) rfl ?_
    refine we_putI (c := 7) (j := 14) (n := 16)  (p := 5) dX7_scanWhole_2 rfl rfl (by decide) (by decide) rfl rfl rfl ?_
    refine Ew.h0 (h2 := ((SH, nc, ns), hp_u (hp_u I 3 14 (nI 0)) 3 9 (nI s), J, F)) (by rw [hu_self ((hu_nj (by decide)).trans hat)]; rfl) ?_
    refine x_scanD_L hF ht (n - s) s 0 (by omega) ?_
    refine we_aload_n (p := 69) dX7_scanWhole_68 rfl rfl ?_
    refine we_aload_n (p := 70) dX7_scanWhole_69 rfl rfl ?_
    refine wf_getI (c := 7) (j := 9) (n := 16) (v := nI (rn isDg T n s)) (p := 73) dX7_scanWhole_70 rfl rfl (by decide) (by decide) (Or.inl rfl) hu_eq rfl ?_
    refine we_aload_n (p := 74) dX7_scanWhole_73 rfl rfl ?_
    refine wf_getI (c := 7) (j := 1) (n := 16) (v := nI s) (p := 77) dX7_scanWhole_74 rfl rfl (by decide) (by decide) (Or.inl rfl) ((hu_nj (by decide)).trans ((hu_nj (by decide)).trans hst)) rfl ?_
    refine we_isub (p := 78) dX7_scanWhole_77 rfl ?_
    rw [pk_sub rn_ge]
    refine we_iconst (v := 3) (p := 79) dX7_scanWhole_78 (by decide) rfl ?_
    refine we_icmp_gt (t := 86) (p := 82) dX7_scanWhole_79 (by decide) rfl rfl (fun hc79 => absurd hc79 (nI_nlt3 c)) (fun hc79 => ?_)
    refine we_iconst (v := 2) (p := 83) dX7_scanWhole_82 (by decide) rfl ?_
    refine we_goto (p := 87) dX7_scanWhole_83 (by decide) rfl ?_
    refine we_putI (c := 7) (j := 11) (n := 16)  (p := 90) dX7_scanWhole_87 rfl rfl (by decide) (by decide) rfl rfl rfl ?_
    exact wv_ret dX7_scanWhole_90 rfl (⟨rfl, _, _, _, rfl, rfl, ((AvC.rf.u (by omega)).u (by omega)).u (by omega), (hu_nj (by decide)).trans hu_eq, (hu_nj (by decide)).trans ((hu_nj (by decide)).trans ((hu_nj (by decide)).trans hst)), hu_eq.trans (by rw [if_pos c]; rfl), (hu_nj (by decide)).trans ((hu_nj (by decide)).trans ((hu_nj (by decide)).trans hk)), (hu_nj (by decide)).trans ((hu_nj (by decide)).trans hu_eq)⟩)
  · skip
    refine we_aload_n (p := 1) dX7_scanWhole_0 rfl rfl ?_
    refine we_iconst (v := 0) (p := 2) dX7_scanWhole_1 (by decide) rfl ?_
    refine we_putI (c := 7) (j := 14) (n := 16)  (p := 5) dX7_scanWhole_2 rfl rfl (by decide) (by decide) rfl rfl rfl ?_
    refine Ew.h0 (h2 := ((SH, nc, ns), hp_u (hp_u I 3 14 (nI 0)) 3 9 (nI s), J, F)) (by rw [hu_self ((hu_nj (by decide)).trans hat)]; rfl) ?_
    refine x_scanD_L hF ht (n - s) s 0 (by omega) ?_
    refine we_aload_n (p := 69) dX7_scanWhole_68 rfl rfl ?_
    refine we_aload_n (p := 70) dX7_scanWhole_69 rfl rfl ?_
    refine wf_getI (c := 7) (j := 9) (n := 16) (v := nI (rn isDg T n s)) (p := 73) dX7_scanWhole_70 rfl rfl (by decide) (by decide) (Or.inl rfl) hu_eq rfl ?_
    refine we_aload_n (p := 74) dX7_scanWhole_73 rfl rfl ?_
    refine wf_getI (c := 7) (j := 1) (n := 16) (v := nI s) (p := 77) dX7_scanWhole_74 rfl rfl (by decide) (by decide) (Or.inl rfl) ((hu_nj (by decide)).trans ((hu_nj (by decide)).trans hst)) rfl ?_
    refine we_isub (p := 78) dX7_scanWhole_77 rfl ?_
    rw [pk_sub rn_ge]
    refine we_iconst (v := 3) (p := 79) dX7_scanWhole_78 (by decide) rfl ?_
    refine we_icmp_gt (t := 86) (p := 82) dX7_scanWhole_79 (by decide) rfl rfl (fun hc79 => ?_) (fun hc79 => absurd (nI_lt3 (by omega) (by omega)) hc79)
    refine we_iconst (v := 4) (p := 87) dX7_scanWhole_86 (by decide) rfl ?_
    refine we_putI (c := 7) (j := 11) (n := 16)  (p := 90) dX7_scanWhole_87 rfl rfl (by decide) (by decide) rfl rfl rfl ?_
    exact wv_ret dX7_scanWhole_90 rfl (⟨rfl, _, _, _, rfl, rfl, ((AvC.rf.u (by omega)).u (by omega)).u (by omega), (hu_nj (by decide)).trans hu_eq, (hu_nj (by decide)).trans ((hu_nj (by decide)).trans ((hu_nj (by decide)).trans hst)), hu_eq.trans (by rw [if_neg c]; rfl), (hu_nj (by decide)).trans ((hu_nj (by decide)).trans ((hu_nj (by decide)).trans hk)), (hu_nj (by decide)).trans ((hu_nj (by decide)).trans hu_eq)⟩)
set_option maxRecDepth 10000 in
theorem x_skip_L {I : Nat → Nat → Int32} {J : Nat → Nat → Int64} {F : Nat → Nat → Option Nat} {nc ns : Nat} {T : Nat → Nat} {n : Nat} (hF : RFok F) (ht : txC T n I J) {Q : Option Value → hp_H → Prop} : ∀ (m q : Nat), q + m = n → Ew 2 mX7_advance 38 [.ref 3] [] ((SH, nc, ns), hp_u I 3 9 (nI (rn isSp T n q)), J, F) Q → Ew 2 mX7_advance 0 [.ref 3] [] ((SH, nc, ns), hp_u I 3 9 (nI q), J, F) Q
  | 0, q, hj => fun q0 => by
    have hn9 := ht.1
    refine we_aload_n (p := 1) dX7_advance_0 rfl rfl ?_
    refine wf_getI (c := 7) (j := 9) (n := 16) (v := nI q) (p := 4) dX7_advance_1 rfl rfl (by decide) (by decide) (Or.inl rfl) hu_eq rfl ?_
    refine we_aload_n (p := 5) dX7_advance_4 rfl rfl ?_
    refine wf_getI (c := 7) (j := 8) (n := 16) (v := nI n) (p := 8) dX7_advance_5 rfl rfl (by decide) (by decide) (Or.inl rfl) ((hu_nj (by decide)).trans ht.2.1) rfl ?_
    refine we_icmp_ge (t := 38) (p := 11) dX7_advance_8 (by decide) rfl rfl (fun hc8 => ?_) (fun hc8 => absurd (nI_le (a := n) (b := q) (by omega) (by omega)) hc8)
    rw [rn_n (fun z => by omega)] at q0
    exact q0
  | m + 1, q, hj => fun q0 => by
    have hn9 := ht.1
    have hq : q < n := by omega
    by_cases hf : isSp (T q) = true
    · skip
      refine we_aload_n (p := 1) dX7_advance_0 rfl rfl ?_
      refine wf_getI (c := 7) (j := 9) (n := 16) (v := nI q) (p := 4) dX7_advance_1 rfl rfl (by decide) (by decide) (Or.inl rfl) hu_eq rfl ?_
      refine we_aload_n (p := 5) dX7_advance_4 rfl rfl ?_
      refine wf_getI (c := 7) (j := 8) (n := 16) (v := nI n) (p := 8) dX7_advance_5 rfl rfl (by decide) (by decide) (Or.inl rfl) ((hu_nj (by decide)).trans ht.2.1) rfl ?_
      refine we_icmp_ge (t := 38) (p := 11) dX7_advance_8 (by decide) rfl rfl (fun hc8 => absurd hc8 (nI_ge (a := q) (b := n) (by omega) (by omega))) (fun hc8 => ?_)
      refine we_aload_n (p := 12) dX7_advance_11 rfl rfl ?_
      refine we_getR (c := 7) (j := 2) (n := 16) (b := 2) (p := 15) dX7_advance_12 rfl rfl (by decide) (by decide) rfl (r_3_2 hF) rfl ?_
      refine we_aload_n (p := 16) dX7_advance_15 rfl rfl ?_
      refine wf_getI (c := 7) (j := 9) (n := 16) (v := nI q) (p := 19) dX7_advance_16 rfl rfl (by decide) (by decide) (Or.inl rfl) hu_eq rfl ?_
      refine wg_bald (n := 900) (i := q) (v := sB (T q)) (p := 20) dX7_advance_19 rfl (by decide) (in_nJ (by omega) (by decide)) (nI_cl (by omega)) ((congrFun (hu_ne (by decide)) q).trans (ht.2.2.1 q hq).2) rfl ?_
      refine we_bipush (v := 32) (p := 22) dX7_advance_20 (by decide) rfl ?_
      refine we_icmp_ne (t := 38) (p := 25) dX7_advance_22 (by decide) rfl rfl (fun hc22 => absurd ((sB_32 _ (ht.2.2.1 q hq).1).mpr hf) hc22) (fun hc22 => ?_)
      refine we_aload_n (p := 26) dX7_advance_25 rfl rfl ?_
      refine we_dup_ref (p := 27) dX7_advance_26 rfl ?_
      refine wf_getI (c := 7) (j := 9) (n := 16) (v := nI q) (p := 30) dX7_advance_27 rfl rfl (by decide) (by decide) (Or.inl rfl) hu_eq rfl ?_
      refine we_iconst (v := 1) (p := 31) dX7_advance_30 (by decide) rfl ?_
      refine we_iadd (p := 32) dX7_advance_31 rfl ?_
      refine we_putI (c := 7) (j := 9) (n := 16)  (p := 35) dX7_advance_32 rfl rfl (by decide) (by decide) rfl rfl rfl ?_
      refine we_goto (p := 0) dX7_advance_35 (by decide) rfl ?_
      rw [nI_1, hu_hu]
      refine x_skip_L hF ht m (q + 1) (by omega) ?_
      rw [rn_y hq hf] at q0
      exact q0
    · skip
      refine we_aload_n (p := 1) dX7_advance_0 rfl rfl ?_
      refine wf_getI (c := 7) (j := 9) (n := 16) (v := nI q) (p := 4) dX7_advance_1 rfl rfl (by decide) (by decide) (Or.inl rfl) hu_eq rfl ?_
      refine we_aload_n (p := 5) dX7_advance_4 rfl rfl ?_
      refine wf_getI (c := 7) (j := 8) (n := 16) (v := nI n) (p := 8) dX7_advance_5 rfl rfl (by decide) (by decide) (Or.inl rfl) ((hu_nj (by decide)).trans ht.2.1) rfl ?_
      refine we_icmp_ge (t := 38) (p := 11) dX7_advance_8 (by decide) rfl rfl (fun hc8 => absurd hc8 (nI_ge (a := q) (b := n) (by omega) (by omega))) (fun hc8 => ?_)
      refine we_aload_n (p := 12) dX7_advance_11 rfl rfl ?_
      refine we_getR (c := 7) (j := 2) (n := 16) (b := 2) (p := 15) dX7_advance_12 rfl rfl (by decide) (by decide) rfl (r_3_2 hF) rfl ?_
      refine we_aload_n (p := 16) dX7_advance_15 rfl rfl ?_
      refine wf_getI (c := 7) (j := 9) (n := 16) (v := nI q) (p := 19) dX7_advance_16 rfl rfl (by decide) (by decide) (Or.inl rfl) hu_eq rfl ?_
      refine wg_bald (n := 900) (i := q) (v := sB (T q)) (p := 20) dX7_advance_19 rfl (by decide) (in_nJ (by omega) (by decide)) (nI_cl (by omega)) ((congrFun (hu_ne (by decide)) q).trans (ht.2.2.1 q hq).2) rfl ?_
      refine we_bipush (v := 32) (p := 22) dX7_advance_20 (by decide) rfl ?_
      refine we_icmp_ne (t := 38) (p := 25) dX7_advance_22 (by decide) rfl rfl (fun hc22 => ?_) (fun hc22 => absurd hc22 (fun z => hf ((sB_32 _ (ht.2.2.1 q hq).1).mp z)))
      rw [rn_n (fun z => hf z.2)] at q0
      exact q0
theorem tE_E {T : Nat → Nat} {n p : Nat} (h : ¬ tS T n p < n) : tE T n p = tS T n p ∧ tK T n p = 0 := by
  unfold tE tK
  rw [if_neg h, if_neg h]
  exact ⟨rfl, rfl⟩
theorem tE_L {T : Nat → Nat} {n p : Nat} (h : tS T n p < n) (hf : isLt (T (tS T n p)) = true) : tE T n p = rn isLt T n (tS T n p) ∧ tK T n p = if rn isLt T n (tS T n p) - tS T n p ≤ 8 then 1 else 4 := by
  unfold tE tK
  rw [if_pos h, if_pos h, if_pos hf, if_pos hf]
  exact ⟨rfl, rfl⟩
theorem tE_D {T : Nat → Nat} {n p : Nat} (h : tS T n p < n) (hf : ¬ isLt (T (tS T n p)) = true) (hg : isDg (T (tS T n p)) = true) : tE T n p = rn isDg T n (tS T n p) ∧ tK T n p = if rn isDg T n (tS T n p) - tS T n p ≤ 3 then 2 else 4 := by
  unfold tE tK
  rw [if_pos h, if_pos h, if_neg hf, if_neg hf, if_pos hg, if_pos hg]
  exact ⟨rfl, rfl⟩
theorem tE_O {T : Nat → Nat} {n p : Nat} (h : tS T n p < n) (hf : ¬ isLt (T (tS T n p)) = true) (hg : ¬ isDg (T (tS T n p)) = true) : tE T n p = tS T n p + 1 ∧ tK T n p = if T (tS T n p) = 59 then 3 else 4 := by
  unfold tE tK
  rw [if_pos h, if_pos h, if_neg hf, if_neg hf, if_neg hg, if_neg hg]
  exact ⟨rfl, rfl⟩
set_option maxRecDepth 10000 in
theorem x_advance {I : Nat → Nat → Int32} {J : Nat → Nat → Int64} {F : Nat → Nat → Option Nat} {nc ns : Nat} {T : Nat → Nat} {n : Nat} (hF : RFok F) (ht : txC T n I J) {p : Nat} (hp : p ≤ n) (hat : I 3 9 = nI p) : Ew 2 mX7_advance 0 [.ref 3] [] ((SH, nc, ns), I, J, F) (Ret nc ns none (fun I' J' F' => F' = F ∧ AvC I I' J J' ∧ rC T n p I' J')) := by
  have hn9 := ht.1
  have hle : tS T n p ≤ n := rn_le hp
  refine Ew.h0 (h2 := ((SH, nc, ns), hp_u I 3 9 (nI p), J, F)) (by rw [hu_self hat]) ?_
  refine x_skip_L hF ht (n - p) p (by omega) ?_
  show Ew 2 mX7_advance 38 [.ref 3] [] ((SH, nc, ns), hp_u I 3 9 (nI (tS T n p)), J, F) _
  by_cases hs : tS T n p < n
  · by_cases hf : isLt (T (tS T n p)) = true
    · obtain ⟨eE, eK⟩ := tE_L hs hf
      refine we_aload_n (p := 39) dX7_advance_38 rfl rfl ?_
      refine we_aload_n (p := 40) dX7_advance_39 rfl rfl ?_
      refine wf_getI (c := 7) (j := 9) (n := 16) (v := nI (tS T n p)) (p := 43) dX7_advance_40 rfl rfl (by decide) (by decide) (Or.inl rfl) hu_eq rfl ?_
      refine we_putI (c := 7) (j := 1) (n := 16)  (p := 46) dX7_advance_43 rfl rfl (by decide) (by decide) rfl rfl rfl ?_
      refine we_aload_n (p := 47) dX7_advance_46 rfl rfl ?_
      refine we_iconst (v := -1) (p := 48) dX7_advance_47 (by decide) rfl ?_
      refine we_putI (c := 7) (j := 13) (n := 16)  (p := 51) dX7_advance_48 rfl rfl (by decide) (by decide) rfl rfl rfl ?_
      refine we_aload_n (p := 52) dX7_advance_51 rfl rfl ?_
      refine wf_getI (c := 7) (j := 9) (n := 16) (v := nI (tS T n p)) (p := 55) dX7_advance_52 rfl rfl (by decide) (by decide) (Or.inl rfl) (I_u (I_u hu_eq (by decide)) (by decide)) rfl ?_
      refine we_aload_n (p := 56) dX7_advance_55 rfl rfl ?_
      refine wf_getI (c := 7) (j := 8) (n := 16) (v := nI n) (p := 59) dX7_advance_56 rfl rfl (by decide) (by decide) (Or.inl rfl) (I_u (I_u ((hu_nj (by decide)).trans ht.2.1) (by decide)) (by decide)) rfl ?_
      refine we_icmp_lt (t := 70) (p := 62) dX7_advance_59 (by decide) rfl rfl (fun hc59 => ?_) (fun hc59 => absurd (nI_lt (a := (tS T n p)) (b := n) hs (by omega)) hc59)
      refine we_aload_n (p := 71) dX7_advance_70 rfl rfl ?_
      refine we_getR (c := 7) (j := 2) (n := 16) (b := 2) (p := 74) dX7_advance_71 rfl rfl (by decide) (by decide) rfl (r_3_2 hF) rfl ?_
      refine we_aload_n (p := 75) dX7_advance_74 rfl rfl ?_
      refine wf_getI (c := 7) (j := 9) (n := 16) (v := nI (tS T n p)) (p := 78) dX7_advance_75 rfl rfl (by decide) (by decide) (Or.inl rfl) (I_u (I_u hu_eq (by decide)) (by decide)) rfl ?_
      refine wg_bald (n := 900) (i := (tS T n p)) (v := sB (T (tS T n p))) (p := 79) dX7_advance_78 rfl (by decide) (in_nJ (by omega) (by decide)) (nI_cl (by omega)) (I_u (I_u ((congrFun (hu_ne (by decide)) _).trans (ht.2.2.1 _ hs).2) (by omega)) (by omega)) rfl ?_
      refine we_callS_int (p := 82) (k' := 0) (a := [.int (sB (T (tS T n p)))]) (rr := []) dX7_advance_79 rfl rfl rfl rfl rfl (rc_st rfl) (Nat.le_of_ble_eq_true rfl) (Nat.le_of_ble_eq_true rfl) (by decide) (Ev.i ((sB_L (T (tS T n p)) (ht.2.2.1 _ hs).1).trans (if_pos hf)) (x_isLetter)) (Or.inl rfl) rfl ?_
      refine we_if_eq (t := 92) (p := 85) dX7_advance_82 (by decide) rfl rfl (fun hc82 => absurd hc82 (by decide)) (fun hc82 => ?_)
      refine we_aload_n (p := 86) dX7_advance_85 rfl rfl ?_
      obtain ⟨_, _, e1, rfl, I1, J1, F1, rfl, ⟨rfl, a1, b1, c1, d1, e1q, f1⟩⟩ := x_scanWord (I := (hp_u (hp_u (hp_u I 3 9 (nI (tS T n p))) 3 1 (nI (tS T n p))) 3 13 (-1))) (s := (tS T n p)) hF (ht.av (((AvC.rf.u (by omega)).u (by omega)).u (by omega))) hs ((hu_nj (by decide)).trans ((hu_nj (by decide)).trans hu_eq)) ((hu_nj (by decide)).trans hu_eq) hu_eq
      refine we_callV_v (p := 89) (k' := 1) (a := [.ref 3]) (rr := []) dX7_advance_86 rfl rfl rfl rfl (rc_of rfl rfl (by decide) ⟨rfl, by decide⟩) (Nat.le_of_ble_eq_true rfl) (Nat.le_of_ble_eq_true rfl) (by decide) e1 (Or.inl rfl) rfl ?_
      refine we_goto (p := 147) dX7_advance_89 (by decide) rfl ?_
      exact wv_ret dX7_advance_147 rfl (⟨rfl, _, _, _, rfl, rfl, (((AvC.rf.u (by omega)).u (by omega)).u (by omega)).tr a1, b1.trans (by rw [eE]), c1, d1.trans (by rw [eK]), e1q.trans (by unfold tQ; rw [eK]; by_cases c : rn isLt T n (tS T n p) - tS T n p ≤ 8 <;> simp [c] <;> rfl), fun z => f1, fun z => absurd (eK.symm.trans z) (by split <;> decide)⟩)
    · by_cases hg : isDg (T (tS T n p)) = true
      · obtain ⟨eE, eK⟩ := tE_D hs hf hg
        refine we_aload_n (p := 39) dX7_advance_38 rfl rfl ?_
        refine we_aload_n (p := 40) dX7_advance_39 rfl rfl ?_
        refine wf_getI (c := 7) (j := 9) (n := 16) (v := nI (tS T n p)) (p := 43) dX7_advance_40 rfl rfl (by decide) (by decide) (Or.inl rfl) hu_eq rfl ?_
        refine we_putI (c := 7) (j := 1) (n := 16)  (p := 46) dX7_advance_43 rfl rfl (by decide) (by decide) rfl rfl rfl ?_
        refine we_aload_n (p := 47) dX7_advance_46 rfl rfl ?_
        refine we_iconst (v := -1) (p := 48) dX7_advance_47 (by decide) rfl ?_
        refine we_putI (c := 7) (j := 13) (n := 16)  (p := 51) dX7_advance_48 rfl rfl (by decide) (by decide) rfl rfl rfl ?_
        refine we_aload_n (p := 52) dX7_advance_51 rfl rfl ?_
        refine wf_getI (c := 7) (j := 9) (n := 16) (v := nI (tS T n p)) (p := 55) dX7_advance_52 rfl rfl (by decide) (by decide) (Or.inl rfl) (I_u (I_u hu_eq (by decide)) (by decide)) rfl ?_
        refine we_aload_n (p := 56) dX7_advance_55 rfl rfl ?_
        refine wf_getI (c := 7) (j := 8) (n := 16) (v := nI n) (p := 59) dX7_advance_56 rfl rfl (by decide) (by decide) (Or.inl rfl) (I_u (I_u ((hu_nj (by decide)).trans ht.2.1) (by decide)) (by decide)) rfl ?_
        refine we_icmp_lt (t := 70) (p := 62) dX7_advance_59 (by decide) rfl rfl (fun hc59 => ?_) (fun hc59 => absurd (nI_lt (a := (tS T n p)) (b := n) hs (by omega)) hc59)
        refine we_aload_n (p := 71) dX7_advance_70 rfl rfl ?_
        refine we_getR (c := 7) (j := 2) (n := 16) (b := 2) (p := 74) dX7_advance_71 rfl rfl (by decide) (by decide) rfl (r_3_2 hF) rfl ?_
        refine we_aload_n (p := 75) dX7_advance_74 rfl rfl ?_
        refine wf_getI (c := 7) (j := 9) (n := 16) (v := nI (tS T n p)) (p := 78) dX7_advance_75 rfl rfl (by decide) (by decide) (Or.inl rfl) (I_u (I_u hu_eq (by decide)) (by decide)) rfl ?_
        refine wg_bald (n := 900) (i := (tS T n p)) (v := sB (T (tS T n p))) (p := 79) dX7_advance_78 rfl (by decide) (in_nJ (by omega) (by decide)) (nI_cl (by omega)) (I_u (I_u ((congrFun (hu_ne (by decide)) _).trans (ht.2.2.1 _ hs).2) (by omega)) (by omega)) rfl ?_
        refine we_callS_int (p := 82) (k' := 0) (a := [.int (sB (T (tS T n p)))]) (rr := []) dX7_advance_79 rfl rfl rfl rfl rfl (rc_st rfl) (Nat.le_of_ble_eq_true rfl) (Nat.le_of_ble_eq_true rfl) (by decide) (Ev.i ((sB_L (T (tS T n p)) (ht.2.2.1 _ hs).1).trans (if_neg hf)) (x_isLetter)) (Or.inl rfl) rfl ?_
        refine we_if_eq (t := 92) (p := 85) dX7_advance_82 (by decide) rfl rfl (fun hc82 => ?_) (fun hc82 => absurd (by decide) hc82)
        refine we_aload_n (p := 93) dX7_advance_92 rfl rfl ?_
        refine we_getR (c := 7) (j := 2) (n := 16) (b := 2) (p := 96) dX7_advance_93 rfl rfl (by decide) (by decide) rfl (r_3_2 hF) rfl ?_
        refine we_aload_n (p := 97) dX7_advance_96 rfl rfl ?_
        refine wf_getI (c := 7) (j := 9) (n := 16) (v := nI (tS T n p)) (p := 100) dX7_advance_97 rfl rfl (by decide) (by decide) (Or.inl rfl) (I_u (I_u hu_eq (by decide)) (by decide)) rfl ?_
        refine wg_bald (n := 900) (i := (tS T n p)) (v := sB (T (tS T n p))) (p := 101) dX7_advance_100 rfl (by decide) (in_nJ (by omega) (by decide)) (nI_cl (by omega)) (I_u (I_u ((congrFun (hu_ne (by decide)) _).trans (ht.2.2.1 _ hs).2) (by omega)) (by omega)) rfl ?_
        refine we_callS_int (p := 104) (k' := 0) (a := [.int (sB (T (tS T n p)))]) (rr := []) dX7_advance_101 rfl rfl rfl rfl rfl (rc_st rfl) (Nat.le_of_ble_eq_true rfl) (Nat.le_of_ble_eq_true rfl) (by decide) (Ev.i ((sB_D (T (tS T n p)) (ht.2.2.1 _ hs).1).trans (if_pos hg)) (x_isDigit7)) (Or.inl rfl) rfl ?_
        refine we_if_eq (t := 114) (p := 107) dX7_advance_104 (by decide) rfl rfl (fun hc104 => absurd hc104 (by decide)) (fun hc104 => ?_)
        refine we_aload_n (p := 108) dX7_advance_107 rfl rfl ?_
        obtain ⟨_, _, e1, rfl, I1, J1, F1, rfl, ⟨rfl, a1, b1, c1, d1, e1q, f1⟩⟩ := x_scanWhole (I := (hp_u (hp_u (hp_u I 3 9 (nI (tS T n p))) 3 1 (nI (tS T n p))) 3 13 (-1))) (s := (tS T n p)) hF (ht.av (((AvC.rf.u (by omega)).u (by omega)).u (by omega))) hs ((hu_nj (by decide)).trans ((hu_nj (by decide)).trans hu_eq)) ((hu_nj (by decide)).trans hu_eq) hu_eq
        refine we_callV_v (p := 111) (k' := 1) (a := [.ref 3]) (rr := []) dX7_advance_108 rfl rfl rfl rfl (rc_of rfl rfl (by decide) ⟨rfl, by decide⟩) (Nat.le_of_ble_eq_true rfl) (Nat.le_of_ble_eq_true rfl) (by decide) e1 (Or.inl rfl) rfl ?_
        refine we_goto (p := 147) dX7_advance_111 (by decide) rfl ?_
        exact wv_ret dX7_advance_147 rfl (⟨rfl, _, _, _, rfl, rfl, (((AvC.rf.u (by omega)).u (by omega)).u (by omega)).tr a1, b1.trans (by rw [eE]), c1, d1.trans (by rw [eK]), e1q.trans (by unfold tQ; rw [eK]; rw [if_neg (by split <;> decide)]), fun z => absurd (eK.symm.trans z) (by split <;> decide), fun z => f1⟩)
      · obtain ⟨eE, eK⟩ := tE_O hs hf hg
        by_cases h59 : T (tS T n p) = 59
        · rw [if_pos h59] at eK
          refine we_aload_n (p := 39) dX7_advance_38 rfl rfl ?_
          refine we_aload_n (p := 40) dX7_advance_39 rfl rfl ?_
          refine wf_getI (c := 7) (j := 9) (n := 16) (v := nI (tS T n p)) (p := 43) dX7_advance_40 rfl rfl (by decide) (by decide) (Or.inl rfl) hu_eq rfl ?_
          refine we_putI (c := 7) (j := 1) (n := 16)  (p := 46) dX7_advance_43 rfl rfl (by decide) (by decide) rfl rfl rfl ?_
          refine we_aload_n (p := 47) dX7_advance_46 rfl rfl ?_
          refine we_iconst (v := -1) (p := 48) dX7_advance_47 (by decide) rfl ?_
          refine we_putI (c := 7) (j := 13) (n := 16)  (p := 51) dX7_advance_48 rfl rfl (by decide) (by decide) rfl rfl rfl ?_
          refine we_aload_n (p := 52) dX7_advance_51 rfl rfl ?_
          refine wf_getI (c := 7) (j := 9) (n := 16) (v := nI (tS T n p)) (p := 55) dX7_advance_52 rfl rfl (by decide) (by decide) (Or.inl rfl) (I_u (I_u hu_eq (by decide)) (by decide)) rfl ?_
          refine we_aload_n (p := 56) dX7_advance_55 rfl rfl ?_
          refine wf_getI (c := 7) (j := 8) (n := 16) (v := nI n) (p := 59) dX7_advance_56 rfl rfl (by decide) (by decide) (Or.inl rfl) (I_u (I_u ((hu_nj (by decide)).trans ht.2.1) (by decide)) (by decide)) rfl ?_
          refine we_icmp_lt (t := 70) (p := 62) dX7_advance_59 (by decide) rfl rfl (fun hc59 => ?_) (fun hc59 => absurd (nI_lt (a := (tS T n p)) (b := n) hs (by omega)) hc59)
          refine we_aload_n (p := 71) dX7_advance_70 rfl rfl ?_
          refine we_getR (c := 7) (j := 2) (n := 16) (b := 2) (p := 74) dX7_advance_71 rfl rfl (by decide) (by decide) rfl (r_3_2 hF) rfl ?_
          refine we_aload_n (p := 75) dX7_advance_74 rfl rfl ?_
          refine wf_getI (c := 7) (j := 9) (n := 16) (v := nI (tS T n p)) (p := 78) dX7_advance_75 rfl rfl (by decide) (by decide) (Or.inl rfl) (I_u (I_u hu_eq (by decide)) (by decide)) rfl ?_
          refine wg_bald (n := 900) (i := (tS T n p)) (v := sB (T (tS T n p))) (p := 79) dX7_advance_78 rfl (by decide) (in_nJ (by omega) (by decide)) (nI_cl (by omega)) (I_u (I_u ((congrFun (hu_ne (by decide)) _).trans (ht.2.2.1 _ hs).2) (by omega)) (by omega)) rfl ?_
          refine we_callS_int (p := 82) (k' := 0) (a := [.int (sB (T (tS T n p)))]) (rr := []) dX7_advance_79 rfl rfl rfl rfl rfl (rc_st rfl) (Nat.le_of_ble_eq_true rfl) (Nat.le_of_ble_eq_true rfl) (by decide) (Ev.i ((sB_L (T (tS T n p)) (ht.2.2.1 _ hs).1).trans (if_neg hf)) (x_isLetter)) (Or.inl rfl) rfl ?_
          refine we_if_eq (t := 92) (p := 85) dX7_advance_82 (by decide) rfl rfl (fun hc82 => ?_) (fun hc82 => absurd (by decide) hc82)
          refine we_aload_n (p := 93) dX7_advance_92 rfl rfl ?_
          refine we_getR (c := 7) (j := 2) (n := 16) (b := 2) (p := 96) dX7_advance_93 rfl rfl (by decide) (by decide) rfl (r_3_2 hF) rfl ?_
          refine we_aload_n (p := 97) dX7_advance_96 rfl rfl ?_
          refine wf_getI (c := 7) (j := 9) (n := 16) (v := nI (tS T n p)) (p := 100) dX7_advance_97 rfl rfl (by decide) (by decide) (Or.inl rfl) (I_u (I_u hu_eq (by decide)) (by decide)) rfl ?_
          refine wg_bald (n := 900) (i := (tS T n p)) (v := sB (T (tS T n p))) (p := 101) dX7_advance_100 rfl (by decide) (in_nJ (by omega) (by decide)) (nI_cl (by omega)) (I_u (I_u ((congrFun (hu_ne (by decide)) _).trans (ht.2.2.1 _ hs).2) (by omega)) (by omega)) rfl ?_
          refine we_callS_int (p := 104) (k' := 0) (a := [.int (sB (T (tS T n p)))]) (rr := []) dX7_advance_101 rfl rfl rfl rfl rfl (rc_st rfl) (Nat.le_of_ble_eq_true rfl) (Nat.le_of_ble_eq_true rfl) (by decide) (Ev.i ((sB_D (T (tS T n p)) (ht.2.2.1 _ hs).1).trans (if_neg hg)) (x_isDigit7)) (Or.inl rfl) rfl ?_
          refine we_if_eq (t := 114) (p := 107) dX7_advance_104 (by decide) rfl rfl (fun hc104 => ?_) (fun hc104 => absurd (by decide) hc104)
          refine we_aload_n (p := 115) dX7_advance_114 rfl rfl ?_
          refine we_aload_n (p := 116) dX7_advance_115 rfl rfl ?_
          refine we_getR (c := 7) (j := 2) (n := 16) (b := 2) (p := 119) dX7_advance_116 rfl rfl (by decide) (by decide) rfl (r_3_2 hF) rfl ?_
          refine we_aload_n (p := 120) dX7_advance_119 rfl rfl ?_
          refine wf_getI (c := 7) (j := 9) (n := 16) (v := nI (tS T n p)) (p := 123) dX7_advance_120 rfl rfl (by decide) (by decide) (Or.inl rfl) (I_u (I_u hu_eq (by decide)) (by decide)) rfl ?_
          refine wg_bald (n := 900) (i := (tS T n p)) (v := sB (T (tS T n p))) (p := 124) dX7_advance_123 rfl (by decide) (in_nJ (by omega) (by decide)) (nI_cl (by omega)) (I_u (I_u ((congrFun (hu_ne (by decide)) _).trans (ht.2.2.1 _ hs).2) (by omega)) (by omega)) rfl ?_
          refine we_bipush (v := 59) (p := 126) dX7_advance_124 (by decide) rfl ?_
          refine we_icmp_ne (t := 133) (p := 129) dX7_advance_126 (by decide) rfl rfl (fun hc126 => absurd ((sB_59 _ (ht.2.2.1 _ hs).1).mpr h59) hc126) (fun hc126 => ?_)
          refine we_iconst (v := 3) (p := 130) dX7_advance_129 (by decide) rfl ?_
          refine we_goto (p := 134) dX7_advance_130 (by decide) rfl ?_
          refine we_putI (c := 7) (j := 11) (n := 16)  (p := 137) dX7_advance_134 rfl rfl (by decide) (by decide) rfl rfl rfl ?_
          refine we_aload_n (p := 138) dX7_advance_137 rfl rfl ?_
          refine we_dup_ref (p := 139) dX7_advance_138 rfl ?_
          refine wf_getI (c := 7) (j := 9) (n := 16) (v := nI (tS T n p)) (p := 142) dX7_advance_139 rfl rfl (by decide) (by decide) (Or.inl rfl) (I_u (I_u (I_u hu_eq (by decide)) (by decide)) (by decide)) rfl ?_
          refine we_iconst (v := 1) (p := 143) dX7_advance_142 (by decide) rfl ?_
          refine we_iadd (p := 144) dX7_advance_143 rfl ?_
          refine we_putI (c := 7) (j := 9) (n := 16)  (p := 147) dX7_advance_144 rfl rfl (by decide) (by decide) rfl rfl rfl ?_
          exact wv_ret dX7_advance_147 rfl (⟨rfl, _, _, _, rfl, rfl, ((((AvC.rf.u (by omega)).u (by omega)).u (by omega)).u (by omega)).u (by omega), hu_eq.trans (by rw [nI_1, eE]), (hu_nj (by decide)).trans ((hu_nj (by decide)).trans ((hu_nj (by decide)).trans hu_eq)), (hu_nj (by decide)).trans (hu_eq.trans (by rw [eK]; rfl)), (hu_nj (by decide)).trans ((hu_nj (by decide)).trans (hu_eq.trans (by unfold tQ; rw [eK, if_neg (by decide)]))), fun z => absurd (eK.symm.trans z) (by decide), fun z => absurd (eK.symm.trans z) (by decide)⟩)
        · rw [if_neg h59] at eK
          refine we_aload_n (p := 39) dX7_advance_38 rfl rfl ?_
          refine we_aload_n (p := 40) dX7_advance_39 rfl rfl ?_
          refine wf_getI (c := 7) (j := 9) (n := 16) (v := nI (tS T n p)) (p := 43) dX7_advance_40 rfl rfl (by decide) (by decide) (Or.inl rfl) hu_eq rfl ?_
          refine we_putI (c := 7) (j := 1) (n := 16)  (p := 46) dX7_advance_43 rfl rfl (by decide) (by decide) rfl rfl rfl ?_
          refine we_aload_n (p := 47) dX7_advance_46 rfl rfl ?_
          refine we_iconst (v := -1) (p := 48) dX7_advance_47 (by decide) rfl ?_
          refine we_putI (c := 7) (j := 13) (n := 16)  (p := 51) dX7_advance_48 rfl rfl (by decide) (by decide) rfl rfl rfl ?_
          refine we_aload_n (p := 52) dX7_advance_51 rfl rfl ?_
          refine wf_getI (c := 7) (j := 9) (n := 16) (v := nI (tS T n p)) (p := 55) dX7_advance_52 rfl rfl (by decide) (by decide) (Or.inl rfl) (I_u (I_u hu_eq (by decide)) (by decide)) rfl ?_
          refine we_aload_n (p := 56) dX7_advance_55 rfl rfl ?_
          refine wf_getI (c := 7) (j := 8) (n := 16) (v := nI n) (p := 59) dX7_advance_56 rfl rfl (by decide) (by decide) (Or.inl rfl) (I_u (I_u ((hu_nj (by decide)).trans ht.2.1) (by decide)) (by decide)) rfl ?_
          refine we_icmp_lt (t := 70) (p := 62) dX7_advance_59 (by decide) rfl rfl (fun hc59 => ?_) (fun hc59 => absurd (nI_lt (a := (tS T n p)) (b := n) hs (by omega)) hc59)
          refine we_aload_n (p := 71) dX7_advance_70 rfl rfl ?_
          refine we_getR (c := 7) (j := 2) (n := 16) (b := 2) (p := 74) dX7_advance_71 rfl rfl (by decide) (by decide) rfl (r_3_2 hF) rfl ?_
          refine we_aload_n (p := 75) dX7_advance_74 rfl rfl ?_
          refine wf_getI (c := 7) (j := 9) (n := 16) (v := nI (tS T n p)) (p := 78) dX7_advance_75 rfl rfl (by decide) (by decide) (Or.inl rfl) (I_u (I_u hu_eq (by decide)) (by decide)) rfl ?_
          refine wg_bald (n := 900) (i := (tS T n p)) (v := sB (T (tS T n p))) (p := 79) dX7_advance_78 rfl (by decide) (in_nJ (by omega) (by decide)) (nI_cl (by omega)) (I_u (I_u ((congrFun (hu_ne (by decide)) _).trans (ht.2.2.1 _ hs).2) (by omega)) (by omega)) rfl ?_
          refine we_callS_int (p := 82) (k' := 0) (a := [.int (sB (T (tS T n p)))]) (rr := []) dX7_advance_79 rfl rfl rfl rfl rfl (rc_st rfl) (Nat.le_of_ble_eq_true rfl) (Nat.le_of_ble_eq_true rfl) (by decide) (Ev.i ((sB_L (T (tS T n p)) (ht.2.2.1 _ hs).1).trans (if_neg hf)) (x_isLetter)) (Or.inl rfl) rfl ?_
          refine we_if_eq (t := 92) (p := 85) dX7_advance_82 (by decide) rfl rfl (fun hc82 => ?_) (fun hc82 => absurd (by decide) hc82)
          refine we_aload_n (p := 93) dX7_advance_92 rfl rfl ?_
          refine we_getR (c := 7) (j := 2) (n := 16) (b := 2) (p := 96) dX7_advance_93 rfl rfl (by decide) (by decide) rfl (r_3_2 hF) rfl ?_
          refine we_aload_n (p := 97) dX7_advance_96 rfl rfl ?_
          refine wf_getI (c := 7) (j := 9) (n := 16) (v := nI (tS T n p)) (p := 100) dX7_advance_97 rfl rfl (by decide) (by decide) (Or.inl rfl) (I_u (I_u hu_eq (by decide)) (by decide)) rfl ?_
          refine wg_bald (n := 900) (i := (tS T n p)) (v := sB (T (tS T n p))) (p := 101) dX7_advance_100 rfl (by decide) (in_nJ (by omega) (by decide)) (nI_cl (by omega)) (I_u (I_u ((congrFun (hu_ne (by decide)) _).trans (ht.2.2.1 _ hs).2) (by omega)) (by omega)) rfl ?_
          refine we_callS_int (p := 104) (k' := 0) (a := [.int (sB (T (tS T n p)))]) (rr := []) dX7_advance_101 rfl rfl rfl rfl rfl (rc_st rfl) (Nat.le_of_ble_eq_true rfl) (Nat.le_of_ble_eq_true rfl) (by decide) (Ev.i ((sB_D (T (tS T n p)) (ht.2.2.1 _ hs).1).trans (if_neg hg)) (x_isDigit7)) (Or.inl rfl) rfl ?_
          refine we_if_eq (t := 114) (p := 107) dX7_advance_104 (by decide) rfl rfl (fun hc104 => ?_) (fun hc104 => absurd (by decide) hc104)
          refine we_aload_n (p := 115) dX7_advance_114 rfl rfl ?_
          refine we_aload_n (p := 116) dX7_advance_115 rfl rfl ?_
          refine we_getR (c := 7) (j := 2) (n := 16) (b := 2) (p := 119) dX7_advance_116 rfl rfl (by decide) (by decide) rfl (r_3_2 hF) rfl ?_
          refine we_aload_n (p := 120) dX7_advance_119 rfl rfl ?_
          refine wf_getI (c := 7) (j := 9) (n := 16) (v := nI (tS T n p)) (p := 123) dX7_advance_120 rfl rfl (by decide) (by decide) (Or.inl rfl) (I_u (I_u hu_eq (by decide)) (by decide)) rfl ?_
          refine wg_bald (n := 900) (i := (tS T n p)) (v := sB (T (tS T n p))) (p := 124) dX7_advance_123 rfl (by decide) (in_nJ (by omega) (by decide)) (nI_cl (by omega)) (I_u (I_u ((congrFun (hu_ne (by decide)) _).trans (ht.2.2.1 _ hs).2) (by omega)) (by omega)) rfl ?_
          refine we_bipush (v := 59) (p := 126) dX7_advance_124 (by decide) rfl ?_
          refine we_icmp_ne (t := 133) (p := 129) dX7_advance_126 (by decide) rfl rfl (fun hc126 => ?_) (fun hc126 => absurd hc126 (fun z => h59 ((sB_59 _ (ht.2.2.1 _ hs).1).mp z)))
          refine we_iconst (v := 4) (p := 134) dX7_advance_133 (by decide) rfl ?_
          refine we_putI (c := 7) (j := 11) (n := 16)  (p := 137) dX7_advance_134 rfl rfl (by decide) (by decide) rfl rfl rfl ?_
          refine we_aload_n (p := 138) dX7_advance_137 rfl rfl ?_
          refine we_dup_ref (p := 139) dX7_advance_138 rfl ?_
          refine wf_getI (c := 7) (j := 9) (n := 16) (v := nI (tS T n p)) (p := 142) dX7_advance_139 rfl rfl (by decide) (by decide) (Or.inl rfl) (I_u (I_u (I_u hu_eq (by decide)) (by decide)) (by decide)) rfl ?_
          refine we_iconst (v := 1) (p := 143) dX7_advance_142 (by decide) rfl ?_
          refine we_iadd (p := 144) dX7_advance_143 rfl ?_
          refine we_putI (c := 7) (j := 9) (n := 16)  (p := 147) dX7_advance_144 rfl rfl (by decide) (by decide) rfl rfl rfl ?_
          exact wv_ret dX7_advance_147 rfl (⟨rfl, _, _, _, rfl, rfl, ((((AvC.rf.u (by omega)).u (by omega)).u (by omega)).u (by omega)).u (by omega), hu_eq.trans (by rw [nI_1, eE]), (hu_nj (by decide)).trans ((hu_nj (by decide)).trans ((hu_nj (by decide)).trans hu_eq)), (hu_nj (by decide)).trans (hu_eq.trans (by rw [eK]; rfl)), (hu_nj (by decide)).trans ((hu_nj (by decide)).trans (hu_eq.trans (by unfold tQ; rw [eK, if_neg (by decide)]))), fun z => absurd (eK.symm.trans z) (by decide), fun z => absurd (eK.symm.trans z) (by decide)⟩)
  · obtain ⟨eE, eK⟩ := tE_E hs
    refine we_aload_n (p := 39) dX7_advance_38 rfl rfl ?_
    refine we_aload_n (p := 40) dX7_advance_39 rfl rfl ?_
    refine wf_getI (c := 7) (j := 9) (n := 16) (v := nI (tS T n p)) (p := 43) dX7_advance_40 rfl rfl (by decide) (by decide) (Or.inl rfl) hu_eq rfl ?_
    refine we_putI (c := 7) (j := 1) (n := 16)  (p := 46) dX7_advance_43 rfl rfl (by decide) (by decide) rfl rfl rfl ?_
    refine we_aload_n (p := 47) dX7_advance_46 rfl rfl ?_
    refine we_iconst (v := -1) (p := 48) dX7_advance_47 (by decide) rfl ?_
    refine we_putI (c := 7) (j := 13) (n := 16)  (p := 51) dX7_advance_48 rfl rfl (by decide) (by decide) rfl rfl rfl ?_
    refine we_aload_n (p := 52) dX7_advance_51 rfl rfl ?_
    refine wf_getI (c := 7) (j := 9) (n := 16) (v := nI (tS T n p)) (p := 55) dX7_advance_52 rfl rfl (by decide) (by decide) (Or.inl rfl) (I_u (I_u hu_eq (by decide)) (by decide)) rfl ?_
    refine we_aload_n (p := 56) dX7_advance_55 rfl rfl ?_
    refine wf_getI (c := 7) (j := 8) (n := 16) (v := nI n) (p := 59) dX7_advance_56 rfl rfl (by decide) (by decide) (Or.inl rfl) (I_u (I_u ((hu_nj (by decide)).trans ht.2.1) (by decide)) (by decide)) rfl ?_
    refine we_icmp_lt (t := 70) (p := 62) dX7_advance_59 (by decide) rfl rfl (fun hc59 => absurd hc59 (nI_nlt (a := (tS T n p)) (b := n) (by omega) (by omega))) (fun hc59 => ?_)
    refine we_aload_n (p := 63) dX7_advance_62 rfl rfl ?_
    refine we_iconst (v := 0) (p := 64) dX7_advance_63 (by decide) rfl ?_
    refine we_putI (c := 7) (j := 11) (n := 16)  (p := 67) dX7_advance_64 rfl rfl (by decide) (by decide) rfl rfl rfl ?_
    refine we_goto (p := 147) dX7_advance_67 (by decide) rfl ?_
    exact wv_ret dX7_advance_147 rfl (⟨rfl, _, _, _, rfl, rfl, (((AvC.rf.u (by omega)).u (by omega)).u (by omega)).u (by omega), (hu_nj (by decide)).trans ((hu_nj (by decide)).trans ((hu_nj (by decide)).trans (hu_eq.trans (by rw [eE])))), (hu_nj (by decide)).trans ((hu_nj (by decide)).trans hu_eq), hu_eq.trans (by rw [eK]; rfl), (hu_nj (by decide)).trans (hu_eq.trans (by unfold tQ; rw [eK, if_neg (by decide)])), fun z => absurd (eK.symm.trans z) (by decide), fun z => absurd (eK.symm.trans z) (by decide)⟩)
