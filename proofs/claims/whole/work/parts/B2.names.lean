/-! The reference's names. -/
def slt (q : Nat × Nat × Nat × Nat) : Nat := if q.2.2.1 = 0 then q.2.2.2 else if q.2.2.1 = 2 then 6 + q.2.2.2 else 14 + q.2.2.2
def nmM (T : Nat → Nat) (S : pZ) (I : Nat → Nat → Int32) : Prop := (∀ i, i < zC S → I 99 (105 + slt (zN S i)) = nI ((zN S i).2.1 - (zN S i).1) ∧ ∀ k, k < (zN S i).2.1 - (zN S i).1 → I 99 (124 + 8 * slt (zN S i) + k) = nI (T ((zN S i).1 + k))) ∧ ∀ t, t < 19 → (∀ i, i < zC S → ¬ slt (zN S i) = t) → I 99 (105 + t) = 0
def nmV (T : Nat → Nat) (S : pZ) : Prop := (∀ i, i < zC S → (zN S i).1 < (zN S i).2.1 ∧ (zN S i).2.1 - (zN S i).1 ≤ 8 ∧ (∀ k, k < (zN S i).2.1 - (zN S i).1 → isLt (T ((zN S i).1 + k)) = true) ∧ (((zN S i).2.2.1 = 0 ∧ (zN S i).2.2.2 < 6) ∨ ((zN S i).2.2.1 = 2 ∧ (zN S i).2.2.2 < 8) ∨ ((zN S i).2.2.1 = 5 ∧ (zN S i).2.2.2 < 5))) ∧ ∀ i j, i < zC S → j < zC S → i ≠ j → ¬ pkw T (zN S i).1 (zN S i).2.1 = pkw T (zN S j).1 (zN S j).2.1
def cM (T : Nat → Nat) (S : pZ) (I : Nat → Nat → Int32) : Prop := oM I 99 (zD S) ∧ nmM T S I ∧ nmV T S
def alB (P : Nat → Prop) [DecidablePred P] (i : Nat) (a : Int32) : Int32 := if a = 0 then 0 else if P i then 1 else 0
theorem gN_al0 {P : Nat → Prop} [DecidablePred P] : ∀ m i, gN (alB P) i m 0 = 0
  | 0, _ => rfl
  | m + 1, i => by
    rw [gN, alB, if_pos rfl]
    exact gN_al0 m (i + 1)
theorem gN_aly {P : Nat → Prop} [DecidablePred P] : ∀ m i, (∀ k, k < m → P (i + k)) → gN (alB P) i m 1 = 1
  | 0, _, _ => rfl
  | m + 1, i, h => by
    rw [gN, alB, if_neg (by decide), if_pos (show P i from h 0 (by omega))]
    exact gN_aly m (i + 1) (fun k hk => by rw [show i + 1 + k = i + (k + 1) by omega]; exact h (k + 1) (by omega))
theorem gN_aln {P : Nat → Prop} [DecidablePred P] : ∀ m i, ¬ (∀ k, k < m → P (i + k)) → gN (alB P) i m 1 = 0
  | 0, _, h => absurd (fun k hk => absurd hk (by omega)) h
  | m + 1, i, h => by
    rw [gN, alB, if_neg (by decide)]
    by_cases c : P i
    · rw [if_pos c]
      refine gN_aln m (i + 1) (fun z => h (fun k hk => ?_))
      cases k with
      | zero => exact c
      | succ k =>
        have := z k (by omega)
        rw [show i + 1 + k = i + (k + 1) by omega] at this
        exact this
    · rw [if_neg c]
      exact gN_al0 m (i + 1)
abbrev inP (I : Nat → Nat → Int32) (t k : Nat) : Prop := I 99 (124 + 8 * t + k) = I 97 k
def fdF (I : Nat → Nat → Int32) (c : Nat) : Nat → Nat → Int32
  | 0, _ => -1
  | m + 1, t => if I 99 (105 + t) = nI c ∧ ∀ k, k < c → inP I t k then nI t else fdF I c m (t + 1)
theorem ix124 {t k : Nat} : (124 + 8 * nI t + nI k : Int32) = nI (124 + 8 * t + k) := by
  rw [show (124 : Int32) = nI 124 from rfl, show (8 : Int32) = nI 8 from rfl, pk_mul, nI_add, nI_add]
theorem ix5 {t : Nat} : (105 + nI t : Int32) = nI (105 + t) := by
  rw [show (105 : Int32) = nI 105 from rfl, nI_add]
set_option maxRecDepth 10000 in
theorem y_find_I {I : Nat → Nat → Int32} {J : Nat → Nat → Int64} {F : Nat → Nat → Option Nat} {nc ns : Nat} (hF : RFok F) {c : Nat} (hc : I 95 8 = nI c) (hc0 : 0 < c) (hc8 : c ≤ 8) {t : Nat} (ht : t < 19) {r : Option Value} : ∀ (m k : Nat) (a : Int32), k + m = c → (a = 0 ∨ a = 1) → (∀ z : Value, Ev 0 mX12_find 91 [.ref 95, .int (nI t), .int (gN (alB (inP I t)) k m a), z] [] ((SH, nc, ns), I, J, F) r ((SH, nc, ns), I, J, F)) → Ev 0 mX12_find 44 [.ref 95, .int (nI t), .int a, .int (nI k)] [] ((SH, nc, ns), I, J, F) r ((SH, nc, ns), I, J, F)
  | 0, k, a, hk, h01 => fun q0 => by
    refine e_iload_n (p := 45) dX12_find_44 rfl rfl ?_
    refine e_aload_n (p := 46) dX12_find_45 rfl rfl ?_
    refine f_getI (c := 11) (j := 8) (n := 37) (v := nI c) (p := 49) dX12_find_46 rfl rfl (by decide) (by decide) (Or.inl rfl) hc rfl ?_
    refine e_icmp_ge (t := 91) (p := 52) dX12_find_49 (by decide) rfl rfl (fun hc49 => ?_) (fun hc49 => absurd (nI_le (a := c) (b := k) (by omega) (by omega)) hc49)
    exact q0 _
  | m + 1, k, a, hk, h01 => fun q0 => by
    rcases h01 with rfl | rfl
    · skip
      refine e_iload_n (p := 45) dX12_find_44 rfl rfl ?_
      refine e_aload_n (p := 46) dX12_find_45 rfl rfl ?_
      refine f_getI (c := 11) (j := 8) (n := 37) (v := nI c) (p := 49) dX12_find_46 rfl rfl (by decide) (by decide) (Or.inl rfl) hc rfl ?_
      refine e_icmp_ge (t := 91) (p := 52) dX12_find_49 (by decide) rfl rfl (fun hc49 => absurd hc49 (nI_ge (a := k) (b := c) (by omega) (by omega))) (fun hc49 => ?_)
      refine e_iload_n (p := 53) dX12_find_52 rfl rfl ?_
      refine e_if_eq (t := 91) (p := 56) dX12_find_53 (by decide) rfl rfl (fun hc53 => ?_) (fun hc53 => absurd (by decide) hc53)
      rw [gN_al0] at q0
      exact q0 _
    · skip
      refine e_iload_n (p := 45) dX12_find_44 rfl rfl ?_
      refine e_aload_n (p := 46) dX12_find_45 rfl rfl ?_
      refine f_getI (c := 11) (j := 8) (n := 37) (v := nI c) (p := 49) dX12_find_46 rfl rfl (by decide) (by decide) (Or.inl rfl) hc rfl ?_
      refine e_icmp_ge (t := 91) (p := 52) dX12_find_49 (by decide) rfl rfl (fun hc49 => absurd hc49 (nI_ge (a := k) (b := c) (by omega) (by omega))) (fun hc49 => ?_)
      refine e_iload_n (p := 53) dX12_find_52 rfl rfl ?_
      refine e_if_eq (t := 91) (p := 56) dX12_find_53 (by decide) rfl rfl (fun hc53 => absurd hc53 (by decide)) (fun hc53 => ?_)
      refine e_aload_n (p := 57) dX12_find_56 rfl rfl ?_
      refine e_getR (c := 11) (j := 16) (n := 37) (b := 99) (p := 60) dX12_find_57 rfl rfl (by decide) (by decide) rfl (r_95_16 hF) rfl ?_
      refine e_bipush (v := 124) (p := 62) dX12_find_60 (by decide) rfl ?_
      refine e_bipush (v := 8) (p := 64) dX12_find_62 (by decide) rfl ?_
      refine e_iload_n (p := 65) dX12_find_64 rfl rfl ?_
      refine e_imul (p := 66) dX12_find_65 rfl ?_
      refine e_iadd (p := 67) dX12_find_66 rfl ?_
      refine e_iload_n (p := 68) dX12_find_67 rfl rfl ?_
      refine e_iadd (p := 69) dX12_find_68 rfl ?_
      rw [ix124]
      refine f_iald (n := 276) (i := (124 + 8 * t + k)) (v := I 99 (124 + 8 * t + k)) (p := 70) dX12_find_69 rfl (by decide) (in_nJ (by omega) (by decide)) (nI_cl (by omega)) rfl rfl ?_
      refine e_aload_n (p := 71) dX12_find_70 rfl rfl ?_
      refine e_getR (c := 11) (j := 12) (n := 37) (b := 97) (p := 74) dX12_find_71 rfl rfl (by decide) (by decide) rfl (r_95_12 hF) rfl ?_
      refine e_iload_n (p := 75) dX12_find_74 rfl rfl ?_
      refine f_iald (n := 8) (i := k) (v := I 97 k) (p := 76) dX12_find_75 rfl (by decide) (in_nJ (by omega) (by decide)) (nI_cl (by omega)) rfl rfl ?_
      refine e_icmp_ne (t := 83) (p := 79) dX12_find_76 (by decide) rfl rfl (fun hc76 => ?_) (fun hc76 => ?_)
      · skip
        refine e_iconst (v := 0) (p := 84) dX12_find_83 (by decide) rfl ?_
        refine e_istore_n (ls1 := [.ref 95, .int (nI t), .int 0, .int (nI k)]) (p := 85) dX12_find_84 rfl rfl ?_
        refine e_iinc (ls1 := [.ref 95, .int (nI t), .int 0, .int ((nI k) + 1)]) (p := 88) dX12_find_85 rfl rfl rfl ?_
        refine e_goto (p := 44) dX12_find_88 (by decide) rfl ?_
        rw [nI_1]
        rw [gN_s, alB, if_neg (by decide), if_neg hc76] at q0
        exact y_find_I hF hc hc0 hc8 ht m (k + 1) _ (by omega) z0 q0
      · skip
        refine e_iconst (v := 1) (p := 80) dX12_find_79 (by decide) rfl ?_
        refine e_goto (p := 84) dX12_find_80 (by decide) rfl ?_
        refine e_istore_n (ls1 := [.ref 95, .int (nI t), .int 1, .int (nI k)]) (p := 85) dX12_find_84 rfl rfl ?_
        refine e_iinc (ls1 := [.ref 95, .int (nI t), .int 1, .int ((nI k) + 1)]) (p := 88) dX12_find_85 rfl rfl rfl ?_
        refine e_goto (p := 44) dX12_find_88 (by decide) rfl ?_
        rw [nI_1]
        rw [gN_s, alB, if_neg (by decide), if_pos hc76] at q0
        exact y_find_I hF hc hc0 hc8 ht m (k + 1) _ (by omega) z1 q0
set_option maxRecDepth 10000 in
theorem y_find_L {I : Nat → Nat → Int32} {J : Nat → Nat → Int64} {F : Nat → Nat → Option Nat} {nc ns : Nat} (hF : RFok F) {c : Nat} (hc : I 95 8 = nI c) (hc0 : 0 < c) (hc8 : c ≤ 8) : ∀ (m t : Nat) (z2 z3 : Value), t + m = 19 → Ev 0 mX12_find 2 [.ref 95, .int (nI t), z2, z3] [] ((SH, nc, ns), I, J, F) (some (.int (fdF I c m t))) ((SH, nc, ns), I, J, F)
  | 0, t, z2, z3, ht => by
    refine e_iload_n (p := 3) dX12_find_2 rfl rfl ?_
    refine e_bipush (v := 19) (p := 5) dX12_find_3 (by decide) rfl ?_
    refine e_icmp_ge (t := 103) (p := 8) dX12_find_5 (by decide) rfl rfl (fun hc5 => ?_) (fun hc5 => absurd (nI_le (a := 19) (b := t) (by omega) (by omega)) hc5)
    refine e_iconst (v := -1) (p := 104) dX12_find_103 (by decide) rfl ?_
    exact e_iretE dX12_find_104 rfl rfl (by decide) ⟨rfl, rfl⟩
  | m + 1, t, z2, z3, ht => by
    by_cases hv : I 99 (105 + t) = nI c
    · by_cases ha : ∀ k, k < c → inP I t k
      · skip
        refine e_iload_n (p := 3) dX12_find_2 rfl rfl ?_
        refine e_bipush (v := 19) (p := 5) dX12_find_3 (by decide) rfl ?_
        refine e_icmp_ge (t := 103) (p := 8) dX12_find_5 (by decide) rfl rfl (fun hc5 => absurd hc5 (nI_ge (a := t) (b := 19) (by omega) (by omega))) (fun hc5 => ?_)
        refine e_aload_n (p := 9) dX12_find_8 rfl rfl ?_
        refine e_getR (c := 11) (j := 16) (n := 37) (b := 99) (p := 12) dX12_find_9 rfl rfl (by decide) (by decide) rfl (r_95_16 hF) rfl ?_
        refine e_bipush (v := 105) (p := 14) dX12_find_12 (by decide) rfl ?_
        refine e_iload_n (p := 15) dX12_find_14 rfl rfl ?_
        refine e_iadd (p := 16) dX12_find_15 rfl ?_
        rw [ix5]
        refine f_iald (n := 276) (i := (105 + t)) (v := I 99 (105 + t)) (p := 17) dX12_find_16 rfl (by decide) (in_nJ (by omega) (by decide)) (nI_cl (by omega)) rfl rfl ?_
        refine e_if_le (t := 40) (p := 20) dX12_find_17 (by decide) rfl rfl (fun hc17 => absurd hc17 (by rw [hv]; exact nI_ge (a := 0) (b := c) (by omega) (by omega))) (fun hc17 => ?_)
        refine e_aload_n (p := 21) dX12_find_20 rfl rfl ?_
        refine e_getR (c := 11) (j := 16) (n := 37) (b := 99) (p := 24) dX12_find_21 rfl rfl (by decide) (by decide) rfl (r_95_16 hF) rfl ?_
        refine e_bipush (v := 105) (p := 26) dX12_find_24 (by decide) rfl ?_
        refine e_iload_n (p := 27) dX12_find_26 rfl rfl ?_
        refine e_iadd (p := 28) dX12_find_27 rfl ?_
        rw [ix5]
        refine f_iald (n := 276) (i := (105 + t)) (v := I 99 (105 + t)) (p := 29) dX12_find_28 rfl (by decide) (in_nJ (by omega) (by decide)) (nI_cl (by omega)) rfl rfl ?_
        refine e_aload_n (p := 30) dX12_find_29 rfl rfl ?_
        refine f_getI (c := 11) (j := 8) (n := 37) (v := nI c) (p := 33) dX12_find_30 rfl rfl (by decide) (by decide) (Or.inl rfl) hc rfl ?_
        refine e_icmp_ne (t := 40) (p := 36) dX12_find_33 (by decide) rfl rfl (fun hc33 => absurd hv hc33) (fun hc33 => ?_)
        refine e_iconst (v := 1) (p := 37) dX12_find_36 (by decide) rfl ?_
        refine e_goto (p := 41) dX12_find_37 (by decide) rfl ?_
        refine e_istore_n (ls1 := [.ref 95, .int (nI t), .int 1, z3]) (p := 42) dX12_find_41 rfl rfl ?_
        refine e_iconst (v := 0) (p := 43) dX12_find_42 (by decide) rfl ?_
        refine e_istore_n (ls1 := [.ref 95, .int (nI t), .int 1, .int 0]) (p := 44) dX12_find_43 rfl rfl ?_
        refine y_find_I hF hc hc0 hc8 (show t < 19 by omega) c 0 _ (by omega) z1 (fun z => ?_)
        rw [gN_aly c 0 (fun k hk => by rw [Nat.zero_add]; exact ha k hk)]
        refine e_iload_n (p := 92) dX12_find_91 rfl rfl ?_
        refine e_if_eq (t := 97) (p := 95) dX12_find_92 (by decide) rfl rfl (fun hc92 => absurd hc92 (by decide)) (fun hc92 => ?_)
        refine e_iload_n (p := 96) dX12_find_95 rfl rfl ?_
        exact e_iretE dX12_find_96 rfl rfl (by decide) ⟨by rw [fdF, if_pos ⟨hv, ha⟩], rfl⟩
      · skip
        refine e_iload_n (p := 3) dX12_find_2 rfl rfl ?_
        refine e_bipush (v := 19) (p := 5) dX12_find_3 (by decide) rfl ?_
        refine e_icmp_ge (t := 103) (p := 8) dX12_find_5 (by decide) rfl rfl (fun hc5 => absurd hc5 (nI_ge (a := t) (b := 19) (by omega) (by omega))) (fun hc5 => ?_)
        refine e_aload_n (p := 9) dX12_find_8 rfl rfl ?_
        refine e_getR (c := 11) (j := 16) (n := 37) (b := 99) (p := 12) dX12_find_9 rfl rfl (by decide) (by decide) rfl (r_95_16 hF) rfl ?_
        refine e_bipush (v := 105) (p := 14) dX12_find_12 (by decide) rfl ?_
        refine e_iload_n (p := 15) dX12_find_14 rfl rfl ?_
        refine e_iadd (p := 16) dX12_find_15 rfl ?_
        rw [ix5]
        refine f_iald (n := 276) (i := (105 + t)) (v := I 99 (105 + t)) (p := 17) dX12_find_16 rfl (by decide) (in_nJ (by omega) (by decide)) (nI_cl (by omega)) rfl rfl ?_
        refine e_if_le (t := 40) (p := 20) dX12_find_17 (by decide) rfl rfl (fun hc17 => absurd hc17 (by rw [hv]; exact nI_ge (a := 0) (b := c) (by omega) (by omega))) (fun hc17 => ?_)
        refine e_aload_n (p := 21) dX12_find_20 rfl rfl ?_
        refine e_getR (c := 11) (j := 16) (n := 37) (b := 99) (p := 24) dX12_find_21 rfl rfl (by decide) (by decide) rfl (r_95_16 hF) rfl ?_
        refine e_bipush (v := 105) (p := 26) dX12_find_24 (by decide) rfl ?_
        refine e_iload_n (p := 27) dX12_find_26 rfl rfl ?_
        refine e_iadd (p := 28) dX12_find_27 rfl ?_
        rw [ix5]
        refine f_iald (n := 276) (i := (105 + t)) (v := I 99 (105 + t)) (p := 29) dX12_find_28 rfl (by decide) (in_nJ (by omega) (by decide)) (nI_cl (by omega)) rfl rfl ?_
        refine e_aload_n (p := 30) dX12_find_29 rfl rfl ?_
        refine f_getI (c := 11) (j := 8) (n := 37) (v := nI c) (p := 33) dX12_find_30 rfl rfl (by decide) (by decide) (Or.inl rfl) hc rfl ?_
        refine e_icmp_ne (t := 40) (p := 36) dX12_find_33 (by decide) rfl rfl (fun hc33 => absurd hv hc33) (fun hc33 => ?_)
        refine e_iconst (v := 1) (p := 37) dX12_find_36 (by decide) rfl ?_
        refine e_goto (p := 41) dX12_find_37 (by decide) rfl ?_
        refine e_istore_n (ls1 := [.ref 95, .int (nI t), .int 1, z3]) (p := 42) dX12_find_41 rfl rfl ?_
        refine e_iconst (v := 0) (p := 43) dX12_find_42 (by decide) rfl ?_
        refine e_istore_n (ls1 := [.ref 95, .int (nI t), .int 1, .int 0]) (p := 44) dX12_find_43 rfl rfl ?_
        refine y_find_I hF hc hc0 hc8 (show t < 19 by omega) c 0 _ (by omega) z1 (fun z => ?_)
        rw [gN_aln c 0 (fun z => ha (fun k hk => by have := z k hk; rw [Nat.zero_add] at this; exact this))]
        refine e_iload_n (p := 92) dX12_find_91 rfl rfl ?_
        refine e_if_eq (t := 97) (p := 95) dX12_find_92 (by decide) rfl rfl (fun hc92 => ?_) (fun hc92 => absurd (by decide) hc92)
        refine e_iinc (ls1 := [.ref 95, .int ((nI t) + 1), .int 0, z]) (p := 100) dX12_find_97 rfl rfl rfl ?_
        refine e_goto (p := 2) dX12_find_100 (by decide) rfl ?_
        rw [nI_1]
        exact Ev.res (by rw [fdF, if_neg (fun z => ha z.2)]) (y_find_L hF hc hc0 hc8 m (t + 1) _ _ (by omega))
    · skip
      refine e_iload_n (p := 3) dX12_find_2 rfl rfl ?_
      refine e_bipush (v := 19) (p := 5) dX12_find_3 (by decide) rfl ?_
      refine e_icmp_ge (t := 103) (p := 8) dX12_find_5 (by decide) rfl rfl (fun hc5 => absurd hc5 (nI_ge (a := t) (b := 19) (by omega) (by omega))) (fun hc5 => ?_)
      refine e_aload_n (p := 9) dX12_find_8 rfl rfl ?_
      refine e_getR (c := 11) (j := 16) (n := 37) (b := 99) (p := 12) dX12_find_9 rfl rfl (by decide) (by decide) rfl (r_95_16 hF) rfl ?_
      refine e_bipush (v := 105) (p := 14) dX12_find_12 (by decide) rfl ?_
      refine e_iload_n (p := 15) dX12_find_14 rfl rfl ?_
      refine e_iadd (p := 16) dX12_find_15 rfl ?_
      rw [ix5]
      refine f_iald (n := 276) (i := (105 + t)) (v := I 99 (105 + t)) (p := 17) dX12_find_16 rfl (by decide) (in_nJ (by omega) (by decide)) (nI_cl (by omega)) rfl rfl ?_
      refine e_if_le (t := 40) (p := 20) dX12_find_17 (by decide) rfl rfl (fun hc17 => ?_) (fun hc17 => ?_)
      · skip
        refine e_iconst (v := 0) (p := 41) dX12_find_40 (by decide) rfl ?_
        refine e_istore_n (ls1 := [.ref 95, .int (nI t), .int 0, z3]) (p := 42) dX12_find_41 rfl rfl ?_
        refine e_iconst (v := 0) (p := 43) dX12_find_42 (by decide) rfl ?_
        refine e_istore_n (ls1 := [.ref 95, .int (nI t), .int 0, .int 0]) (p := 44) dX12_find_43 rfl rfl ?_
        refine y_find_I hF hc hc0 hc8 (show t < 19 by omega) c 0 _ (by omega) z0 (fun z => ?_)
        rw [gN_al0]
        refine e_iload_n (p := 92) dX12_find_91 rfl rfl ?_
        refine e_if_eq (t := 97) (p := 95) dX12_find_92 (by decide) rfl rfl (fun hc92 => ?_) (fun hc92 => absurd (by decide) hc92)
        refine e_iinc (ls1 := [.ref 95, .int ((nI t) + 1), .int 0, z]) (p := 100) dX12_find_97 rfl rfl rfl ?_
        refine e_goto (p := 2) dX12_find_100 (by decide) rfl ?_
        rw [nI_1]
        exact Ev.res (by rw [fdF, if_neg (fun z => hv z.1)]) (y_find_L hF hc hc0 hc8 m (t + 1) _ _ (by omega))
      · skip
        refine e_aload_n (p := 21) dX12_find_20 rfl rfl ?_
        refine e_getR (c := 11) (j := 16) (n := 37) (b := 99) (p := 24) dX12_find_21 rfl rfl (by decide) (by decide) rfl (r_95_16 hF) rfl ?_
        refine e_bipush (v := 105) (p := 26) dX12_find_24 (by decide) rfl ?_
        refine e_iload_n (p := 27) dX12_find_26 rfl rfl ?_
        refine e_iadd (p := 28) dX12_find_27 rfl ?_
        rw [ix5]
        refine f_iald (n := 276) (i := (105 + t)) (v := I 99 (105 + t)) (p := 29) dX12_find_28 rfl (by decide) (in_nJ (by omega) (by decide)) (nI_cl (by omega)) rfl rfl ?_
        refine e_aload_n (p := 30) dX12_find_29 rfl rfl ?_
        refine f_getI (c := 11) (j := 8) (n := 37) (v := nI c) (p := 33) dX12_find_30 rfl rfl (by decide) (by decide) (Or.inl rfl) hc rfl ?_
        refine e_icmp_ne (t := 40) (p := 36) dX12_find_33 (by decide) rfl rfl (fun hc33 => ?_) (fun hc33 => absurd hc33 hv)
        refine e_iconst (v := 0) (p := 41) dX12_find_40 (by decide) rfl ?_
        refine e_istore_n (ls1 := [.ref 95, .int (nI t), .int 0, z3]) (p := 42) dX12_find_41 rfl rfl ?_
        refine e_iconst (v := 0) (p := 43) dX12_find_42 (by decide) rfl ?_
        refine e_istore_n (ls1 := [.ref 95, .int (nI t), .int 0, .int 0]) (p := 44) dX12_find_43 rfl rfl ?_
        refine y_find_I hF hc hc0 hc8 (show t < 19 by omega) c 0 _ (by omega) z0 (fun z => ?_)
        rw [gN_al0]
        refine e_iload_n (p := 92) dX12_find_91 rfl rfl ?_
        refine e_if_eq (t := 97) (p := 95) dX12_find_92 (by decide) rfl rfl (fun hc92 => ?_) (fun hc92 => absurd (by decide) hc92)
        refine e_iinc (ls1 := [.ref 95, .int ((nI t) + 1), .int 0, z]) (p := 100) dX12_find_97 rfl rfl rfl ?_
        refine e_goto (p := 2) dX12_find_100 (by decide) rfl ?_
        rw [nI_1]
        exact Ev.res (by rw [fdF, if_neg (fun z => hv z.1)]) (y_find_L hF hc hc0 hc8 m (t + 1) _ _ (by omega))
set_option maxRecDepth 10000 in
theorem y_find {I : Nat → Nat → Int32} {J : Nat → Nat → Int64} {F : Nat → Nat → Option Nat} {nc ns : Nat} (hF : RFok F) {c : Nat} (hc : I 95 8 = nI c) (hc0 : 0 < c) (hc8 : c ≤ 8)  : Ev 0 mX12_find 0 [.ref 95, .null, .null, .null] [] ((SH, nc, ns), I, J, F) (some (.int (fdF I c 19 0))) ((SH, nc, ns), I, J, F) := by
  refine e_iconst (v := 0) (p := 1) dX12_find_0 (by decide) rfl ?_
  refine e_istore_n (ls1 := [.ref 95, .int 0, .null, .null]) (p := 2) dX12_find_1 rfl rfl ?_
  exact y_find_L hF hc hc0 hc8 19 0 _ _ (by omega)
theorem fd_none {I : Nat → Nat → Int32} {c : Nat} : ∀ m t, (∀ s, t ≤ s → s < t + m → ¬ (I 99 (105 + s) = nI c ∧ ∀ k, k < c → inP I s k)) → fdF I c m t = -1
  | 0, _, _ => rfl
  | m + 1, t, h => by
    rw [fdF, if_neg (h t (Nat.le_refl _) (by omega))]
    exact fd_none m (t + 1) (fun s a b => h s (by omega) (by omega))
theorem fd_some {I : Nat → Nat → Int32} {c s : Nat} (hs : I 99 (105 + s) = nI c ∧ ∀ k, k < c → inP I s k) (hu : ∀ t, t < 19 → (I 99 (105 + t) = nI c ∧ ∀ k, k < c → inP I t k) → t = s) : ∀ m t, t ≤ s → s < t + m → t + m ≤ 19 → fdF I c m t = nI s
  | 0, t, a, b, _ => by omega
  | m + 1, t, a, b, d => by
    rw [fdF]
    split
    · rename_i z
      rw [hu t (by omega) z]
    · rename_i z
      by_cases e : t = s
      · subst e
        exact absurd hs z
      · exact fd_some hs hu m (t + 1) (by omega) (by omega) (by omega)
theorem slt_lt {T : Nat → Nat} {S : pZ} (h : nmV T S) {i : Nat} (hi : i < zC S) : slt (zN S i) < 19 := by
  obtain ⟨-, -, -, h4⟩ := h.1 i hi
  unfold slt
  repeat' split
  all_goals omega
theorem fnd_none2 {T : Nat → Nat} {nm : Nat → Nat × Nat × Nat × Nat} {x : Nat} : ∀ m j, fnd T nm x m j = none → ∀ i, j ≤ i → i < j + m → ¬ pkw T (nm i).1 (nm i).2.1 = x
  | 0, j, _, i, h1, h2 => by omega
  | m + 1, j, h, i, h1, h2 => by
    rw [fnd] at h
    split at h
    · cases h
    · rename_i e
      by_cases c : i = j
      · rw [c]
        exact e
      · exact fnd_none2 m (j + 1) h i (by omega) (by omega)
def plM (S : pZ) : Option Nat → Int32
  | none => -1
  | some i => nI (slt (zN S i))
theorem fd_zK {T : Nat → Nat} {n : Nat} {S : pZ} {I : Nat → Nat → Int32} (hm : tM T n (zP S) I) (hc : cM T S I) (hk : tK T n (zP S) = 1) : fdF I (rn isLt T n (tS T n (zP S)) - tS T n (zP S)) 19 0 = plM S (zK T n S) := by
  obtain ⟨k1, k2, k3, k4⟩ := tK1 hk
  obtain ⟨l1, l2⟩ := hm.2.2.1.2.2.2.1 hk
  obtain ⟨-, ⟨m1, m2⟩, hV⟩ := hc
  -- what fits a place is a name of that word
  have key : ∀ t, t < 19 → (I 99 (105 + t) = nI (rn isLt T n (tS T n (zP S)) - tS T n (zP S)) ∧ ∀ k, k < rn isLt T n (tS T n (zP S)) - tS T n (zP S) → inP I t k) → ∃ i, i < zC S ∧ slt (zN S i) = t ∧ pkw T (zN S i).1 (zN S i).2.1 = tW T n (zP S) := by
    rintro t ht ⟨e1, e2⟩
    by_cases c : ∃ i, i < zC S ∧ slt (zN S i) = t
    · obtain ⟨i, hi, rfl⟩ := c
      refine ⟨i, hi, rfl, ?_⟩
      obtain ⟨v1, v2, v3, -⟩ := hV.1 i hi
      obtain ⟨w1, w2⟩ := m1 i hi
      have el : (zN S i).2.1 - (zN S i).1 = rn isLt T n (tS T n (zP S)) - tS T n (zP S) := nI_ij (by omega) (by omega) (w1.symm.trans e1)
      show pwF T ((zN S i).2.1 - (zN S i).1) (zN S i).1 0 = pwF T (rn isLt T n (tS T n (zP S)) - tS T n (zP S)) (tS T n (zP S)) 0
      rw [el]
      refine pw_eq _ _ _ _ (fun k hk => ?_)
      have a := w2 k (by omega)
      have b := e2 k hk
      unfold inP at b
      rw [a, l2 k hk] at b
      have p1 := v3 k (by omega)
      have p2 := k3 k hk
      simp [isLt] at p1 p2
      exact nI_ij (by omega) (by omega) b
    · have := m2 t ht (fun i hi z => c ⟨i, hi, z⟩)
      rw [this] at e1
      have := nI_ij (a := 0) (by omega) (by omega) e1
      omega
  cases hK : zK T n S with
  | none =>
    refine fd_none 19 0 (fun s a b z => ?_)
    obtain ⟨i, hi, -, e⟩ := key s (by omega) z
    exact fnd_none2 _ _ hK i (by omega) (by omega) e
  | some i =>
    obtain ⟨-, hi, e⟩ := fnd_lt _ _ _ hK
    rw [Nat.zero_add] at hi
    have hs := slt_lt hV hi
    obtain ⟨v1, v2, v3, -⟩ := hV.1 i hi
    obtain ⟨w1, w2⟩ := m1 i hi
    obtain ⟨q1, q2⟩ := pw_inj (T := T) (U := T) (a := (zN S i).1) (b := tS T n (zP S)) _ _ v3 k3 e
    refine fd_some ⟨by rw [w1, q1], fun k hk => ?_⟩ (fun t ht z => ?_) 19 0 (by omega) (by omega) (by omega)
    · show I 99 (124 + 8 * slt (zN S i) + k) = I 97 k
      rw [w2 k (by omega), l2 k hk, q2 k (by omega)]
    · obtain ⟨j, hj, r1, r2⟩ := key t ht z
      by_cases c : j = i
      · rw [← r1, c]
      · exact absurd (r2.trans e.symm) (hV.2 j i hj hi c)
