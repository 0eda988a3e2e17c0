/-! The reference takes words and numbers. -/
def tM (T : Nat → Nat) (n p : Nat) (I : Nat → Nat → Int32) : Prop := txM T n I ∧ p ≤ n ∧ rkM T n p I ∧ I 95 13 = 0 ∧ I 95 9 = 0 ∧ I 95 10 = nI (T 1000)
def wrI (I : Nat → Nat → Int32) (k : Int32) (p : Nat) : Nat → Nat → Int32 := hp_u (hp_u (hp_u I 95 13 1) 95 9 k) 95 10 (nI p)
def FrT (I I' : Nat → Nat → Int32) : Prop := (∀ k, k ≠ 95 → k ≠ 97 → I' k = I k) ∧ ∀ j, (j < 4 ∨ 10 < j) → j ≠ 13 → I' 95 j = I 95 j
def mF (T : Nat → Nat) (n : Nat) (S : pZ) (I : Nat → Nat → Int32) : Prop := I 95 13 = 1 ∧ I 95 9 = nI (zF S) ∧ I 95 10 = nI (tS T n (zP S))
section
variable {I I' I'' : Nat → Nat → Int32} {T : Nat → Nat} {n p : Nat} {S : pZ}
theorem FrT.rf : FrT I I := ⟨fun _ _ _ => rfl, fun _ _ _ => rfl⟩
theorem FrT.tr (h : FrT I I') (h2 : FrT I' I'') : FrT I I'' := ⟨fun k a b => (h2.1 k a b).trans (h.1 k a b), fun j a b => (h2.2 j a b).trans (h.2 j a b)⟩
theorem FrT.fm (h : Fm 97 98 4 9 I I') : FrT I I' := ⟨fun k a b => h.1 k a (by omega), fun j a _ => h.2 j (by omega)⟩
theorem FrT.wr {k : Int32} : FrT I (wrI I k p) := by
  unfold wrI
  exact ⟨fun k a _ => by rw [hu_ne a, hu_ne a, hu_ne a], fun j a b => by rw [hu_nj (by omega), hu_nj (by omega), hu_nj b]⟩
theorem mF.wr {k : Nat} (e : S = pFl k S) (hp : zP S = p) : mF T n S (wrI I (nI k) (tS T n p)) := by
  unfold wrI
  refine ⟨by rw [hu_nj (by decide), hu_nj (by decide), hu_eq], ?_, ?_⟩
  · rw [hu_nj (by decide), hu_eq, e]
    rfl
  · rw [hu_eq, hp]
theorem tM.nx (h : tM T n p I) (f : Fm 97 98 4 9 I I') (r : rkM T n (tE T n p) I') : tM T n (tE T n p) I' := ⟨h.1.f f, (tE_le h.2.1).1, r, (f.2 13 (by omega)).trans h.2.2.2.1, (f.2 9 (by omega)).trans h.2.2.2.2.1, (f.2 10 (by omega)).trans h.2.2.2.2.2⟩
end
def RmP (nc ns : Nat) (T : Nat → Nat) (n : Nat) (I : Nat → Nat → Int32) (J : Nat → Nat → Int64) (F : Nat → Nat → Option Nat) (S' : pZ) (v0 v1 : Option Value) : Option Value → hp_H → Prop := fun r h' => ∃ I', h' = ((SH, nc, ns), I', J, F) ∧ FrT I I' ∧ ((zF S' = 0 ∧ r = v1 ∧ tM T n (zP S') I') ∨ (¬ zF S' = 0 ∧ r = v0 ∧ mF T n S' I'))
theorem tk_ne {k : Nat} (h : ¬ k = 1) : ¬ tkM k = 2 := by
  unfold tkM
  repeat' split
  all_goals first | omega | decide
theorem tk_n3 {k : Nat} (h : ¬ k = 2) : ¬ tkM k = 3 := by
  unfold tkM
  repeat' split
  all_goals first | omega | decide
theorem nI_ij {a b : Nat} (ha : a < 1000) (hb : b < 1000) (h : nI a = nI b) : a = b := by
  have := congrArg Int32.toNatClampNeg h
  rwa [nI_cl ha, nI_cl hb] at this
set_option maxRecDepth 10000 in
theorem y_wrong_f {I : Nat → Nat → Int32} {J : Nat → Nat → Int64} {F : Nat → Nat → Option Nat} {nc ns : Nat} (hF : RFok F) (hf : I 95 13 = 1) {a b : Int32}  : Ev 0 mX12_wrong 0 [.ref 95, .int a, .int b] [] ((SH, nc, ns), I, J, F) (none) ((SH, nc, ns), I, J, F) := by
  refine e_aload_n (p := 1) dX12_wrong_0 rfl rfl ?_
  refine f_getI (c := 11) (j := 13) (n := 37) (v := 1) (p := 4) dX12_wrong_1 rfl rfl (by decide) (by decide) (Or.inr rfl) hf rfl ?_
  refine e_if_eq (t := 8) (p := 7) dX12_wrong_4 (by decide) rfl rfl (fun hc4 => absurd hc4 (by decide)) (fun hc4 => ?_)
  exact e_vretE dX12_wrong_7 rfl rfl
set_option maxRecDepth 10000 in
theorem y_wrong {I : Nat → Nat → Int32} {J : Nat → Nat → Int64} {F : Nat → Nat → Option Nat} {nc ns : Nat} (hF : RFok F) (hf : I 95 13 = 0) {a : Int32} {b : Nat}  : Ev 0 mX12_wrong 0 [.ref 95, .int a, .int (nI b)] [] ((SH, nc, ns), I, J, F) (none) ((SH, nc, ns), wrI I a b, J, F) := by
  refine e_aload_n (p := 1) dX12_wrong_0 rfl rfl ?_
  refine f_getI (c := 11) (j := 13) (n := 37) (v := 0) (p := 4) dX12_wrong_1 rfl rfl (by decide) (by decide) (Or.inr rfl) hf rfl ?_
  refine e_if_eq (t := 8) (p := 7) dX12_wrong_4 (by decide) rfl rfl (fun hc4 => ?_) (fun hc4 => absurd (by decide) hc4)
  refine e_aload_n (p := 9) dX12_wrong_8 rfl rfl ?_
  refine e_iconst (v := 1) (p := 10) dX12_wrong_9 (by decide) rfl ?_
  refine e_putZ (c := 11) (j := 13) (n := 37)  (p := 13) dX12_wrong_10 rfl rfl (by decide) (by decide) rfl rfl ⟨rfl, rfl⟩ rfl ?_
  refine e_aload_n (p := 14) dX12_wrong_13 rfl rfl ?_
  refine e_iload_n (p := 15) dX12_wrong_14 rfl rfl ?_
  refine e_putI (c := 11) (j := 9) (n := 37)  (p := 18) dX12_wrong_15 rfl rfl (by decide) (by decide) rfl rfl rfl ?_
  refine e_aload_n (p := 19) dX12_wrong_18 rfl rfl ?_
  refine e_iload_n (p := 20) dX12_wrong_19 rfl rfl ?_
  refine e_putI (c := 11) (j := 10) (n := 37)  (p := 23) dX12_wrong_20 rfl rfl (by decide) (by decide) rfl rfl rfl ?_
  exact e_vretE dX12_wrong_23 rfl rfl
theorem wr13 {I : Nat → Nat → Int32} {k : Int32} {p : Nat} : wrI I k p 95 13 = 1 := by
  unfold wrI
  rw [hu_nj (by decide), hu_nj (by decide), hu_eq]
set_option maxRecDepth 10000 in
theorem y_isWord_f {I : Nat → Nat → Int32} {J : Nat → Nat → Int64} {F : Nat → Nat → Option Nat} {nc ns : Nat} (hF : RFok F) (hf : I 95 13 = 1) {j : Nat}  : Ev 2 mX12_isWord 0 [.ref 95, .ref (sp_S + j), .null, .null] [] ((SH, nc, ns), I, J, F) (some (.int 0)) ((SH, nc, ns), I, J, F) := by
  refine e_aload_n (p := 1) dX12_isWord_0 rfl rfl ?_
  refine f_getI (c := 11) (j := 13) (n := 37) (v := 1) (p := 4) dX12_isWord_1 rfl rfl (by decide) (by decide) (Or.inr rfl) hf rfl ?_
  refine e_if_ne (t := 26) (p := 7) dX12_isWord_4 (by decide) rfl rfl (fun hc4 => ?_) (fun hc4 => absurd hc4 (by decide))
  refine e_iconst (v := 0) (p := 27) dX12_isWord_26 (by decide) rfl ?_
  exact e_iretE dX12_isWord_27 rfl (by decide) (by decide) ⟨rfl, rfl⟩
set_option maxRecDepth 10000 in
theorem y_isWord_L {I : Nat → Nat → Int32} {J : Nat → Nat → Int64} {F : Nat → Nat → Option Nat} {nc ns : Nat} {T : Nat → Nat} {n p : Nat} (hF : RFok F) (hm : tM T n p I) {j : Nat} (hj : j < 27) (hj2 : 2 ≤ j) (hk : tK T n p = 1) (hl : (rn isLt T n (tS T n p) - tS T n p) = (ev_sb j).length) : ∀ (m i : Nat) (a : Int32), i + m = (rn isLt T n (tS T n p) - tS T n p) → (a = 0 ∨ a = 1) → Ev 2 mX12_isWord 32 [.ref 95, .ref (sp_S + j), .int a, .int (nI i)] [] ((SH, nc, ns), I, J, F) (some (.int (gN (wdB T (tS T n p) j) i m a))) ((SH, nc, ns), I, J, F)
  | 0, i, a, hi, h01 => by
    have h8 := (tK1 hk).2.1
    refine e_iload_n (p := 33) dX12_isWord_32 rfl rfl ?_
    refine e_aload_n (p := 34) dX12_isWord_33 rfl rfl ?_
    refine f_getI (c := 11) (j := 8) (n := 37) (v := nI (rn isLt T n (tS T n p) - tS T n p)) (p := 37) dX12_isWord_34 rfl rfl (by decide) (by decide) (Or.inl rfl) (hm.2.2.1.2.2.2.1 hk).1 rfl ?_
    refine e_icmp_ge (t := 70) (p := 40) dX12_isWord_37 (by decide) rfl rfl (fun hc37 => ?_) (fun hc37 => absurd (nI_le (a := (rn isLt T n (tS T n p) - tS T n p)) (b := i) (by omega) (by omega)) hc37)
    refine e_iload_n (p := 71) dX12_isWord_70 rfl rfl ?_
    exact e_iretE dX12_isWord_71 rfl (nzb h01) (by decide) ⟨rfl, rfl⟩
  | m + 1, i, a, hi, h01 => by
    have h8 := (tK1 hk).2.1
    rcases h01 with rfl | rfl
    · skip
      refine e_iload_n (p := 33) dX12_isWord_32 rfl rfl ?_
      refine e_aload_n (p := 34) dX12_isWord_33 rfl rfl ?_
      refine f_getI (c := 11) (j := 8) (n := 37) (v := nI (rn isLt T n (tS T n p) - tS T n p)) (p := 37) dX12_isWord_34 rfl rfl (by decide) (by decide) (Or.inl rfl) (hm.2.2.1.2.2.2.1 hk).1 rfl ?_
      refine e_icmp_ge (t := 70) (p := 40) dX12_isWord_37 (by decide) rfl rfl (fun hc37 => absurd hc37 (nI_ge (a := i) (b := (rn isLt T n (tS T n p) - tS T n p)) (by omega) (by omega))) (fun hc37 => ?_)
      refine e_iload_n (p := 41) dX12_isWord_40 rfl rfl ?_
      refine e_if_eq (t := 62) (p := 44) dX12_isWord_41 (by decide) rfl rfl (fun hc41 => ?_) (fun hc41 => absurd (by decide) hc41)
      refine e_iconst (v := 0) (p := 63) dX12_isWord_62 (by decide) rfl ?_
      refine e_istore_n (ls1 := [.ref 95, .ref (sp_S + j), .int 0, .int (nI i)]) (p := 64) dX12_isWord_63 rfl rfl ?_
      refine e_iinc (ls1 := [.ref 95, .ref (sp_S + j), .int 0, .int ((nI i) + 1)]) (p := 67) dX12_isWord_64 rfl rfl rfl ?_
      refine e_goto (p := 32) dX12_isWord_67 (by decide) rfl ?_
      rw [nI_1]
      exact Ev.res (by rw [gN_s, wdB, if_pos rfl]) (y_isWord_L hF hm hj hj2 hk hl m (i + 1) _ (by omega) z0)
    · skip
      refine e_iload_n (p := 33) dX12_isWord_32 rfl rfl ?_
      refine e_aload_n (p := 34) dX12_isWord_33 rfl rfl ?_
      refine f_getI (c := 11) (j := 8) (n := 37) (v := nI (rn isLt T n (tS T n p) - tS T n p)) (p := 37) dX12_isWord_34 rfl rfl (by decide) (by decide) (Or.inl rfl) (hm.2.2.1.2.2.2.1 hk).1 rfl ?_
      refine e_icmp_ge (t := 70) (p := 40) dX12_isWord_37 (by decide) rfl rfl (fun hc37 => absurd hc37 (nI_ge (a := i) (b := (rn isLt T n (tS T n p) - tS T n p)) (by omega) (by omega))) (fun hc37 => ?_)
      refine e_iload_n (p := 41) dX12_isWord_40 rfl rfl ?_
      refine e_if_eq (t := 62) (p := 44) dX12_isWord_41 (by decide) rfl rfl (fun hc41 => absurd hc41 (by decide)) (fun hc41 => ?_)
      refine e_aload_n (p := 45) dX12_isWord_44 rfl rfl ?_
      refine e_getR (c := 11) (j := 12) (n := 37) (b := 97) (p := 48) dX12_isWord_45 rfl rfl (by decide) (by decide) rfl (r_95_12 hF) rfl ?_
      refine e_iload_n (p := 49) dX12_isWord_48 rfl rfl ?_
      refine f_iald (n := 8) (i := i) (v := nI (T (tS T n p + i))) (p := 50) dX12_isWord_49 rfl (by decide) (in_nJ (by omega) (by decide)) (nI_cl (by omega)) ((hm.2.2.1.2.2.2.1 hk).2 i (by omega)) rfl ?_
      refine e_aload_n (p := 51) dX12_isWord_50 rfl rfl ?_
      refine e_iload_n (p := 52) dX12_isWord_51 rfl rfl ?_
      refine e_callV_int (p := 55) (k' := 1) (a := [.ref (sp_S + j), .int (nI i)]) (rr := [.int (nI (T (tS T n p + i)))]) dX12_isWord_52 rfl rfl rfl rfl (rc_str rfl rfl hj) (Nat.le_of_ble_eq_true rfl) (Nat.le_of_ble_eq_true rfl) (by decide) (y_char hj (by omega)) (Or.inl rfl) rfl ?_
      refine e_icmp_ne (t := 62) (p := 58) dX12_isWord_55 (by decide) rfl rfl (fun hc55 => ?_) (fun hc55 => ?_)
      · skip
        refine e_iconst (v := 0) (p := 63) dX12_isWord_62 (by decide) rfl ?_
        refine e_istore_n (ls1 := [.ref 95, .ref (sp_S + j), .int 0, .int (nI i)]) (p := 64) dX12_isWord_63 rfl rfl ?_
        refine e_iinc (ls1 := [.ref 95, .ref (sp_S + j), .int 0, .int ((nI i) + 1)]) (p := 67) dX12_isWord_64 rfl rfl rfl ?_
        refine e_goto (p := 32) dX12_isWord_67 (by decide) rfl ?_
        rw [nI_1]
        exact Ev.res (by rw [gN_s, wdB, if_neg (by decide), if_neg hc55]) (y_isWord_L hF hm hj hj2 hk hl m (i + 1) _ (by omega) z0)
      · skip
        refine e_iconst (v := 1) (p := 59) dX12_isWord_58 (by decide) rfl ?_
        refine e_goto (p := 63) dX12_isWord_59 (by decide) rfl ?_
        refine e_istore_n (ls1 := [.ref 95, .ref (sp_S + j), .int 1, .int (nI i)]) (p := 64) dX12_isWord_63 rfl rfl ?_
        refine e_iinc (ls1 := [.ref 95, .ref (sp_S + j), .int 1, .int ((nI i) + 1)]) (p := 67) dX12_isWord_64 rfl rfl rfl ?_
        refine e_goto (p := 32) dX12_isWord_67 (by decide) rfl ?_
        rw [nI_1]
        exact Ev.res (by rw [gN_s, wdB, if_neg (by decide), if_pos hc55]) (y_isWord_L hF hm hj hj2 hk hl m (i + 1) _ (by omega) z1)
theorem wd_fin {T : Nat → Nat} {n p j : Nat} {I : Nat → Nat → Int32} (hj : j < 27) (hj2 : 2 ≤ j) (hk : tK T n p = 1) (hl : (rn isLt T n (tS T n p) - tS T n p) = (ev_sb j).length) (ht : txM T n I) : (if ∀ k, k < (rn isLt T n (tS T n p) - tS T n p) → nI (T (tS T n p + (0 + k))) = nI (chU j (0 + k)) then (1 : Int32) else 0) = if tQ T n p = nI (kwS j) then 1 else 0 := by
  have h1 := tK1 hk
  have hU : ∀ i, i < (ev_sb j).length → chU j i < 1000 := fun i hi => by
    have := st_lt j hj hj2 i hi
    rw [Nat.zero_add] at this
    simp [isLt] at this
    omega
  by_cases c : tQ T n p = nI (kwS j)
  · obtain ⟨-, e⟩ := (wd_iff hj hj2 hk).mp c
    rw [if_pos c, if_pos (fun k hk2 => by rw [Nat.zero_add, e k (by omega)])]
  · rw [if_neg c, if_neg (fun z => c ((wd_iff hj hj2 hk).mpr ⟨hl, fun i hi => by
      have e := z i (by omega)
      rw [Nat.zero_add] at e
      have hb : T (tS T n p + i) < 1000 := by
        have := h1.2.2.1 i (by omega)
        simp [isLt] at this
        omega
      exact nI_ij hb (hU i hi) e⟩))]
set_option maxRecDepth 10000 in
theorem y_isWord {I : Nat → Nat → Int32} {J : Nat → Nat → Int64} {F : Nat → Nat → Option Nat} {nc ns : Nat} {T : Nat → Nat} {n p : Nat} (hF : RFok F) (hm : tM T n p I) {j : Nat} (hj : j < 27) (hj2 : 2 ≤ j) : Ev 2 mX12_isWord 0 [.ref 95, .ref (sp_S + j), .null, .null] [] ((SH, nc, ns), I, J, F) (some (.int (if tQ T n p = nI (kwS j) then 1 else 0))) ((SH, nc, ns), I, J, F) := by
  have hlen := (st_kw j hj hj2).2.1
  by_cases hk : tK T n p = 1
  · have h8 := (tK1 hk).2.1
    by_cases hl : (rn isLt T n (tS T n p) - tS T n p) = (ev_sb j).length
    · skip
      refine e_aload_n (p := 1) dX12_isWord_0 rfl rfl ?_
      refine f_getI (c := 11) (j := 13) (n := 37) (v := 0) (p := 4) dX12_isWord_1 rfl rfl (by decide) (by decide) (Or.inr rfl) hm.2.2.2.1 rfl ?_
      refine e_if_ne (t := 26) (p := 7) dX12_isWord_4 (by decide) rfl rfl (fun hc4 => absurd (by decide) hc4) (fun hc4 => ?_)
      refine e_aload_n (p := 8) dX12_isWord_7 rfl rfl ?_
      refine f_getI (c := 11) (j := 6) (n := 37) (v := 2) (p := 11) dX12_isWord_8 rfl rfl (by decide) (by decide) (Or.inl rfl) (hm.2.2.1.2.2.1.trans (by rw [hk]; rfl)) rfl ?_
      refine e_iconst (v := 2) (p := 12) dX12_isWord_11 (by decide) rfl ?_
      refine e_icmp_ne (t := 26) (p := 15) dX12_isWord_12 (by decide) rfl rfl (fun hc12 => absurd (by decide) hc12) (fun hc12 => ?_)
      refine e_aload_n (p := 16) dX12_isWord_15 rfl rfl ?_
      refine f_getI (c := 11) (j := 8) (n := 37) (v := nI (rn isLt T n (tS T n p) - tS T n p)) (p := 19) dX12_isWord_16 rfl rfl (by decide) (by decide) (Or.inl rfl) (hm.2.2.1.2.2.2.1 hk).1 rfl ?_
      refine e_aload_n (p := 20) dX12_isWord_19 rfl rfl ?_
      refine e_callV_int (p := 23) (k' := 1) (a := [.ref (sp_S + j)]) (rr := [.int (nI (rn isLt T n (tS T n p) - tS T n p))]) dX12_isWord_20 rfl rfl rfl rfl (rc_str rfl rfl hj) (Nat.le_of_ble_eq_true rfl) (Nat.le_of_ble_eq_true rfl) (by decide) (y_slen hj) (Or.inl rfl) rfl ?_
      refine e_icmp_eq (t := 28) (p := 26) dX12_isWord_23 (by decide) rfl rfl (fun hc23 => ?_) (fun hc23 => absurd (congrArg nI hl) hc23)
      refine e_iconst (v := 1) (p := 29) dX12_isWord_28 (by decide) rfl ?_
      refine e_istore_n (ls1 := [.ref 95, .ref (sp_S + j), .int 1, .null]) (p := 30) dX12_isWord_29 rfl rfl ?_
      refine e_iconst (v := 0) (p := 31) dX12_isWord_30 (by decide) rfl ?_
      refine e_istore_n (ls1 := [.ref 95, .ref (sp_S + j), .int 1, .int 0]) (p := 32) dX12_isWord_31 rfl rfl ?_
      refine Ev.res ?_ (y_isWord_L hF hm hj hj2 hk hl _ 0 1 (Nat.zero_add _) z1)
      rw [gN_wd]
      exact congrArg (fun z => some (Value.int z)) (wd_fin hj hj2 hk hl hm.1).symm
    · skip
      refine e_aload_n (p := 1) dX12_isWord_0 rfl rfl ?_
      refine f_getI (c := 11) (j := 13) (n := 37) (v := 0) (p := 4) dX12_isWord_1 rfl rfl (by decide) (by decide) (Or.inr rfl) hm.2.2.2.1 rfl ?_
      refine e_if_ne (t := 26) (p := 7) dX12_isWord_4 (by decide) rfl rfl (fun hc4 => absurd (by decide) hc4) (fun hc4 => ?_)
      refine e_aload_n (p := 8) dX12_isWord_7 rfl rfl ?_
      refine f_getI (c := 11) (j := 6) (n := 37) (v := 2) (p := 11) dX12_isWord_8 rfl rfl (by decide) (by decide) (Or.inl rfl) (hm.2.2.1.2.2.1.trans (by rw [hk]; rfl)) rfl ?_
      refine e_iconst (v := 2) (p := 12) dX12_isWord_11 (by decide) rfl ?_
      refine e_icmp_ne (t := 26) (p := 15) dX12_isWord_12 (by decide) rfl rfl (fun hc12 => absurd (by decide) hc12) (fun hc12 => ?_)
      refine e_aload_n (p := 16) dX12_isWord_15 rfl rfl ?_
      refine f_getI (c := 11) (j := 8) (n := 37) (v := nI (rn isLt T n (tS T n p) - tS T n p)) (p := 19) dX12_isWord_16 rfl rfl (by decide) (by decide) (Or.inl rfl) (hm.2.2.1.2.2.2.1 hk).1 rfl ?_
      refine e_aload_n (p := 20) dX12_isWord_19 rfl rfl ?_
      refine e_callV_int (p := 23) (k' := 1) (a := [.ref (sp_S + j)]) (rr := [.int (nI (rn isLt T n (tS T n p) - tS T n p))]) dX12_isWord_20 rfl rfl rfl rfl (rc_str rfl rfl hj) (Nat.le_of_ble_eq_true rfl) (Nat.le_of_ble_eq_true rfl) (by decide) (y_slen hj) (Or.inl rfl) rfl ?_
      refine e_icmp_eq (t := 28) (p := 26) dX12_isWord_23 (by decide) rfl rfl (fun hc23 => absurd hc23 (fun z => hl (nI_ij (by omega) (by omega) z))) (fun hc23 => ?_)
      refine e_iconst (v := 0) (p := 27) dX12_isWord_26 (by decide) rfl ?_
      exact e_iretE dX12_isWord_27 rfl (by decide) (by decide) ⟨by rw [if_neg (fun z => hl ((wd_iff hj hj2 hk).mp z).1)], rfl⟩
  · skip
    refine e_aload_n (p := 1) dX12_isWord_0 rfl rfl ?_
    refine f_getI (c := 11) (j := 13) (n := 37) (v := 0) (p := 4) dX12_isWord_1 rfl rfl (by decide) (by decide) (Or.inr rfl) hm.2.2.2.1 rfl ?_
    refine e_if_ne (t := 26) (p := 7) dX12_isWord_4 (by decide) rfl rfl (fun hc4 => absurd (by decide) hc4) (fun hc4 => ?_)
    refine e_aload_n (p := 8) dX12_isWord_7 rfl rfl ?_
    refine f_getI (c := 11) (j := 6) (n := 37) (v := tkM (tK T n p)) (p := 11) dX12_isWord_8 rfl rfl (by decide) (by decide) (Or.inl rfl) hm.2.2.1.2.2.1 rfl ?_
    refine e_iconst (v := 2) (p := 12) dX12_isWord_11 (by decide) rfl ?_
    refine e_icmp_ne (t := 26) (p := 15) dX12_isWord_12 (by decide) rfl rfl (fun hc12 => ?_) (fun hc12 => absurd hc12 (tk_ne hk))
    refine e_iconst (v := 0) (p := 27) dX12_isWord_26 (by decide) rfl ?_
    exact e_iretE dX12_isWord_27 rfl (by decide) (by decide) ⟨by rw [if_neg (fun z => hk ((tQ_iff (st_kw j hj hj2).2.2).mp z).1)], rfl⟩
