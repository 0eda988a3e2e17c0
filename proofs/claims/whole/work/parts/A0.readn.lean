/-! The class reads: numbers and names. -/
def RdP (nc ns : Nat) (T : Nat → Nat) (n o : Nat) (I : Nat → Nat → Int32) (J : Nat → Nat → Int64) (F : Nat → Nat → Option Nat) (S' : pZ) : Option Value → hp_H → Prop := fun r h' => ∃ I' J', h' = ((SH, nc, ns), I', J', F) ∧ RdF o I I' J J' ∧ ((zF S' = 0 ∧ r = some (.int 1) ∧ cS T n o S' I' J') ∨ (¬ zF S' = 0 ∧ r = some (.int 0) ∧ I' 3 10 = nI (zF S') ∧ I' 3 1 = nI (tS T n (zP S'))))
section
variable {nc ns n o : Nat} {T : Nat → Nat} {I I' : Nat → Nat → Int32} {J J' : Nat → Nat → Int64} {F : Nat → Nat → Option Nat} {S S' X : pZ} {k : Nat}
theorem RdP.no (hE : S' = pFl k X) (hk : k ≠ 0) (rf : RdF o I I' J J') (h10 : I' 3 10 = nI k) (h1 : I' 3 1 = nI (tS T n (zP X))) : RdP nc ns T n o I J F S' (some (.int 0)) ((SH, nc, ns), I', J', F) := by
  subst hE
  exact ⟨I', J', rfl, rf, Or.inr ⟨hk, rfl, h10, h1⟩⟩
theorem RdP.go (hE : S' = X) (hk : ¬ zF X = 0) (rf : RdF o I I' J J') (h10 : I' 3 10 = nI (zF X)) (h1 : I' 3 1 = nI (tS T n (zP X))) : RdP nc ns T n o I J F S' (some (.int 0)) ((SH, nc, ns), I', J', F) := by
  subst hE
  exact ⟨I', J', rfl, rf, Or.inr ⟨hk, rfl, h10, h1⟩⟩
theorem RdP.ok (hE : S' = X) (hz : zF X = 0) (rf : RdF o I I' J J') (hc : cS T n o X I' J') : RdP nc ns T n o I J F S' (some (.int 1)) ((SH, nc, ns), I', J', F) := by
  subst hE
  exact ⟨I', J', rfl, rf, Or.inl ⟨hz, rfl, hc⟩⟩
theorem pB_y {K : pZ → pZ} (h : zF S = 0) : pB S K = K S := if_pos h
theorem pB_n {K : pZ → pZ} (h : ¬ zF S = 0) : pB S K = S := if_neg h
end
theorem nmF_lt {T : Nat → Nat} : ∀ m i x, (∀ j, i ≤ j → j < i + m → isDg (T j) = true) → nmF T m i x < (x + 1) * 10 ^ m
  | 0, i, x, _ => by
    rw [nmF]
    omega
  | m + 1, i, x, h => by
    have h1 := h i (Nat.le_refl i) (by omega)
    have h2 : T i - 48 < 10 := by
      simp [isDg] at h1
      omega
    rw [nmF]
    have := nmF_lt m (i + 1) (x * 10 + (T i - 48)) (fun j a b => h j (by omega) (by omega))
    rw [Nat.pow_succ, Nat.mul_comm (10 ^ m), ← Nat.mul_assoc]
    refine Nat.lt_of_lt_of_le this (Nat.mul_le_mul_right _ ?_)
    omega
theorem tV_lt {T : Nat → Nat} {n p : Nat} (h : tK T n p = 2) : tV T n p < 1000 := by
  by_cases hs : tS T n p < n
  · by_cases hf : isLt (T (tS T n p)) = true
    · rw [(tE_L hs hf).2] at h
      split at h <;> cases h
    · by_cases hg : isDg (T (tS T n p)) = true
      · rw [(tE_D hs hf hg).2] at h
        have h3 : rn isDg T n (tS T n p) - tS T n p ≤ 3 := Decidable.byContradiction fun z => by rw [if_neg z] at h; cases h
        have := nmF_lt (T := T) (rn isDg T n (tS T n p) - tS T n p) (tS T n p) 0 (fun j h1 h2 => (rn_all (n := n) h1 (by omega)).2)
        unfold tV nmN
        refine Nat.lt_of_lt_of_le this ?_
        rw [Nat.zero_add, Nat.one_mul]
        exact Nat.le_trans (Nat.pow_le_pow_right (by omega) h3) (by decide)
      · rw [(tE_O hs hf hg).2] at h
        split at h <;> cases h
  · rw [(tE_E hs).2] at h
    cases h
/-- the value is taken -/
theorem cS.vl {T : Nat → Nat} {n o v : Nat} {S : pZ} {I : Nat → Nat → Int32} {J : Nat → Nat → Int64} (ho : isO o) (h : cS T n o S I J) : cS T n o (pVl v S) (hp_u I 3 15 (nI v)) J := by
  obtain ⟨⟨r1, r2, r3, r4, r5, r6⟩, h2, h3, h4, h5, h6, h7, h8, h9⟩ := h
  have e : ∀ k, k ≠ 3 → hp_u I 3 15 (nI v) k = I k := fun k hk => hu_ne hk
  refine ⟨⟨(hu_nj (by decide)).trans r1, (hu_nj (by decide)).trans r2, (hu_nj (by decide)).trans r3, (hu_nj (by decide)).trans r4, r5, fun z => (hu_nj (by decide)).trans (r6 z)⟩, h2, (hu_nj (by decide)).trans h3, h4, fun i hi => ?_, hu_eq, ?_, ?_, fun j q1 q2 => ?_⟩
  · rw [e 23 (by decide), e 24 (by decide)]
    exact h5 i hi
  · rw [e o (by rcases ho with rfl | rfl <;> decide)]
    exact h7
  · rw [e o (by rcases ho with rfl | rfl <;> decide)]
    exact h8
  · rw [e _ (by rcases ho with rfl | rfl <;> omega)]
    exact h9 j q1 q2
set_option maxRecDepth 10000 in
theorem x_takeNumber {I : Nat → Nat → Int32} {J : Nat → Nat → Int64} {F : Nat → Nat → Option Nat} {nc ns : Nat} {T : Nat → Nat} {n o : Nat} {S : pZ} (ho : isO o) (hF : RFok F) (hdF : F 3 0 = some o) (ht : txC T n I J) (hc : cS T n o S I J) (hz : zF S = 0) {w lo hi : Nat} (hlo : lo < 1000) (hhi : hi < 1000) : Ew 3 mX7_takeNumber 0 [.ref 3, .int (nI w), .int (nI lo), .int (nI hi)] [] ((SH, nc, ns), I, J, F) (RdP nc ns T n o I J F (pTk T n w lo hi S)) := by
  refine we_aload_n (p := 1) dX7_takeNumber_0 rfl rfl ?_
  refine wf_getI (c := 7) (j := 13) (n := 16) (v := tQ T n (zP S)) (p := 4) dX7_takeNumber_1 rfl rfl (by decide) (by decide) (Or.inl rfl) hc.1.2.2.2.1 rfl ?_
  refine we_iload_n (p := 5) dX7_takeNumber_4 rfl rfl ?_
  refine we_icmp_eq (t := 14) (p := 8) dX7_takeNumber_5 (by decide) rfl rfl (fun hc5 => ?_) (fun hc5 => ?_)
  · skip
    refine we_aload_n (p := 15) dX7_takeNumber_14 rfl rfl ?_
    obtain ⟨_, _, e1, rfl, I1, J1, F1, rfl, ⟨rfl, a1, r1⟩⟩ := x_advance (I := I) hF ht (tE_le hc.2.1).1 hc.1.1
    refine we_callV_v (p := 18) (k' := 2) (a := [.ref 3]) (rr := []) dX7_takeNumber_15 rfl rfl rfl rfl (rc_of rfl rfl (by decide) ⟨rfl, by decide⟩) (Nat.le_of_ble_eq_true rfl) (Nat.le_of_ble_eq_true rfl) (by decide) e1 (Or.inl rfl) rfl ?_
    refine we_aload_n (p := 19) dX7_takeNumber_18 rfl rfl ?_
    refine wf_getI (c := 7) (j := 11) (n := 16) (v := nI (tK T n (zP (pAv T n S)))) (p := 22) dX7_takeNumber_19 rfl rfl (by decide) (by decide) (Or.inl rfl) (hc.av ho a1 r1).1.2.2.1 rfl ?_
    refine we_iconst (v := 2) (p := 23) dX7_takeNumber_22 (by decide) rfl ?_
    refine we_icmp_eq (t := 32) (p := 26) dX7_takeNumber_23 (by decide) rfl rfl (fun hc23 => ?_) (fun hc23 => ?_)
    · skip
      refine we_aload_n (p := 33) dX7_takeNumber_32 rfl rfl ?_
      refine wf_getI (c := 7) (j := 14) (n := 16) (v := nI (tV T n (zP (pAv T n S)))) (p := 36) dX7_takeNumber_33 rfl rfl (by decide) (by decide) (Or.inl rfl) ((hc.av ho a1 r1).1.2.2.2.2.2 ((tK_eq (k := 2) (by omega)).mp hc23)) rfl ?_
      refine we_iload_n (p := 37) dX7_takeNumber_36 rfl rfl ?_
      refine we_icmp_lt (t := 48) (p := 40) dX7_takeNumber_37 (by decide) rfl rfl (fun hc37 => ?_) (fun hc37 => ?_)
      · skip
        refine we_aload_n (p := 49) dX7_takeNumber_48 rfl rfl ?_
        refine we_iconst (v := 4) (p := 50) dX7_takeNumber_49 (by decide) rfl ?_
        refine we_callV_int (p := 53) (k' := 0) (a := [.ref 3, .int 4]) (rr := []) dX7_takeNumber_50 rfl rfl rfl rfl (rc_of rfl rfl (by decide) ⟨rfl, by decide⟩) (Nat.le_of_ble_eq_true rfl) (Nat.le_of_ble_eq_true rfl) (by decide) x_fails (Or.inl rfl) rfl ?_
        exact wi_ret dX7_takeNumber_53 rfl (by decide) (by decide) (RdP.no (X := (pAv T n S)) (k := 4) (by
      have q2 : tK T n (tE T n (zP S)) = 2 := (tK_eq (k := 2) (by omega)).mp hc23
      have hv := tV_lt q2
      have q3 : ¬ (lo ≤ tV T n (tE T n (zP S)) ∧ tV T n (tE T n (zP S)) ≤ hi) := fun z => absurd hc37 (nI_nlt (a := tV T n (tE T n (zP S))) (b := lo) z.1 (by omega))
      simp only [pTk, hc5, q2, q3, ↓reduceIte]) (by decide) ((RdF.rf.tr a1.r).u3 (by decide)) hu_eq ((hu_nj (by decide)).trans (hc.av ho a1 r1).1.2.1))
      · skip
        refine we_aload_n (p := 41) dX7_takeNumber_40 rfl rfl ?_
        refine wf_getI (c := 7) (j := 14) (n := 16) (v := nI (tV T n (zP (pAv T n S)))) (p := 44) dX7_takeNumber_41 rfl rfl (by decide) (by decide) (Or.inl rfl) ((hc.av ho a1 r1).1.2.2.2.2.2 ((tK_eq (k := 2) (by omega)).mp hc23)) rfl ?_
        refine we_iload_n (p := 45) dX7_takeNumber_44 rfl rfl ?_
        refine we_icmp_le (t := 54) (p := 48) dX7_takeNumber_45 (by decide) rfl rfl (fun hc45 => ?_) (fun hc45 => ?_)
        · skip
          refine we_aload_n (p := 55) dX7_takeNumber_54 rfl rfl ?_
          refine we_aload_n (p := 56) dX7_takeNumber_55 rfl rfl ?_
          refine wf_getI (c := 7) (j := 14) (n := 16) (v := nI (tV T n (zP (pAv T n S)))) (p := 59) dX7_takeNumber_56 rfl rfl (by decide) (by decide) (Or.inl rfl) ((hc.av ho a1 r1).1.2.2.2.2.2 ((tK_eq (k := 2) (by omega)).mp hc23)) rfl ?_
          refine we_putI (c := 7) (j := 15) (n := 16)  (p := 62) dX7_takeNumber_59 rfl rfl (by decide) (by decide) rfl rfl rfl ?_
          refine we_aload_n (p := 63) dX7_takeNumber_62 rfl rfl ?_
          obtain ⟨_, _, e2, rfl, I2, J2, F2, rfl, ⟨rfl, a2, r2⟩⟩ := x_advance (I := (hp_u I1 3 15 (nI (tV T n (zP (pAv T n S)))))) hF ((ht.av a1).rd ho (RdF.rf.u3 (by decide))) (tE_le ((hc.av ho a1 r1).vl (v := tV T n (tE T n (zP S))) ho).2.1).1 ((hc.av ho a1 r1).vl (v := tV T n (tE T n (zP S))) ho).1.1
          refine we_callV_v (p := 66) (k' := 2) (a := [.ref 3]) (rr := []) dX7_takeNumber_63 rfl rfl rfl rfl (rc_of rfl rfl (by decide) ⟨rfl, by decide⟩) (Nat.le_of_ble_eq_true rfl) (Nat.le_of_ble_eq_true rfl) (by decide) e2 (Or.inl rfl) rfl ?_
          refine we_iconst (v := 1) (p := 67) dX7_takeNumber_66 (by decide) rfl ?_
          exact wi_ret dX7_takeNumber_67 rfl (by decide) (by decide) (RdP.ok (X := (pAv T n (pVl (tV T n (tE T n (zP S))) (pAv T n S)))) (by
      have q2 : tK T n (tE T n (zP S)) = 2 := (tK_eq (k := 2) (by omega)).mp hc23
      have hv := tV_lt q2
      have q3 : lo ≤ tV T n (tE T n (zP S)) ∧ tV T n (tE T n (zP S)) ≤ hi := ⟨Nat.le_of_not_lt (fun z => hc37 (nI_lt (a := tV T n (tE T n (zP S))) (b := lo) z (by omega))), Nat.le_of_not_lt (fun z => absurd hc45 (Int32.not_le.mpr (nI_lt (a := hi) (b := tV T n (tE T n (zP S))) z (by omega))))⟩
      simp only [pTk, hc5, q2, q3, and_self, ↓reduceIte]
      rfl) hz (((RdF.rf.tr a1.r).u3 (by decide)).tr a2.r) (((hc.av ho a1 r1).vl (v := tV T n (tE T n (zP S))) ho).av ho a2 r2))
        · skip
          refine we_aload_n (p := 49) dX7_takeNumber_48 rfl rfl ?_
          refine we_iconst (v := 4) (p := 50) dX7_takeNumber_49 (by decide) rfl ?_
          refine we_callV_int (p := 53) (k' := 0) (a := [.ref 3, .int 4]) (rr := []) dX7_takeNumber_50 rfl rfl rfl rfl (rc_of rfl rfl (by decide) ⟨rfl, by decide⟩) (Nat.le_of_ble_eq_true rfl) (Nat.le_of_ble_eq_true rfl) (by decide) x_fails (Or.inl rfl) rfl ?_
          exact wi_ret dX7_takeNumber_53 rfl (by decide) (by decide) (RdP.no (X := (pAv T n S)) (k := 4) (by
      have q2 : tK T n (tE T n (zP S)) = 2 := (tK_eq (k := 2) (by omega)).mp hc23
      have hv := tV_lt q2
      have q3 : ¬ (lo ≤ tV T n (tE T n (zP S)) ∧ tV T n (tE T n (zP S)) ≤ hi) := fun z => hc45 (nI_le (a := tV T n (tE T n (zP S))) (b := hi) z.2 (by omega))
      simp only [pTk, hc5, q2, q3, ↓reduceIte]) (by decide) ((RdF.rf.tr a1.r).u3 (by decide)) hu_eq ((hu_nj (by decide)).trans (hc.av ho a1 r1).1.2.1))
    · skip
      refine we_aload_n (p := 27) dX7_takeNumber_26 rfl rfl ?_
      refine we_iconst (v := 1) (p := 28) dX7_takeNumber_27 (by decide) rfl ?_
      refine we_callV_int (p := 31) (k' := 0) (a := [.ref 3, .int 1]) (rr := []) dX7_takeNumber_28 rfl rfl rfl rfl (rc_of rfl rfl (by decide) ⟨rfl, by decide⟩) (Nat.le_of_ble_eq_true rfl) (Nat.le_of_ble_eq_true rfl) (by decide) x_fails (Or.inl rfl) rfl ?_
      exact wi_ret dX7_takeNumber_31 rfl (by decide) (by decide) (RdP.no (X := (pAv T n S)) (k := 1) (by
      have q2 : ¬ tK T n (tE T n (zP S)) = 2 := fun z => hc23 ((tK_eq (k := 2) (by omega)).mpr z)
      simp only [pTk, hc5, q2, ↓reduceIte]) (by decide) ((RdF.rf.tr a1.r).u3 (by decide)) hu_eq ((hu_nj (by decide)).trans (hc.av ho a1 r1).1.2.1))
  · skip
    refine we_aload_n (p := 9) dX7_takeNumber_8 rfl rfl ?_
    refine we_iconst (v := 1) (p := 10) dX7_takeNumber_9 (by decide) rfl ?_
    refine we_callV_int (p := 13) (k' := 0) (a := [.ref 3, .int 1]) (rr := []) dX7_takeNumber_10 rfl rfl rfl rfl (rc_of rfl rfl (by decide) ⟨rfl, by decide⟩) (Nat.le_of_ble_eq_true rfl) (Nat.le_of_ble_eq_true rfl) (by decide) x_fails (Or.inl rfl) rfl ?_
    exact wi_ret dX7_takeNumber_13 rfl (by decide) (by decide) (RdP.no (X := S) (k := 1) (by simp only [pTk, hc5, ↓reduceIte]) (by decide) (RdF.rf.u3 (by decide)) hu_eq ((hu_nj (by decide)).trans hc.1.2.1))
theorem cS.ad {T : Nat → Nat} {n o so row : Nat} {S : pZ} {I : Nat → Nat → Int32} {J : Nat → Nat → Int64} (ho : isO o) (h : cS T n o S I J) (hk : tK T n (zP S) = 1) (h19 : zC S < 19) (hr : row < 8) (hs : so < 8) (h0 : so = 0 → row < 6) : cS T n o (pAd T n so row S) (hp_u (hp_u (hp_u I 23 (zC S) (nI so)) 24 (zC S) (nI row)) 3 7 (nI (zC S) + 1)) (hp_u J 22 (zC S) (lN (tW T n (zP S)))) := by
  obtain ⟨⟨r1, r2, r3, r4, r5, r6⟩, h2, h3, ⟨h41, h42⟩, h5, h6, h7, h8, h9⟩ := h
  have e3 : ∀ j, j ≠ 7 → hp_u (hp_u (hp_u I 23 (zC S) (nI so)) 24 (zC S) (nI row)) 3 7 (nI (zC S) + 1) 3 j = I 3 j := fun j hj => by rw [hu_nj hj, hu_ne (by decide), hu_ne (by decide)]
  have ek : ∀ k, k ≠ 3 → k ≠ 23 → k ≠ 24 → hp_u (hp_u (hp_u I 23 (zC S) (nI so)) 24 (zC S) (nI row)) 3 7 (nI (zC S) + 1) k = I k := fun k a b c => by rw [hu_ne a, hu_ne c, hu_ne b]
  refine ⟨⟨(e3 9 (by decide)).trans r1, (e3 1 (by decide)).trans r2, (e3 11 (by decide)).trans r3, (e3 13 (by decide)).trans r4, fun z => ?_, fun z => (e3 14 (by decide)).trans (r6 z)⟩, h2, ?_, ⟨?_, fun i hi => ?_⟩, fun i hi => ?_, (e3 15 (by decide)).trans h6, ?_, ?_, fun j q1 q2 => ?_⟩
  · rw [hu_ne (by decide)]
    exact r5 z
  · rw [hu_eq]
    exact nI_1 _
  · show zC S + 1 ≤ 19
    omega
  · show (if i = zC S then (tS T n (zP S), rn isLt T n (tS T n (zP S)), so, row) else zN S i).2.2.2 < 8 ∧ ((if i = zC S then (tS T n (zP S), rn isLt T n (tS T n (zP S)), so, row) else zN S i).2.2.1 = 0 → (if i = zC S then (tS T n (zP S), rn isLt T n (tS T n (zP S)), so, row) else zN S i).2.2.2 < 6) ∧ (if i = zC S then (tS T n (zP S), rn isLt T n (tS T n (zP S)), so, row) else zN S i).2.2.1 < 8 ∧ pkw T (if i = zC S then (tS T n (zP S), rn isLt T n (tS T n (zP S)), so, row) else zN S i).1 (if i = zC S then (tS T n (zP S), rn isLt T n (tS T n (zP S)), so, row) else zN S i).2.1 < 2 ^ 40
    have hi : i < zC S + 1 := hi
    by_cases c : i = zC S
    · rw [if_pos c]
      exact ⟨hr, h0, hs, tW_lt hk⟩
    · rw [if_neg c]
      exact h42 i (by omega)
  · show hp_u J 22 (zC S) (lN (tW T n (zP S))) 22 i = lN (pkw T (if i = zC S then (tS T n (zP S), rn isLt T n (tS T n (zP S)), so, row) else zN S i).1 (if i = zC S then (tS T n (zP S), rn isLt T n (tS T n (zP S)), so, row) else zN S i).2.1) ∧ _ = nI (if i = zC S then (tS T n (zP S), rn isLt T n (tS T n (zP S)), so, row) else zN S i).2.2.1 ∧ _ = nI (if i = zC S then (tS T n (zP S), rn isLt T n (tS T n (zP S)), so, row) else zN S i).2.2.2
    have hi : i < zC S + 1 := hi
    rw [hu_if, hu_ne (show 23 ≠ 3 by decide), hu_ne (show 23 ≠ 24 by decide), hu_if, hu_ne (show 24 ≠ 3 by decide), hu_if]
    by_cases c : i = zC S
    · rw [if_pos c, if_pos c, if_pos c, if_pos c]
      exact ⟨rfl, rfl, rfl⟩
    · rw [if_neg c, if_neg c, if_neg c, if_neg c, hu_ne (by decide)]
      exact h5 i (by omega)
  · rw [ek o (by rcases ho with rfl | rfl <;> decide) (by rcases ho with rfl | rfl <;> decide) (by rcases ho with rfl | rfl <;> decide)]
    exact h7
  · rw [ek o (by rcases ho with rfl | rfl <;> decide) (by rcases ho with rfl | rfl <;> decide) (by rcases ho with rfl | rfl <;> decide)]
    exact h8
  · rw [ek _ (by rcases ho with rfl | rfl <;> omega) (by rcases ho with rfl | rfl <;> omega) (by rcases ho with rfl | rfl <;> omega)]
    exact h9 j q1 q2
theorem nI_m1 {j : Nat} (h : j < 1000) : ¬ nI j = -1 := by
  intro z
  have := congrArg Int32.toInt z
  rw [nI_toInt (by omega)] at this
  revert this
  simp
  try omega
set_option maxRecDepth 10000 in
theorem x_takeNewName {I : Nat → Nat → Int32} {J : Nat → Nat → Int64} {F : Nat → Nat → Option Nat} {nc ns : Nat} {T : Nat → Nat} {n o : Nat} {S : pZ} (ho : isO o) (hF : RFok F) (hdF : F 3 0 = some o) (ht : txC T n I J) (hc : cS T n o S I J) (hz : zF S = 0) {so row : Nat} (hr : row < 8) (hso : so < 8) (h06 : so = 0 → row < 6) (h19 : zC S < 19) : Ew 3 mX7_takeNewName 0 [.ref 3, .int (nI so), .int (nI row)] [] ((SH, nc, ns), I, J, F) (RdP nc ns T n o I J F (pNw T n so row S)) := by
  by_cases hn : isNm T n (zP S)
  · rcases hK : zK T n S with _ | i
    · skip
      have fad : RdF o I (hp_u (hp_u (hp_u I 23 (zC S) (nI so)) 24 (zC S) (nI row)) 3 7 (nI (zC S) + 1)) J (hp_u J 22 (zC S) (lN (tW T n (zP S)))) := ⟨fun k a b c d => by rw [hu_ne a, hu_ne c, hu_ne b], by rw [hu_nj (by decide), hu_ne (by decide), hu_ne (by decide)], fun k a b => hu_ne b⟩
      refine we_aload_n (p := 1) dX7_takeNewName_0 rfl rfl ?_
      refine we_callV_int (p := 4) (k' := 0) (a := [.ref 3]) (rr := []) dX7_takeNewName_1 rfl rfl rfl rfl (rc_of rfl rfl (by decide) ⟨rfl, by decide⟩) (Nat.le_of_ble_eq_true rfl) (Nat.le_of_ble_eq_true rfl) (by decide) (Ev.i (if_pos hn) (x_isName ho hF hdF ht hc)) (Or.inl rfl) rfl ?_
      refine we_if_ne (t := 13) (p := 7) dX7_takeNewName_4 (by decide) rfl rfl (fun hc4 => ?_) (fun hc4 => absurd hc4 (by decide))
      refine we_aload_n (p := 14) dX7_takeNewName_13 rfl rfl ?_
      refine we_callV_int (p := 17) (k' := 0) (a := [.ref 3]) (rr := []) dX7_takeNewName_14 rfl rfl rfl rfl (rc_of rfl rfl (by decide) ⟨rfl, by decide⟩) (Nat.le_of_ble_eq_true rfl) (Nat.le_of_ble_eq_true rfl) (by decide) (Ev.i (show plI (zK T n S) = (-1) by rw [hK]; rfl) (x_place ho hF hdF ht hc hn.1)) (Or.inl rfl) rfl ?_
      refine we_iconst (v := -1) (p := 18) dX7_takeNewName_17 (by decide) rfl ?_
      refine we_icmp_eq (t := 27) (p := 21) dX7_takeNewName_18 (by decide) rfl rfl (fun hc18 => ?_) (fun hc18 => absurd (by decide) hc18)
      refine we_aload_n (p := 28) dX7_takeNewName_27 rfl rfl ?_
      refine wf_getI (c := 7) (j := 7) (n := 16) (v := nI (zC S)) (p := 31) dX7_takeNewName_28 rfl rfl (by decide) (by decide) (Or.inl rfl) hc.2.2.1 rfl ?_
      refine we_bipush (v := 19) (p := 33) dX7_takeNewName_31 (by decide) rfl ?_
      refine we_icmp_ge (t := 79) (p := 36) dX7_takeNewName_33 (by decide) rfl rfl (fun hc33 => absurd hc33 (nI_ge (a := zC S) (b := 19) h19 (by omega))) (fun hc33 => ?_)
      refine we_aload_n (p := 37) dX7_takeNewName_36 rfl rfl ?_
      refine we_getR (c := 7) (j := 4) (n := 16) (b := 22) (p := 40) dX7_takeNewName_37 rfl rfl (by decide) (by decide) rfl (r_3_4 hF) rfl ?_
      refine we_aload_n (p := 41) dX7_takeNewName_40 rfl rfl ?_
      refine wf_getI (c := 7) (j := 7) (n := 16) (v := nI (zC S)) (p := 44) dX7_takeNewName_41 rfl rfl (by decide) (by decide) (Or.inl rfl) hc.2.2.1 rfl ?_
      refine we_aload_n (p := 45) dX7_takeNewName_44 rfl rfl ?_
      refine wg_getJ (c := 7) (j := 12) (n := 16) (v := lN (tW T n (zP S))) (p := 48) dX7_takeNewName_45 rfl rfl (by decide) (by decide) rfl (hc.1.2.2.2.2.1 hn.1) rfl ?_
      refine wf_last (n := 19) (i := (zC S)) (p := 49) dX7_takeNewName_48 rfl (by decide) (in_nJ (by omega) (by decide)) (nI_cl (by omega)) rfl ?_
      refine we_aload_n (p := 50) dX7_takeNewName_49 rfl rfl ?_
      refine we_getR (c := 7) (j := 5) (n := 16) (b := 23) (p := 53) dX7_takeNewName_50 rfl rfl (by decide) (by decide) rfl (r_3_5 hF) rfl ?_
      refine we_aload_n (p := 54) dX7_takeNewName_53 rfl rfl ?_
      refine wf_getI (c := 7) (j := 7) (n := 16) (v := nI (zC S)) (p := 57) dX7_takeNewName_54 rfl rfl (by decide) (by decide) (Or.inl rfl) hc.2.2.1 rfl ?_
      refine we_iload_n (p := 58) dX7_takeNewName_57 rfl rfl ?_
      refine wf_iast (n := 19) (i := (zC S)) (p := 59) dX7_takeNewName_58 rfl (by decide) (in_nJ (by omega) (by decide)) (nI_cl (by omega)) rfl ?_
      refine we_aload_n (p := 60) dX7_takeNewName_59 rfl rfl ?_
      refine we_getR (c := 7) (j := 6) (n := 16) (b := 24) (p := 63) dX7_takeNewName_60 rfl rfl (by decide) (by decide) rfl (r_3_6 hF) rfl ?_
      refine we_aload_n (p := 64) dX7_takeNewName_63 rfl rfl ?_
      refine wf_getI (c := 7) (j := 7) (n := 16) (v := nI (zC S)) (p := 67) dX7_takeNewName_64 rfl rfl (by decide) (by decide) (Or.inl rfl) (I_u hc.2.2.1 (by omega)) rfl ?_
      refine we_iload_n (p := 68) dX7_takeNewName_67 rfl rfl ?_
      refine wf_iast (n := 19) (i := (zC S)) (p := 69) dX7_takeNewName_68 rfl (by decide) (in_nJ (by omega) (by decide)) (nI_cl (by omega)) rfl ?_
      refine we_aload_n (p := 70) dX7_takeNewName_69 rfl rfl ?_
      refine we_dup_ref (p := 71) dX7_takeNewName_70 rfl ?_
      refine wf_getI (c := 7) (j := 7) (n := 16) (v := nI (zC S)) (p := 74) dX7_takeNewName_71 rfl rfl (by decide) (by decide) (Or.inl rfl) (I_u (I_u hc.2.2.1 (by omega)) (by omega)) rfl ?_
      refine we_iconst (v := 1) (p := 75) dX7_takeNewName_74 (by decide) rfl ?_
      refine we_iadd (p := 76) dX7_takeNewName_75 rfl ?_
      refine we_putI (c := 7) (j := 7) (n := 16)  (p := 79) dX7_takeNewName_76 rfl rfl (by decide) (by decide) rfl rfl rfl ?_
      refine we_aload_n (p := 80) dX7_takeNewName_79 rfl rfl ?_
      obtain ⟨_, _, e1, rfl, I1, J1, F1, rfl, ⟨rfl, a1, r1⟩⟩ := x_advance (I := (hp_u (hp_u (hp_u I 23 (zC S) (nI so)) 24 (zC S) (nI row)) 3 7 ((nI (zC S)) + 1))) hF (ht.rd ho fad) (tE_le (hc.ad ho hn.1 h19 hr hso h06).2.1).1 (hc.ad ho hn.1 h19 hr hso h06).1.1
      refine we_callV_v (p := 83) (k' := 2) (a := [.ref 3]) (rr := []) dX7_takeNewName_80 rfl rfl rfl rfl (rc_of rfl rfl (by decide) ⟨rfl, by decide⟩) (Nat.le_of_ble_eq_true rfl) (Nat.le_of_ble_eq_true rfl) (by decide) e1 (Or.inl rfl) rfl ?_
      refine we_iconst (v := 1) (p := 84) dX7_takeNewName_83 (by decide) rfl ?_
      exact wi_ret dX7_takeNewName_84 rfl (by decide) (by decide) (RdP.ok (X := (pAv T n (pAd T n so row S))) (by unfold pNw; rw [if_pos hn, hK]) hz (fad.tr a1.r) ((hc.ad ho hn.1 h19 hr hso h06).av ho a1 r1))
    · skip
      refine we_aload_n (p := 1) dX7_takeNewName_0 rfl rfl ?_
      refine we_callV_int (p := 4) (k' := 0) (a := [.ref 3]) (rr := []) dX7_takeNewName_1 rfl rfl rfl rfl (rc_of rfl rfl (by decide) ⟨rfl, by decide⟩) (Nat.le_of_ble_eq_true rfl) (Nat.le_of_ble_eq_true rfl) (by decide) (Ev.i (if_pos hn) (x_isName ho hF hdF ht hc)) (Or.inl rfl) rfl ?_
      refine we_if_ne (t := 13) (p := 7) dX7_takeNewName_4 (by decide) rfl rfl (fun hc4 => ?_) (fun hc4 => absurd hc4 (by decide))
      refine we_aload_n (p := 14) dX7_takeNewName_13 rfl rfl ?_
      refine we_callV_int (p := 17) (k' := 0) (a := [.ref 3]) (rr := []) dX7_takeNewName_14 rfl rfl rfl rfl (rc_of rfl rfl (by decide) ⟨rfl, by decide⟩) (Nat.le_of_ble_eq_true rfl) (Nat.le_of_ble_eq_true rfl) (by decide) (Ev.i (show plI (zK T n S) = nI i by rw [hK]; rfl) (x_place ho hF hdF ht hc hn.1)) (Or.inl rfl) rfl ?_
      refine we_iconst (v := -1) (p := 18) dX7_takeNewName_17 (by decide) rfl ?_
      refine we_icmp_eq (t := 27) (p := 21) dX7_takeNewName_18 (by decide) rfl rfl (fun hc18 => absurd hc18 (nI_m1 (by have := (fnd_lt _ _ _ hK).2.1; have := hc.2.2.2.1.1; omega))) (fun hc18 => ?_)
      refine we_aload_n (p := 22) dX7_takeNewName_21 rfl rfl ?_
      refine we_iconst (v := 3) (p := 23) dX7_takeNewName_22 (by decide) rfl ?_
      refine we_callV_int (p := 26) (k' := 0) (a := [.ref 3, .int 3]) (rr := []) dX7_takeNewName_23 rfl rfl rfl rfl (rc_of rfl rfl (by decide) ⟨rfl, by decide⟩) (Nat.le_of_ble_eq_true rfl) (Nat.le_of_ble_eq_true rfl) (by decide) x_fails (Or.inl rfl) rfl ?_
      exact wi_ret dX7_takeNewName_26 rfl (by decide) (by decide) (RdP.no (X := S) (k := 3) (by unfold pNw; rw [if_pos hn, hK]) (by decide) (RdF.rf.u3 (by decide)) hu_eq ((hu_nj (by decide)).trans hc.1.2.1))
  · skip
    refine we_aload_n (p := 1) dX7_takeNewName_0 rfl rfl ?_
    refine we_callV_int (p := 4) (k' := 0) (a := [.ref 3]) (rr := []) dX7_takeNewName_1 rfl rfl rfl rfl (rc_of rfl rfl (by decide) ⟨rfl, by decide⟩) (Nat.le_of_ble_eq_true rfl) (Nat.le_of_ble_eq_true rfl) (by decide) (Ev.i (if_neg hn) (x_isName ho hF hdF ht hc)) (Or.inl rfl) rfl ?_
    refine we_if_ne (t := 13) (p := 7) dX7_takeNewName_4 (by decide) rfl rfl (fun hc4 => absurd (by decide) hc4) (fun hc4 => ?_)
    refine we_aload_n (p := 8) dX7_takeNewName_7 rfl rfl ?_
    refine we_iconst (v := 1) (p := 9) dX7_takeNewName_8 (by decide) rfl ?_
    refine we_callV_int (p := 12) (k' := 0) (a := [.ref 3, .int 1]) (rr := []) dX7_takeNewName_9 rfl rfl rfl rfl (rc_of rfl rfl (by decide) ⟨rfl, by decide⟩) (Nat.le_of_ble_eq_true rfl) (Nat.le_of_ble_eq_true rfl) (by decide) x_fails (Or.inl rfl) rfl ?_
    exact wi_ret dX7_takeNewName_12 rfl (by decide) (by decide) (RdP.no (X := S) (k := 1) (if_neg hn) (by decide) (RdF.rf.u3 (by decide)) hu_eq ((hu_nj (by decide)).trans hc.1.2.1))
set_option maxRecDepth 10000 in
theorem x_findName {I : Nat → Nat → Int32} {J : Nat → Nat → Int64} {F : Nat → Nat → Option Nat} {nc ns : Nat} {T : Nat → Nat} {n o : Nat} {S : pZ} (ho : isO o) (hF : RFok F) (hdF : F 3 0 = some o) (ht : txC T n I J) (hc : cS T n o S I J) (hz : zF S = 0) {so : Nat} (hso : so < 8) : Ew 1 mX7_findName 0 [.ref 3, .int (nI so), .null] [] ((SH, nc, ns), I, J, F) (RdP nc ns T n o I J F (pFn T n so S)) := by
  by_cases hn : isNm T n (zP S)
  · rcases hK : zK T n S with _ | i
    · skip
      refine we_aload_n (p := 1) dX7_findName_0 rfl rfl ?_
      refine we_callV_int (p := 4) (k' := 0) (a := [.ref 3]) (rr := []) dX7_findName_1 rfl rfl rfl rfl (rc_of rfl rfl (by decide) ⟨rfl, by decide⟩) (Nat.le_of_ble_eq_true rfl) (Nat.le_of_ble_eq_true rfl) (by decide) (Ev.i (if_pos hn) (x_isName ho hF hdF ht hc)) (Or.inl rfl) rfl ?_
      refine we_if_ne (t := 13) (p := 7) dX7_findName_4 (by decide) rfl rfl (fun hc4 => ?_) (fun hc4 => absurd hc4 (by decide))
      refine we_aload_n (p := 14) dX7_findName_13 rfl rfl ?_
      refine we_callV_int (p := 17) (k' := 0) (a := [.ref 3]) (rr := []) dX7_findName_14 rfl rfl rfl rfl (rc_of rfl rfl (by decide) ⟨rfl, by decide⟩) (Nat.le_of_ble_eq_true rfl) (Nat.le_of_ble_eq_true rfl) (by decide) (Ev.i (show plI (zK T n S) = (-1) by rw [hK]; rfl) (x_place ho hF hdF ht hc hn.1)) (Or.inl rfl) rfl ?_
      refine we_istore_n (ls1 := [.ref 3, .int (nI so), .int (-1)]) (p := 18) dX7_findName_17 rfl rfl ?_
      refine we_iload_n (p := 19) dX7_findName_18 rfl rfl ?_
      refine we_iconst (v := -1) (p := 20) dX7_findName_19 (by decide) rfl ?_
      refine we_icmp_eq (t := 33) (p := 23) dX7_findName_20 (by decide) rfl rfl (fun hc20 => ?_) (fun hc20 => absurd (by decide) hc20)
      refine we_aload_n (p := 34) dX7_findName_33 rfl rfl ?_
      refine we_iconst (v := 2) (p := 35) dX7_findName_34 (by decide) rfl ?_
      refine we_callV_int (p := 38) (k' := 0) (a := [.ref 3, .int 2]) (rr := []) dX7_findName_35 rfl rfl rfl rfl (rc_of rfl rfl (by decide) ⟨rfl, by decide⟩) (Nat.le_of_ble_eq_true rfl) (Nat.le_of_ble_eq_true rfl) (by decide) x_fails (Or.inl rfl) rfl ?_
      exact wi_ret dX7_findName_38 rfl (by decide) (by decide) (RdP.no (X := S) (k := 2) (by unfold pFn; rw [if_pos hn, hK]) (by decide) (RdF.rf.u3 (by decide)) hu_eq ((hu_nj (by decide)).trans hc.1.2.1))
    · have hi : i < zC S := by have := (fnd_lt _ _ _ hK).2.1; omega
      have h19 := hc.2.2.2.1.1
      have hb := hc.2.2.2.1.2 i hi
      by_cases q : (zN S i).2.2.1 = so
      · skip
        refine we_aload_n (p := 1) dX7_findName_0 rfl rfl ?_
        refine we_callV_int (p := 4) (k' := 0) (a := [.ref 3]) (rr := []) dX7_findName_1 rfl rfl rfl rfl (rc_of rfl rfl (by decide) ⟨rfl, by decide⟩) (Nat.le_of_ble_eq_true rfl) (Nat.le_of_ble_eq_true rfl) (by decide) (Ev.i (if_pos hn) (x_isName ho hF hdF ht hc)) (Or.inl rfl) rfl ?_
        refine we_if_ne (t := 13) (p := 7) dX7_findName_4 (by decide) rfl rfl (fun hc4 => ?_) (fun hc4 => absurd hc4 (by decide))
        refine we_aload_n (p := 14) dX7_findName_13 rfl rfl ?_
        refine we_callV_int (p := 17) (k' := 0) (a := [.ref 3]) (rr := []) dX7_findName_14 rfl rfl rfl rfl (rc_of rfl rfl (by decide) ⟨rfl, by decide⟩) (Nat.le_of_ble_eq_true rfl) (Nat.le_of_ble_eq_true rfl) (by decide) (Ev.i (show plI (zK T n S) = nI i by rw [hK]; rfl) (x_place ho hF hdF ht hc hn.1)) (Or.inl rfl) rfl ?_
        refine we_istore_n (ls1 := [.ref 3, .int (nI so), .int (nI i)]) (p := 18) dX7_findName_17 rfl rfl ?_
        refine we_iload_n (p := 19) dX7_findName_18 rfl rfl ?_
        refine we_iconst (v := -1) (p := 20) dX7_findName_19 (by decide) rfl ?_
        refine we_icmp_eq (t := 33) (p := 23) dX7_findName_20 (by decide) rfl rfl (fun hc20 => absurd hc20 (nI_m1 (by omega))) (fun hc20 => ?_)
        refine we_aload_n (p := 24) dX7_findName_23 rfl rfl ?_
        refine we_getR (c := 7) (j := 5) (n := 16) (b := 23) (p := 27) dX7_findName_24 rfl rfl (by decide) (by decide) rfl (r_3_5 hF) rfl ?_
        refine we_iload_n (p := 28) dX7_findName_27 rfl rfl ?_
        refine wf_iald (n := 19) (i := i) (v := nI (zN S i).2.2.1) (p := 29) dX7_findName_28 rfl (by decide) (in_nJ (by omega) (by decide)) (nI_cl (by omega)) (hc.2.2.2.2.1 i hi).2.1 rfl ?_
        refine we_iload_n (p := 30) dX7_findName_29 rfl rfl ?_
        refine we_icmp_eq (t := 39) (p := 33) dX7_findName_30 (by decide) rfl rfl (fun hc30 => ?_) (fun hc30 => absurd (by rw [q]) hc30)
        refine we_aload_n (p := 40) dX7_findName_39 rfl rfl ?_
        refine we_aload_n (p := 41) dX7_findName_40 rfl rfl ?_
        refine we_getR (c := 7) (j := 6) (n := 16) (b := 24) (p := 44) dX7_findName_41 rfl rfl (by decide) (by decide) rfl (r_3_6 hF) rfl ?_
        refine we_iload_n (p := 45) dX7_findName_44 rfl rfl ?_
        refine wf_iald (n := 19) (i := i) (v := nI (zN S i).2.2.2) (p := 46) dX7_findName_45 rfl (by decide) (in_nJ (by omega) (by decide)) (nI_cl (by omega)) (hc.2.2.2.2.1 i hi).2.2 rfl ?_
        refine we_putI (c := 7) (j := 15) (n := 16)  (p := 49) dX7_findName_46 rfl rfl (by decide) (by decide) rfl rfl rfl ?_
        refine we_iconst (v := 1) (p := 50) dX7_findName_49 (by decide) rfl ?_
        exact wi_ret dX7_findName_50 rfl (by decide) (by decide) (RdP.ok (X := (pVl (zN S i).2.2.2 S)) (by unfold pFn; rw [if_pos hn, hK]; exact if_pos q) hz (RdF.rf.u3 (by decide)) (hc.vl ho))
      · skip
        refine we_aload_n (p := 1) dX7_findName_0 rfl rfl ?_
        refine we_callV_int (p := 4) (k' := 0) (a := [.ref 3]) (rr := []) dX7_findName_1 rfl rfl rfl rfl (rc_of rfl rfl (by decide) ⟨rfl, by decide⟩) (Nat.le_of_ble_eq_true rfl) (Nat.le_of_ble_eq_true rfl) (by decide) (Ev.i (if_pos hn) (x_isName ho hF hdF ht hc)) (Or.inl rfl) rfl ?_
        refine we_if_ne (t := 13) (p := 7) dX7_findName_4 (by decide) rfl rfl (fun hc4 => ?_) (fun hc4 => absurd hc4 (by decide))
        refine we_aload_n (p := 14) dX7_findName_13 rfl rfl ?_
        refine we_callV_int (p := 17) (k' := 0) (a := [.ref 3]) (rr := []) dX7_findName_14 rfl rfl rfl rfl (rc_of rfl rfl (by decide) ⟨rfl, by decide⟩) (Nat.le_of_ble_eq_true rfl) (Nat.le_of_ble_eq_true rfl) (by decide) (Ev.i (show plI (zK T n S) = nI i by rw [hK]; rfl) (x_place ho hF hdF ht hc hn.1)) (Or.inl rfl) rfl ?_
        refine we_istore_n (ls1 := [.ref 3, .int (nI so), .int (nI i)]) (p := 18) dX7_findName_17 rfl rfl ?_
        refine we_iload_n (p := 19) dX7_findName_18 rfl rfl ?_
        refine we_iconst (v := -1) (p := 20) dX7_findName_19 (by decide) rfl ?_
        refine we_icmp_eq (t := 33) (p := 23) dX7_findName_20 (by decide) rfl rfl (fun hc20 => absurd hc20 (nI_m1 (by omega))) (fun hc20 => ?_)
        refine we_aload_n (p := 24) dX7_findName_23 rfl rfl ?_
        refine we_getR (c := 7) (j := 5) (n := 16) (b := 23) (p := 27) dX7_findName_24 rfl rfl (by decide) (by decide) rfl (r_3_5 hF) rfl ?_
        refine we_iload_n (p := 28) dX7_findName_27 rfl rfl ?_
        refine wf_iald (n := 19) (i := i) (v := nI (zN S i).2.2.1) (p := 29) dX7_findName_28 rfl (by decide) (in_nJ (by omega) (by decide)) (nI_cl (by omega)) (hc.2.2.2.2.1 i hi).2.1 rfl ?_
        refine we_iload_n (p := 30) dX7_findName_29 rfl rfl ?_
        refine we_icmp_eq (t := 39) (p := 33) dX7_findName_30 (by decide) rfl rfl (fun hc30 => absurd hc30 (fun z => q ((nI_eq (by omega) (by omega)).mp z))) (fun hc30 => ?_)
        refine we_aload_n (p := 34) dX7_findName_33 rfl rfl ?_
        refine we_iconst (v := 2) (p := 35) dX7_findName_34 (by decide) rfl ?_
        refine we_callV_int (p := 38) (k' := 0) (a := [.ref 3, .int 2]) (rr := []) dX7_findName_35 rfl rfl rfl rfl (rc_of rfl rfl (by decide) ⟨rfl, by decide⟩) (Nat.le_of_ble_eq_true rfl) (Nat.le_of_ble_eq_true rfl) (by decide) x_fails (Or.inl rfl) rfl ?_
        exact wi_ret dX7_findName_38 rfl (by decide) (by decide) (RdP.no (X := S) (k := 2) (by unfold pFn; rw [if_pos hn, hK]; exact if_neg q) (by decide) (RdF.rf.u3 (by decide)) hu_eq ((hu_nj (by decide)).trans hc.1.2.1))
  · skip
    refine we_aload_n (p := 1) dX7_findName_0 rfl rfl ?_
    refine we_callV_int (p := 4) (k' := 0) (a := [.ref 3]) (rr := []) dX7_findName_1 rfl rfl rfl rfl (rc_of rfl rfl (by decide) ⟨rfl, by decide⟩) (Nat.le_of_ble_eq_true rfl) (Nat.le_of_ble_eq_true rfl) (by decide) (Ev.i (if_neg hn) (x_isName ho hF hdF ht hc)) (Or.inl rfl) rfl ?_
    refine we_if_ne (t := 13) (p := 7) dX7_findName_4 (by decide) rfl rfl (fun hc4 => absurd (by decide) hc4) (fun hc4 => ?_)
    refine we_aload_n (p := 8) dX7_findName_7 rfl rfl ?_
    refine we_iconst (v := 1) (p := 9) dX7_findName_8 (by decide) rfl ?_
    refine we_callV_int (p := 12) (k' := 0) (a := [.ref 3, .int 1]) (rr := []) dX7_findName_9 rfl rfl rfl rfl (rc_of rfl rfl (by decide) ⟨rfl, by decide⟩) (Nat.le_of_ble_eq_true rfl) (Nat.le_of_ble_eq_true rfl) (by decide) x_fails (Or.inl rfl) rfl ?_
    exact wi_ret dX7_findName_12 rfl (by decide) (by decide) (RdP.no (X := S) (k := 1) (if_neg hn) (by decide) (RdF.rf.u3 (by decide)) hu_eq ((hu_nj (by decide)).trans hc.1.2.1))
set_option maxRecDepth 10000 in
theorem x_isToldE {I : Nat → Nat → Int32} {J : Nat → Nat → Int64} {F : Nat → Nat → Option Nat} {nc ns : Nat} {o : Nat} {D : oD} (ho : isO o) (hF : RFok F) (hE : oE I o D)  : Ev 0 mX4_isTold 0 [.ref o] [] ((SH, nc, ns), I, J, F) (some (.int (if D 0 0 ≤ 0 then 0 else 1))) ((SH, nc, ns), I, J, F) := by
  refine e_aload_n (p := 1) dX4_isTold_0 rfl rfl ?_
  refine f_getI (c := 4) (j := 0) (n := 18) (v := D 0 0) (p := 4) dX4_isTold_1 rfl (s_o ho) (l_o0 ho) (by decide) (Or.inl rfl) hE.1 rfl ?_
  refine e_if_le (t := 11) (p := 7) dX4_isTold_4 (by decide) rfl rfl (fun hc4 => ?_) (fun hc4 => ?_)
  · skip
    refine e_iconst (v := 0) (p := 12) dX4_isTold_11 (by decide) rfl ?_
    exact e_iretE dX4_isTold_12 rfl (by decide) (by decide) ⟨by simp only [hc4, ↓reduceIte], rfl⟩
  · skip
    refine e_iconst (v := 1) (p := 8) dX4_isTold_7 (by decide) rfl ?_
    refine e_goto (p := 12) dX4_isTold_8 (by decide) rfl ?_
    exact e_iretE dX4_isTold_12 rfl (by decide) (by decide) ⟨by simp only [hc4, ↓reduceIte], rfl⟩
set_option maxRecDepth 10000 in
theorem x_hasHWE {I : Nat → Nat → Int32} {J : Nat → Nat → Int64} {F : Nat → Nat → Option Nat} {nc ns : Nat} {o : Nat} {D : oD} (ho : isO o) (hF : RFok F) (hE : oE I o D)  : Ev 0 mX4_hasHarbourAndWoman 0 [.ref o] [] ((SH, nc, ns), I, J, F) (some (.int (if D 2 0 ≤ 0 then 0 else if D 2 2 ≤ 0 then 0 else 1))) ((SH, nc, ns), I, J, F) := by
  refine e_aload_n (p := 1) dX4_hasHarbourAndWoman_0 rfl rfl ?_
  refine e_getR (c := 4) (j := 2) (n := 18) (b := (o + 1)) (p := 4) dX4_hasHarbourAndWoman_1 rfl (s_o ho) (l_o0 ho) (by decide) rfl (r_o2 hF ho) rfl ?_
  refine e_iconst (v := 0) (p := 5) dX4_hasHarbourAndWoman_4 (by decide) rfl ?_
  refine f_iald (n := 7) (i := 0) (v := D 2 0) (p := 6) dX4_hasHarbourAndWoman_5 (s_o1 ho) (l_o ho 1 (by decide)) (by decide) (by decide) (congrFun (hE.2.2 2 (by decide) (by decide)) 0) rfl ?_
  refine e_if_le (t := 22) (p := 9) dX4_hasHarbourAndWoman_6 (by decide) rfl rfl (fun hc6 => ?_) (fun hc6 => ?_)
  · skip
    refine e_iconst (v := 0) (p := 23) dX4_hasHarbourAndWoman_22 (by decide) rfl ?_
    exact e_iretE dX4_hasHarbourAndWoman_23 rfl (by decide) (by decide) ⟨by simp only [hc6, ↓reduceIte], rfl⟩
  · skip
    refine e_aload_n (p := 10) dX4_hasHarbourAndWoman_9 rfl rfl ?_
    refine e_getR (c := 4) (j := 2) (n := 18) (b := (o + 1)) (p := 13) dX4_hasHarbourAndWoman_10 rfl (s_o ho) (l_o0 ho) (by decide) rfl (r_o2 hF ho) rfl ?_
    refine e_iconst (v := 2) (p := 14) dX4_hasHarbourAndWoman_13 (by decide) rfl ?_
    refine f_iald (n := 7) (i := 2) (v := D 2 2) (p := 15) dX4_hasHarbourAndWoman_14 (s_o1 ho) (l_o ho 1 (by decide)) (by decide) (by decide) (congrFun (hE.2.2 2 (by decide) (by decide)) 2) rfl ?_
    refine e_if_le (t := 22) (p := 18) dX4_hasHarbourAndWoman_15 (by decide) rfl rfl (fun hc15 => ?_) (fun hc15 => ?_)
    · skip
      refine e_iconst (v := 0) (p := 23) dX4_hasHarbourAndWoman_22 (by decide) rfl ?_
      exact e_iretE dX4_hasHarbourAndWoman_23 rfl (by decide) (by decide) ⟨by simp only [hc6, hc15, ↓reduceIte], rfl⟩
    · skip
      refine e_iconst (v := 1) (p := 19) dX4_hasHarbourAndWoman_18 (by decide) rfl ?_
      refine e_goto (p := 23) dX4_hasHarbourAndWoman_19 (by decide) rfl ?_
      exact e_iretE dX4_hasHarbourAndWoman_23 rfl (by decide) (by decide) ⟨by simp only [hc6, hc15, ↓reduceIte], rfl⟩
set_option maxRecDepth 10000 in
theorem x_reachE {I : Nat → Nat → Int32} {J : Nat → Nat → Int64} {F : Nat → Nat → Option Nat} {nc ns : Nat} {o : Nat} {D : oD} (ho : isO o) (hF : RFok F) (hE : oE I o D) {h : Nat} (hh : h < 6)  : Ev 0 mX4_reachOf 0 [.ref o, .int (nI h)] [] ((SH, nc, ns), I, J, F) (some (.int (reachS D h))) ((SH, nc, ns), I, J, F) := by
  refine e_iload_n (p := 1) dX4_reachOf_0 rfl rfl ?_
  refine e_if_lt (t := 13) (p := 4) dX4_reachOf_1 (by decide) rfl rfl (fun hc1 => absurd hc1 (nI_pos (by omega))) (fun hc1 => ?_)
  refine e_iload_n (p := 5) dX4_reachOf_4 rfl rfl ?_
  refine e_aload_n (p := 6) dX4_reachOf_5 rfl rfl ?_
  refine e_getR (c := 4) (j := 5) (n := 18) (b := (o + 4)) (p := 9) dX4_reachOf_6 rfl (s_o ho) (l_o0 ho) (by decide) rfl (r_o5 hF ho) rfl ?_
  refine e_alen (c := 12) (n := 6) (v := 6) (p := 10) dX4_reachOf_9 (s_o4 ho) (l_o ho 4 (by decide)) (by decide) rfl rfl ?_
  refine e_icmp_lt (t := 17) (p := 13) dX4_reachOf_10 (by decide) rfl rfl (fun hc10 => ?_) (fun hc10 => absurd (nI_lt (a := h) (b := 6) (by omega) (by omega)) hc10)
  refine e_aload_n (p := 18) dX4_reachOf_17 rfl rfl ?_
  refine e_getR (c := 4) (j := 5) (n := 18) (b := (o + 4)) (p := 21) dX4_reachOf_18 rfl (s_o ho) (l_o0 ho) (by decide) rfl (r_o5 hF ho) rfl ?_
  refine e_iload_n (p := 22) dX4_reachOf_21 rfl rfl ?_
  refine f_iald (n := 6) (i := h) (v := D 5 h) (p := 23) dX4_reachOf_22 (s_o4 ho) (l_o ho 4 (by decide)) (in_nJ (by omega) (by decide)) (nI_cl (by omega)) (congrFun (hE.2.2 5 (by decide) (by decide)) h) rfl ?_
  refine e_iconst (v := 1) (p := 24) dX4_reachOf_23 (by decide) rfl ?_
  refine e_iload_n (p := 25) dX4_reachOf_24 rfl rfl ?_
  refine e_ishl (p := 26) dX4_reachOf_25 rfl ?_
  refine e_ior (p := 27) dX4_reachOf_26 rfl ?_
  exact e_iretE dX4_reachOf_27 rfl rfl (by decide) ⟨rfl, rfl⟩
set_option maxRecDepth 10000 in
theorem x_canE {I : Nat → Nat → Int32} {J : Nat → Nat → Int64} {F : Nat → Nat → Option Nat} {nc ns : Nat} {o : Nat} {D : oD} (ho : isO o) (hF : RFok F) (hE : oE I o D) {a : Nat} {b : Int32} (ha : a < 6)  : Ev 1 mX4_canReach 0 [.ref o, .int (nI a), .int b] [] ((SH, nc, ns), I, J, F) (some (.int (canS D a b))) ((SH, nc, ns), I, J, F) := by
  refine e_aload_n (p := 1) dX4_canReach_0 rfl rfl ?_
  refine e_iload_n (p := 2) dX4_canReach_1 rfl rfl ?_
  refine e_callV_int (p := 5) (k' := 0) (a := [.ref o, .int (nI a)]) (rr := []) dX4_canReach_2 rfl rfl rfl rfl (rc_of rfl (s_o ho) (l_o0 ho) ⟨rfl, by decide⟩) (Nat.le_of_ble_eq_true rfl) (Nat.le_of_ble_eq_true rfl) (by decide) (x_reachE ho hF hE ha) (Or.inl rfl) rfl ?_
  refine e_iload_n (p := 6) dX4_canReach_5 rfl rfl ?_
  refine e_ishr (p := 7) dX4_canReach_6 rfl ?_
  refine e_iconst (v := 1) (p := 8) dX4_canReach_7 (by decide) rfl ?_
  refine e_iand (p := 9) dX4_canReach_8 rfl ?_
  refine e_if_eq (t := 16) (p := 12) dX4_canReach_9 (by decide) rfl rfl (fun hc9 => ?_) (fun hc9 => ?_)
  · skip
    refine e_iconst (v := 0) (p := 17) dX4_canReach_16 (by decide) rfl ?_
    exact e_iretE dX4_canReach_17 rfl (by decide) (by decide) ⟨by simp only [canS, hc9, ↓reduceIte], rfl⟩
  · skip
    refine e_iconst (v := 1) (p := 13) dX4_canReach_12 (by decide) rfl ?_
    refine e_goto (p := 17) dX4_canReach_13 (by decide) rfl ?_
    exact e_iretE dX4_canReach_17 rfl (by decide) (by decide) ⟨by simp only [canS, hc9, ↓reduceIte], rfl⟩
