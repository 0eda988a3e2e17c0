/-! The reference is told an oath: the call. -/
set_option maxRecDepth 10000 in
theorem q_oath_no {I : Nat → Nat → Int32} {J : Nat → Nat → Int64} {F : Nat → Nat → Option Nat} {nc ns : Nat} {T : Nat → Nat} {N L : Nat} {S : pZ} (hF : RFok F) (hL : I 95 2 = nI L) (hNL : N ≤ L) (hL9 : L ≤ 900) (htx : ∀ i, i < N → T i < 256 ∧ I 96 i = nI (T i)) (h10 : I 95 10 = nI (T 1000)) (hS : fr0 S) (hI : zI T N S) (hz : ¬ zF (pRd T N 901 S) = 0) : Ew 9 mX12_oath 0 [.ref 95, .int (nI N), .null] [] ((SH, nc, ns), I, J, F) (Ret nc ns (some (.int (-1))) (fun I' J' F' => J' = J ∧ F' = F ∧ (∀ k, k ≠ 95 → k ≠ 97 → k ≠ 99 → I' k = I k) ∧ (∀ j, 11 < j → j ≠ 13 → I' 95 j = I 95 j) ∧ I' 95 2 = 0 ∧ I' 95 11 = 4 ∧ I' 95 9 = nI (zF (pRd T N 901 S)) ∧ I' 95 10 = nI (tS T N (zP (pRd T N 901 S))))) := by
  refine we_aload_n (p := 1) dX12_oath_0 rfl rfl ?_
  refine we_callV_v (p := 4) (k' := 0) (a := [.ref 95]) (rr := []) dX12_oath_1 rfl rfl rfl rfl (rc_of rfl rfl (by decide) ⟨rfl, by decide⟩) (Nat.le_of_ble_eq_true rfl) (Nat.le_of_ble_eq_true rfl) (by decide) y_good (Or.inl rfl) rfl ?_
  refine we_iload_n (p := 5) dX12_oath_4 rfl rfl ?_
  refine we_iconst (v := 0) (p := 6) dX12_oath_5 (by decide) rfl ?_
  refine we_aload_n (p := 7) dX12_oath_6 rfl rfl ?_
  refine wf_getI (c := 11) (j := 2) (n := 37) (v := nI L) (p := 10) dX12_oath_7 rfl rfl (by decide) (by decide) (Or.inl rfl) ((hu_nj (by decide)).trans ((hu_nj (by decide)).trans hL)) rfl ?_
  refine we_callS_int (p := 13) (k' := 0) (a := [.int (nI N), .int 0, .int (nI L)]) (rr := []) dX12_oath_10 rfl rfl rfl rfl rfl (rc_st rfl) (Nat.le_of_ble_eq_true rfl) (Nat.le_of_ble_eq_true rfl) (by decide) (Ev.i (in_ok (a := 0) (b := L) (n := N) (by omega) hNL (by omega)) y_in) (Or.inl rfl) rfl ?_
  refine we_if_ne (t := 22) (p := 16) dX12_oath_13 (by decide) rfl rfl (fun hc13 => ?_) (fun hc13 => absurd hc13 (by decide))
  refine we_aload_n (p := 23) dX12_oath_22 rfl rfl ?_
  refine we_iconst (v := 0) (p := 24) dX12_oath_23 (by decide) rfl ?_
  refine we_putI (c := 11) (j := 2) (n := 37)  (p := 27) dX12_oath_24 rfl rfl (by decide) (by decide) rfl rfl rfl ?_
  refine we_aload_n (p := 28) dX12_oath_27 rfl rfl ?_
  refine we_iconst (v := 0) (p := 29) dX12_oath_28 (by decide) rfl ?_
  refine we_putI (c := 11) (j := 9) (n := 37)  (p := 32) dX12_oath_29 rfl rfl (by decide) (by decide) rfl rfl rfl ?_
  refine we_aload_n (p := 33) dX12_oath_32 rfl rfl ?_
  refine we_iconst (v := 0) (p := 34) dX12_oath_33 (by decide) rfl ?_
  refine we_putZ (c := 11) (j := 13) (n := 37)  (p := 37) dX12_oath_34 rfl rfl (by decide) (by decide) rfl rfl ⟨rfl, rfl⟩ rfl ?_
  refine we_iconst (v := 0) (p := 38) dX12_oath_37 (by decide) rfl ?_
  refine we_istore_n (ls1 := [.ref 95, .int (nI N), .int 0]) (p := 39) dX12_oath_38 rfl rfl ?_
  refine y_clr (I0 := (hp_u (hp_u (hp_u (hp_u (hp_u I 95 0 0) 95 11 0) 95 2 0) 95 9 0) 95 13 0)) hF 276 0 _ (by omega) ⟨fun _ _ => rfl, fun i hi => absurd hi (by omega)⟩ (fun IC h1 => ?_)
  refine we_aload_n (p := 60) dX12_oath_59 rfl rfl ?_
  refine we_iload_n (p := 61) dX12_oath_60 rfl rfl ?_
  refine we_putI (c := 11) (j := 3) (n := 37)  (p := 64) dX12_oath_61 rfl rfl (by decide) (by decide) rfl rfl rfl ?_
  refine we_aload_n (p := 65) dX12_oath_64 rfl rfl ?_
  refine we_iconst (v := 0) (p := 66) dX12_oath_65 (by decide) rfl ?_
  refine we_putI (c := 11) (j := 5) (n := 37)  (p := 69) dX12_oath_66 rfl rfl (by decide) (by decide) rfl rfl rfl ?_
  refine we_aload_n (p := 70) dX12_oath_69 rfl rfl ?_
  obtain ⟨_, _, e1, rfl, I1, J1, F1, rfl, rfl, rfl, f1, r1⟩ := y_next (T := T) (n := N) (p := 0) (I := (hp_u (hp_u IC 95 3 (nI N)) 95 5 0)) hF ⟨by omega, by simp [hp_u], fun i hi => ⟨(htx i hi).1, by rw [hu_ne (by decide), hu_ne (by decide), h1.1 96 (by decide), hu_ne (by decide), hu_ne (by decide), hu_ne (by decide), hu_ne (by decide), hu_ne (by decide)]; exact (htx i hi).2⟩⟩ (Nat.zero_le _) hu_eq
  refine we_callV_v (p := 73) (k' := 1) (a := [.ref 95]) (rr := []) dX12_oath_70 rfl rfl rfl rfl (rc_of rfl rfl (by decide) ⟨rfl, by decide⟩) (Nat.le_of_ble_eq_true rfl) (Nat.le_of_ble_eq_true rfl) (by decide) e1 (Or.inl rfl) rfl ?_
  have tm : tM T N (zP S) I1 := by
    rw [hS.2.1]
    exact ⟨⟨by omega, (f1.2 3 (by omega)).trans (by simp [hp_u]), fun i hi => ⟨(htx i hi).1, by rw [f1.1 96 (by decide) (by omega), hu_ne (by decide), hu_ne (by decide), h1.1 96 (by decide), hu_ne (by decide), hu_ne (by decide), hu_ne (by decide), hu_ne (by decide), hu_ne (by decide)]; exact (htx i hi).2⟩⟩, Nat.zero_le _, r1, (f1.2 13 (by omega)).trans (by rw [hu_nj (by decide), hu_nj (by decide), h1.1 95 (by decide)]; simp [hp_u]), (f1.2 9 (by omega)).trans (by rw [hu_nj (by decide), hu_nj (by decide), h1.1 95 (by decide)]; simp [hp_u]), (f1.2 10 (by omega)).trans (by rw [hu_nj (by decide), hu_nj (by decide), h1.1 95 (by decide), hu_nj (by decide), hu_nj (by decide), hu_nj (by decide), hu_nj (by decide), hu_nj (by decide)]; exact h10)⟩
  have cm : cM T S I1 := cM_0 hS (fun i hi => by rw [f1.1 99 (by decide) (by omega), hu_ne (by decide), hu_ne (by decide)]; exact h1.2 i hi)
  refine we_aload_n (p := 74) dX12_oath_73 rfl rfl ?_
  obtain ⟨_, _, e2, I2, rfl, f2, ⟨z2, rfl, t2⟩ | ⟨z2, rfl, g2⟩⟩ := y_readLine (S := S) hF tm cm hI hS.1
  · skip
    refine we_callV_v (p := 77) (k' := 8) (a := [.ref 95]) (rr := []) dX12_oath_74 rfl rfl rfl rfl (rc_of rfl rfl (by decide) ⟨rfl, by decide⟩) (Nat.le_of_ble_eq_true rfl) (Nat.le_of_ble_eq_true rfl) (by decide) e2 (Or.inl rfl) rfl ?_
    refine y_oath_L (T := T) (n := N) hF (by omega) 900 0 S I2 rfl hS.1 hI (Nat.zero_le _) (Or.inl ⟨z2, t2⟩) (fun I5 f5 e5 => ?_)
    have e5 : endX T N (pRd T N 901 S) I5 := e5
    have hk : ∀ k, k ≠ 95 → k ≠ 97 → k ≠ 99 → I5 k = I k := fun k a b c => by
      rw [f5.1 k a b c, f2.1 k a b c, f1.1 k a (by omega), hu_ne a, hu_ne a, h1.1 k c, hu_ne a, hu_ne a, hu_ne a, hu_ne a, hu_ne a]
    have hq : ∀ j, (j < 4 ∨ 10 < j) → j ≠ 13 → I5 95 j = (hp_u (hp_u IC 95 3 (nI N)) 95 5 0) 95 j := fun j a b => by
      rw [f5.2 j a b, f2.2 j a b, f1.2 j (by omega)]
    have hj : ∀ j, 11 < j → j ≠ 13 → I5 95 j = I 95 j := fun j a b => by
      rw [hq j (by omega) b, hu_nj (by omega), hu_nj (by omega), h1.1 95 (by decide), hu_nj b, hu_nj (by omega), hu_nj (by omega), hu_nj (by omega), hu_nj (by omega)]
    have h2 : I5 95 2 = 0 := by
      rw [hq 2 (by omega) (by decide), hu_nj (by decide), hu_nj (by decide), h1.1 95 (by decide), hu_nj (by decide), hu_nj (by decide), hu_eq]
    have h11 : I5 95 11 = 0 := by
      rw [hq 11 (by omega) (by decide), hu_nj (by decide), hu_nj (by decide), h1.1 95 (by decide), hu_nj (by decide), hu_nj (by decide), hu_nj (by decide), hu_eq]
    exact y_oath_n (T := T) (N := N) (S' := pRd T N 901 S) hF hk hj h2 h11 (e5.resolve_left (fun h => hz h.1)).2
  · skip
    refine we_callV_v (p := 77) (k' := 8) (a := [.ref 95]) (rr := []) dX12_oath_74 rfl rfl rfl rfl (rc_of rfl rfl (by decide) ⟨rfl, by decide⟩) (Nat.le_of_ble_eq_true rfl) (Nat.le_of_ble_eq_true rfl) (by decide) e2 (Or.inl rfl) rfl ?_
    refine y_oath_L (T := T) (n := N) hF (by omega) 900 0 S I2 rfl hS.1 hI (Nat.zero_le _) (Or.inr ⟨z2, g2⟩) (fun I5 f5 e5 => ?_)
    have e5 : endX T N (pRd T N 901 S) I5 := e5
    have hk : ∀ k, k ≠ 95 → k ≠ 97 → k ≠ 99 → I5 k = I k := fun k a b c => by
      rw [f5.1 k a b c, f2.1 k a b c, f1.1 k a (by omega), hu_ne a, hu_ne a, h1.1 k c, hu_ne a, hu_ne a, hu_ne a, hu_ne a, hu_ne a]
    have hq : ∀ j, (j < 4 ∨ 10 < j) → j ≠ 13 → I5 95 j = (hp_u (hp_u IC 95 3 (nI N)) 95 5 0) 95 j := fun j a b => by
      rw [f5.2 j a b, f2.2 j a b, f1.2 j (by omega)]
    have hj : ∀ j, 11 < j → j ≠ 13 → I5 95 j = I 95 j := fun j a b => by
      rw [hq j (by omega) b, hu_nj (by omega), hu_nj (by omega), h1.1 95 (by decide), hu_nj b, hu_nj (by omega), hu_nj (by omega), hu_nj (by omega), hu_nj (by omega)]
    have h2 : I5 95 2 = 0 := by
      rw [hq 2 (by omega) (by decide), hu_nj (by decide), hu_nj (by decide), h1.1 95 (by decide), hu_nj (by decide), hu_nj (by decide), hu_eq]
    have h11 : I5 95 11 = 0 := by
      rw [hq 11 (by omega) (by decide), hu_nj (by decide), hu_nj (by decide), h1.1 95 (by decide), hu_nj (by decide), hu_nj (by decide), hu_nj (by decide), hu_eq]
    exact y_oath_n (T := T) (N := N) (S' := pRd T N 901 S) hF hk hj h2 h11 (e5.resolve_left (fun h => hz h.1)).2
set_option maxRecDepth 10000 in
theorem q_oath_ok {I : Nat → Nat → Int32} {J : Nat → Nat → Int64} {F : Nat → Nat → Option Nat} {nc ns : Nat} {T : Nat → Nat} {N L : Nat} {S : pZ} (hF : RFok F) (hL : I 95 2 = nI L) (hNL : N ≤ L) (hL9 : L ≤ 900) (htx : ∀ i, i < N → T i < 256 ∧ I 96 i = nI (T i)) (h10 : I 95 10 = nI (T 1000)) (hS : fr0 S) (hI : zI T N S) (hz : zF (pRd T N 901 S) = 0) : Ew 9 mX12_oath 0 [.ref 95, .int (nI N), .null] [] ((SH, nc, ns), I, J, F) (Ret nc ns (some (.int (zD (pRd T N 901 S) 2 2))) (fun I' J' F' => J' = J ∧ F' = F ∧ (∀ k, k ≠ 95 → k ≠ 97 → k ≠ 98 → k ≠ 99 → k ≠ 100 → I' k = I k) ∧ (∀ j, 11 < j → j ≠ 13 → j ≠ 14 → j ≠ 20 → j ≠ 21 → I' 95 j = I 95 j) ∧ I' 95 2 = 0 ∧ I' 95 11 = 0 ∧ I' 95 9 = 0 ∧ I' 95 10 = nI (T 1000) ∧ I' 95 14 = 1 ∧ I' 95 20 = 0 ∧ I' 95 21 = 0 ∧ oM I' 98 (zD (pRd T N 901 S)) ∧ stM I' (fun _ => 0) ∧ zI T N (pRd T N 901 S) ∧ 0 < dN (zD (pRd T N 901 S)) 0 ∧ 0 < dN (zD (pRd T N 901 S)) 2)) := by
  refine we_aload_n (p := 1) dX12_oath_0 rfl rfl ?_
  refine we_callV_v (p := 4) (k' := 0) (a := [.ref 95]) (rr := []) dX12_oath_1 rfl rfl rfl rfl (rc_of rfl rfl (by decide) ⟨rfl, by decide⟩) (Nat.le_of_ble_eq_true rfl) (Nat.le_of_ble_eq_true rfl) (by decide) y_good (Or.inl rfl) rfl ?_
  refine we_iload_n (p := 5) dX12_oath_4 rfl rfl ?_
  refine we_iconst (v := 0) (p := 6) dX12_oath_5 (by decide) rfl ?_
  refine we_aload_n (p := 7) dX12_oath_6 rfl rfl ?_
  refine wf_getI (c := 11) (j := 2) (n := 37) (v := nI L) (p := 10) dX12_oath_7 rfl rfl (by decide) (by decide) (Or.inl rfl) ((hu_nj (by decide)).trans ((hu_nj (by decide)).trans hL)) rfl ?_
  refine we_callS_int (p := 13) (k' := 0) (a := [.int (nI N), .int 0, .int (nI L)]) (rr := []) dX12_oath_10 rfl rfl rfl rfl rfl (rc_st rfl) (Nat.le_of_ble_eq_true rfl) (Nat.le_of_ble_eq_true rfl) (by decide) (Ev.i (in_ok (a := 0) (b := L) (n := N) (by omega) hNL (by omega)) y_in) (Or.inl rfl) rfl ?_
  refine we_if_ne (t := 22) (p := 16) dX12_oath_13 (by decide) rfl rfl (fun hc13 => ?_) (fun hc13 => absurd hc13 (by decide))
  refine we_aload_n (p := 23) dX12_oath_22 rfl rfl ?_
  refine we_iconst (v := 0) (p := 24) dX12_oath_23 (by decide) rfl ?_
  refine we_putI (c := 11) (j := 2) (n := 37)  (p := 27) dX12_oath_24 rfl rfl (by decide) (by decide) rfl rfl rfl ?_
  refine we_aload_n (p := 28) dX12_oath_27 rfl rfl ?_
  refine we_iconst (v := 0) (p := 29) dX12_oath_28 (by decide) rfl ?_
  refine we_putI (c := 11) (j := 9) (n := 37)  (p := 32) dX12_oath_29 rfl rfl (by decide) (by decide) rfl rfl rfl ?_
  refine we_aload_n (p := 33) dX12_oath_32 rfl rfl ?_
  refine we_iconst (v := 0) (p := 34) dX12_oath_33 (by decide) rfl ?_
  refine we_putZ (c := 11) (j := 13) (n := 37)  (p := 37) dX12_oath_34 rfl rfl (by decide) (by decide) rfl rfl ⟨rfl, rfl⟩ rfl ?_
  refine we_iconst (v := 0) (p := 38) dX12_oath_37 (by decide) rfl ?_
  refine we_istore_n (ls1 := [.ref 95, .int (nI N), .int 0]) (p := 39) dX12_oath_38 rfl rfl ?_
  refine y_clr (I0 := (hp_u (hp_u (hp_u (hp_u (hp_u I 95 0 0) 95 11 0) 95 2 0) 95 9 0) 95 13 0)) hF 276 0 _ (by omega) ⟨fun _ _ => rfl, fun i hi => absurd hi (by omega)⟩ (fun IC h1 => ?_)
  refine we_aload_n (p := 60) dX12_oath_59 rfl rfl ?_
  refine we_iload_n (p := 61) dX12_oath_60 rfl rfl ?_
  refine we_putI (c := 11) (j := 3) (n := 37)  (p := 64) dX12_oath_61 rfl rfl (by decide) (by decide) rfl rfl rfl ?_
  refine we_aload_n (p := 65) dX12_oath_64 rfl rfl ?_
  refine we_iconst (v := 0) (p := 66) dX12_oath_65 (by decide) rfl ?_
  refine we_putI (c := 11) (j := 5) (n := 37)  (p := 69) dX12_oath_66 rfl rfl (by decide) (by decide) rfl rfl rfl ?_
  refine we_aload_n (p := 70) dX12_oath_69 rfl rfl ?_
  obtain ⟨_, _, e1, rfl, I1, J1, F1, rfl, rfl, rfl, f1, r1⟩ := y_next (T := T) (n := N) (p := 0) (I := (hp_u (hp_u IC 95 3 (nI N)) 95 5 0)) hF ⟨by omega, by simp [hp_u], fun i hi => ⟨(htx i hi).1, by rw [hu_ne (by decide), hu_ne (by decide), h1.1 96 (by decide), hu_ne (by decide), hu_ne (by decide), hu_ne (by decide), hu_ne (by decide), hu_ne (by decide)]; exact (htx i hi).2⟩⟩ (Nat.zero_le _) hu_eq
  refine we_callV_v (p := 73) (k' := 1) (a := [.ref 95]) (rr := []) dX12_oath_70 rfl rfl rfl rfl (rc_of rfl rfl (by decide) ⟨rfl, by decide⟩) (Nat.le_of_ble_eq_true rfl) (Nat.le_of_ble_eq_true rfl) (by decide) e1 (Or.inl rfl) rfl ?_
  have tm : tM T N (zP S) I1 := by
    rw [hS.2.1]
    exact ⟨⟨by omega, (f1.2 3 (by omega)).trans (by simp [hp_u]), fun i hi => ⟨(htx i hi).1, by rw [f1.1 96 (by decide) (by omega), hu_ne (by decide), hu_ne (by decide), h1.1 96 (by decide), hu_ne (by decide), hu_ne (by decide), hu_ne (by decide), hu_ne (by decide), hu_ne (by decide)]; exact (htx i hi).2⟩⟩, Nat.zero_le _, r1, (f1.2 13 (by omega)).trans (by rw [hu_nj (by decide), hu_nj (by decide), h1.1 95 (by decide)]; simp [hp_u]), (f1.2 9 (by omega)).trans (by rw [hu_nj (by decide), hu_nj (by decide), h1.1 95 (by decide)]; simp [hp_u]), (f1.2 10 (by omega)).trans (by rw [hu_nj (by decide), hu_nj (by decide), h1.1 95 (by decide), hu_nj (by decide), hu_nj (by decide), hu_nj (by decide), hu_nj (by decide), hu_nj (by decide)]; exact h10)⟩
  have cm : cM T S I1 := cM_0 hS (fun i hi => by rw [f1.1 99 (by decide) (by omega), hu_ne (by decide), hu_ne (by decide)]; exact h1.2 i hi)
  refine we_aload_n (p := 74) dX12_oath_73 rfl rfl ?_
  obtain ⟨_, _, e2, I2, rfl, f2, ⟨z2, rfl, t2⟩ | ⟨z2, rfl, g2⟩⟩ := y_readLine (S := S) hF tm cm hI hS.1
  · skip
    refine we_callV_v (p := 77) (k' := 8) (a := [.ref 95]) (rr := []) dX12_oath_74 rfl rfl rfl rfl (rc_of rfl rfl (by decide) ⟨rfl, by decide⟩) (Nat.le_of_ble_eq_true rfl) (Nat.le_of_ble_eq_true rfl) (by decide) e2 (Or.inl rfl) rfl ?_
    refine y_oath_L (T := T) (n := N) hF (by omega) 900 0 S I2 rfl hS.1 hI (Nat.zero_le _) (Or.inl ⟨z2, t2⟩) (fun I5 f5 e5 => ?_)
    have e5 : endX T N (pRd T N 901 S) I5 := e5
    have hk : ∀ k, k ≠ 95 → k ≠ 97 → k ≠ 99 → I5 k = I k := fun k a b c => by
      rw [f5.1 k a b c, f2.1 k a b c, f1.1 k a (by omega), hu_ne a, hu_ne a, h1.1 k c, hu_ne a, hu_ne a, hu_ne a, hu_ne a, hu_ne a]
    have hq : ∀ j, (j < 4 ∨ 10 < j) → j ≠ 13 → I5 95 j = (hp_u (hp_u IC 95 3 (nI N)) 95 5 0) 95 j := fun j a b => by
      rw [f5.2 j a b, f2.2 j a b, f1.2 j (by omega)]
    have hj : ∀ j, 11 < j → j ≠ 13 → I5 95 j = I 95 j := fun j a b => by
      rw [hq j (by omega) b, hu_nj (by omega), hu_nj (by omega), h1.1 95 (by decide), hu_nj b, hu_nj (by omega), hu_nj (by omega), hu_nj (by omega), hu_nj (by omega)]
    have h2 : I5 95 2 = 0 := by
      rw [hq 2 (by omega) (by decide), hu_nj (by decide), hu_nj (by decide), h1.1 95 (by decide), hu_nj (by decide), hu_nj (by decide), hu_eq]
    have h11 : I5 95 11 = 0 := by
      rw [hq 11 (by omega) (by decide), hu_nj (by decide), hu_nj (by decide), h1.1 95 (by decide), hu_nj (by decide), hu_nj (by decide), hu_nj (by decide), hu_eq]
    exact y_oath_y (T := T) (N := N) (S' := pRd T N 901 S) hF hk hj h2 h11 (e5.resolve_right (fun h => h.1 hz))
  · skip
    refine we_callV_v (p := 77) (k' := 8) (a := [.ref 95]) (rr := []) dX12_oath_74 rfl rfl rfl rfl (rc_of rfl rfl (by decide) ⟨rfl, by decide⟩) (Nat.le_of_ble_eq_true rfl) (Nat.le_of_ble_eq_true rfl) (by decide) e2 (Or.inl rfl) rfl ?_
    refine y_oath_L (T := T) (n := N) hF (by omega) 900 0 S I2 rfl hS.1 hI (Nat.zero_le _) (Or.inr ⟨z2, g2⟩) (fun I5 f5 e5 => ?_)
    have e5 : endX T N (pRd T N 901 S) I5 := e5
    have hk : ∀ k, k ≠ 95 → k ≠ 97 → k ≠ 99 → I5 k = I k := fun k a b c => by
      rw [f5.1 k a b c, f2.1 k a b c, f1.1 k a (by omega), hu_ne a, hu_ne a, h1.1 k c, hu_ne a, hu_ne a, hu_ne a, hu_ne a, hu_ne a]
    have hq : ∀ j, (j < 4 ∨ 10 < j) → j ≠ 13 → I5 95 j = (hp_u (hp_u IC 95 3 (nI N)) 95 5 0) 95 j := fun j a b => by
      rw [f5.2 j a b, f2.2 j a b, f1.2 j (by omega)]
    have hj : ∀ j, 11 < j → j ≠ 13 → I5 95 j = I 95 j := fun j a b => by
      rw [hq j (by omega) b, hu_nj (by omega), hu_nj (by omega), h1.1 95 (by decide), hu_nj b, hu_nj (by omega), hu_nj (by omega), hu_nj (by omega), hu_nj (by omega)]
    have h2 : I5 95 2 = 0 := by
      rw [hq 2 (by omega) (by decide), hu_nj (by decide), hu_nj (by decide), h1.1 95 (by decide), hu_nj (by decide), hu_nj (by decide), hu_eq]
    have h11 : I5 95 11 = 0 := by
      rw [hq 11 (by omega) (by decide), hu_nj (by decide), hu_nj (by decide), h1.1 95 (by decide), hu_nj (by decide), hu_nj (by decide), hu_nj (by decide), hu_eq]
    exact y_oath_y (T := T) (N := N) (S' := pRd T N 901 S) hF hk hj h2 h11 (e5.resolve_right (fun h => h.1 hz))
set_option maxRecDepth 10000 in
theorem q_oath_no2 {I : Nat → Nat → Int32} {J : Nat → Nat → Int64} {F : Nat → Nat → Option Nat} {nc ns : Nat} (hF : RFok F) {l v : Int32} (hL : I 95 2 = l) (hi : inS v 0 l = 0)  : Ev 1 mX12_oath 0 [.ref 95, .int v, .null] [] ((SH, nc, ns), I, J, F) (some (.int (-1))) ((SH, nc, ns), hp_u (hp_u (hp_u I 95 0 0) 95 11 0) 95 11 2, J, F) := by
  refine e_aload_n (p := 1) dX12_oath_0 rfl rfl ?_
  refine e_callV_v (p := 4) (k' := 0) (a := [.ref 95]) (rr := []) dX12_oath_1 rfl rfl rfl rfl (rc_of rfl rfl (by decide) ⟨rfl, by decide⟩) (Nat.le_of_ble_eq_true rfl) (Nat.le_of_ble_eq_true rfl) (by decide) y_good (Or.inl rfl) rfl ?_
  refine e_iload_n (p := 5) dX12_oath_4 rfl rfl ?_
  refine e_iconst (v := 0) (p := 6) dX12_oath_5 (by decide) rfl ?_
  refine e_aload_n (p := 7) dX12_oath_6 rfl rfl ?_
  refine f_getI (c := 11) (j := 2) (n := 37) (v := l) (p := 10) dX12_oath_7 rfl rfl (by decide) (by decide) (Or.inl rfl) ((hu_nj (by decide)).trans ((hu_nj (by decide)).trans hL)) rfl ?_
  refine e_callS_int (p := 13) (k' := 0) (a := [.int v, .int 0, .int l]) (rr := []) dX12_oath_10 rfl rfl rfl rfl rfl (rc_st rfl) (Nat.le_of_ble_eq_true rfl) (Nat.le_of_ble_eq_true rfl) (by decide) (Ev.i hi y_in) (Or.inl rfl) rfl ?_
  refine e_if_ne (t := 22) (p := 16) dX12_oath_13 (by decide) rfl rfl (fun hc13 => absurd (by decide) hc13) (fun hc13 => ?_)
  refine e_aload_n (p := 17) dX12_oath_16 rfl rfl ?_
  refine e_iconst (v := 2) (p := 18) dX12_oath_17 (by decide) rfl ?_
  refine e_callV_int (p := 21) (k' := 0) (a := [.ref 95, .int 2]) (rr := []) dX12_oath_18 rfl rfl rfl rfl (rc_of rfl rfl (by decide) ⟨rfl, by decide⟩) (Nat.le_of_ble_eq_true rfl) (Nat.le_of_ble_eq_true rfl) (by decide) y_no (Or.inl rfl) rfl ?_
  exact e_iretE dX12_oath_21 rfl rfl (by decide) ⟨rfl, rfl⟩
theorem fr0_S0 {I : Nat → Nat → Int32} {o : Nat} : fr0 (S0 I o) := by
  refine ⟨rfl, rfl, rfl, (show D0 I o 0 0 = 0 from if_pos (Or.inl rfl)), (show D0 I o 1 0 = 0 from if_pos (Or.inr rfl)), fun i hi => ?_, fun i hi => ?_⟩
  · show D0 I o 2 i = 0
    unfold D0
    rw [if_neg (by omega), if_pos ⟨rfl, hi⟩]
  · show D0 I o 5 i = 0
    unfold D0
    rw [if_neg (by omega), if_neg (by omega), if_pos ⟨rfl, hi⟩]
