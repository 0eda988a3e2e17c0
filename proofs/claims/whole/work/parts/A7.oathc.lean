/-! The class is told an oath. -/
theorem S0_u {I : Nat → Nat → Int32} {o j : Nat} {v : Int32} (ho : isO o) : S0 (hp_u I 0 j v) o = S0 I o := by
  have e : D0 (hp_u I 0 j v) o = D0 I o := by
    funext a b
    unfold D0
    rw [hu_ne (show o + (a - 1) ≠ 0 by rcases ho with rfl | rfl <;> omega)]
  unfold S0
  rw [e, hu_ne (by decide)]
theorem RF_o {F : Nat → Nat → Option Nat} {a b : Option Nat} (h : RFok F) : RFok (hp_u (hp_u F 3 0 a) 0 2 b) := by
  intro q hq
  have : ∀ q ∈ RT, ¬ (q.1 = 3 ∧ q.2.1 = 0) ∧ ¬ (q.1 = 0 ∧ q.2.1 = 2) := by decide
  obtain ⟨h1, h2⟩ := this q hq
  have e : hp_u (hp_u F 3 0 a) 0 2 b q.1 q.2.1 = F q.1 q.2.1 := by
    by_cases c : q.1 = 0
    · rw [c, hu_nj (fun z => h2 ⟨c, z⟩), hu_ne (by decide)]
    · rw [hu_ne c]
      by_cases d : q.1 = 3
      · rw [d, hu_nj (fun z => h1 ⟨d, z⟩)]
      · rw [hu_ne d]
  rw [e]
  exact h q hq
theorem RdT.r {nc ns : Nat} {T : Nat → Nat} {n o : Nat} {I : Nat → Nat → Int32} {J : Nat → Nat → Int64} {F : Nat → Nat → Option Nat} {S' : pZ} {k : Nat} {M : ev_M} {pc : Nat} {ls st : List Value} {h : hp_H} (q : Ew k M pc ls st h (RdT nc ns T n o I J F S')) : Ew k M pc ls st h (Ret nc ns (some (.int (nI (zF S')))) (fun I' J' F' => F' = F ∧ (∀ k, k ≠ 3 → k ≠ 23 → k ≠ 24 → (k < o ∨ o + 17 ≤ k) → I' k = I k) ∧ (∀ k, k ≠ 3 → k ≠ 22 → J' k = J k) ∧ ((zF S' = 0 ∧ oE I' o (zD S') ∧ zI T n S') ∨ (¬ zF S' = 0 ∧ I' 3 1 = nI (tS T n (zP S')))))) := q.mono (fun _ _ ⟨h1, I', J', h2, p⟩ => ⟨h1, I', J', F, h2, rfl, p⟩)
def Fo (S : pZ) : Prop := zF S ≤ 6
section
variable {T : Nat → Nat} {n : Nat} {S A Y : pZ} {K : pZ → pZ}
theorem Fo.sv {j i : Nat} {v : Int32} (h : Fo Y) : Fo (pSt j i v Y) := h
theorem Fo.av (h : Fo Y) : Fo (pAv T n Y) := h
theorem Fo.B (h : Fo A) (k : ∀ X, Fo X → Fo (K X)) : Fo (pB A K) := by
  unfold pB
  split
  · exact k A h
  · exact h
theorem Fo.fl {k : Nat} (hk : k ≤ 6) : Fo (pFl k Y) := hk
theorem Fo.it {c : Prop} [Decidable c] {B : pZ} (h1 : Fo A) (h2 : Fo B) : Fo (if c then A else B) := by
  split
  · exact h1
  · exact h2
theorem Fo.tk {w lo hi : Nat} (h : Fo Y) : Fo (pTk T n w lo hi Y) := Fo.it (Fo.it (Fo.it h (Fo.fl (by decide))) (Fo.fl (by decide))) (Fo.fl (by decide))
theorem Fo.nw {so row : Nat} (h : Fo Y) : Fo (pNw T n so row Y) := by
  unfold pNw
  refine Fo.it ?_ (Fo.fl (by decide))
  split
  · exact Fo.fl (by decide)
  · exact h
theorem Fo.fn {so : Nat} (h : Fo Y) : Fo (pFn T n so Y) := by
  unfold pFn
  refine Fo.it ?_ (Fo.fl (by decide))
  split
  · exact Fo.it h (Fo.fl (by decide))
  · exact Fo.fl (by decide)
theorem Fo.line {k row : Nat} (h : Fo S) : Fo (pLk T n k row S) := by
  unfold pLk
  split
  · exact Fo.B (Fo.nw h) (fun _ h => Fo.B (Fo.tk h) (fun _ h => Fo.B (Fo.tk (Fo.sv h)) (fun _ h => (Fo.sv h))))
  · exact Fo.B (Fo.fn h) (fun _ h => Fo.B (Fo.fn (Fo.av h)) (fun _ h => Fo.it (Fo.av (Fo.sv (Fo.sv h))) (Fo.fl (by decide))))
  · refine Fo.B (Fo.nw h) (fun _ h => Fo.it (Fo.fl (by decide)) (Fo.it (Fo.fl (by decide)) ?_))
    unfold pWom2
    refine Fo.it ?_ (Fo.fl (by decide))
    exact Fo.B (Fo.fn (Fo.av (Fo.av (Fo.sv h)))) (fun _ h => Fo.B (Fo.tk (Fo.av (Fo.sv h))) (fun _ h => Fo.B (Fo.tk (Fo.sv h)) (fun _ h => (Fo.sv h))))
  · exact Fo.B (Fo.fn h) (fun _ h => Fo.B (Fo.tk (Fo.av (Fo.sv h))) (fun _ h => (Fo.sv h)))
  · exact Fo.B (Fo.fn h) (fun _ h => Fo.B (Fo.tk (Fo.av (Fo.sv h))) (fun _ h => (Fo.sv h)))
  · exact Fo.B (Fo.nw h) (fun _ h => Fo.B (Fo.tk h) (fun _ h => Fo.B (Fo.tk (Fo.sv h)) (fun _ h => (Fo.sv h))))
  · exact Fo.B (Fo.tk h) (fun _ h => Fo.B (Fo.tk (Fo.sv h)) (fun _ h => (Fo.sv h)))
theorem Fo.ls (h : Fo S) : Fo (pLs T n S) := by
  unfold pLs
  refine Fo.it (Fo.fl (by decide)) (Fo.it (Fo.fl (by decide)) ?_)
  unfold pLn
  refine Fo.it ?_ (Fo.it (Fo.fl (by decide)) (Fo.it (Fo.fl (by decide)) ?_))
  · unfold pOath
    exact Fo.it (Fo.B (Fo.tk (Fo.av h)) (fun _ h => Fo.B (Fo.tk h) (fun _ h => (Fo.sv (Fo.sv h))))) (Fo.fl (by decide))
  · exact Fo.line h
theorem Fo.L (h : Fo S) : Fo (pL T n S) := Fo.B (Fo.ls h) (fun _ h => Fo.it h h)
theorem Fo.rd : ∀ m S, Fo S → Fo (pRd T n m S)
  | 0, _, h => h
  | m + 1, _, h => Fo.B (Fo.L h) (fun _ h => Fo.it (Fo.rd m _ h) (Fo.it (Fo.it (Fo.fl (by decide)) (Fo.it (Fo.fl (by decide)) h)) (Fo.fl (by decide))))
end
theorem zF_6 {T : Nat → Nat} {n o : Nat} {I : Nat → Nat → Int32} : zF (pRd T n 901 (S0 I o)) ≤ 6 := Fo.rd _ _ (Nat.zero_le 6)
theorem nu_iL {N L : Nat} (h : N ≤ L) (h9 : L ≤ 900) : nuS (nI N) 0 (nI L) = 0 := by
  have e1 : ¬ nI N < 0 := nI_nlt (a := N) (b := 0) (by omega) (by omega)
  have e2 : ¬ nI L < nI N := nI_nlt (a := L) (b := N) h (by omega)
  unfold nuS
  simp only [e1, e2, Int32.not_lt.mp e1, Int32.not_lt.mp e2, ↓reduceIte]
set_option maxRecDepth 10000 in
theorem c_oath_no {I : Nat → Nat → Int32} {J : Nat → Nat → Int64} {F : Nat → Nat → Option Nat} {nc ns : Nat} {T : Nat → Nat} {N L o q : Nat} (ho : isO o) (hq : isO q) (hF : RFok F) (hdF : F 3 0 = some o) (hoF : F 0 2 = some q) (hL : I 1 1 = nI L) (hNL : N ≤ L) (hL9 : L ≤ 900) (htx : ∀ i, i < N → T i < 256 ∧ I 2 i = sB (T i)) (hkw : ∀ k, k < 25 → J 21 k = lN (KWf k)) (hz : ¬ zF (pRd T N 901 (S0 I o)) = 0) : Ew 7 mX11_oath 0 [.ref 0, .int (nI N), .null] [] ((SH, nc, ns), I, J, F) (Ret nc ns (some (.int (-1))) (fun I' J' F' => F' = F ∧ (∀ k, k ≠ 3 → k ≠ 22 → J' k = J k) ∧ (∀ k, k ≠ 0 → k ≠ 1 → k ≠ 3 → k ≠ 23 → k ≠ 24 → (k < o ∨ o + 17 ≤ k) → I' k = I k) ∧ (∀ j, j ≠ 10 → j ≠ 11 → j ≠ 12 → I' 0 j = I 0 j) ∧ I' 0 10 = 4 ∧ I' 0 11 = nI (zF (pRd T N 901 (S0 I o))) ∧ I' 0 12 = nI (tS T N (zP (pRd T N 901 (S0 I o)))) ∧ I' 1 1 = 0)) := by
  have hS' : pRd T N 901 (S0 (hp_u I 0 10 0) o) = pRd T N 901 (S0 I o) := congrArg _ (S0_u ho)
  have h6 := zF_6 (T := T) (n := N) (o := o) (I := I)
  generalize hg : pRd T N 901 (S0 I o) = S' at *
  refine we_aload_n (p := 1) dX11_oath_0 rfl rfl ?_
  refine we_iload_n (p := 2) dX11_oath_1 rfl rfl ?_
  refine we_iconst (v := 0) (p := 3) dX11_oath_2 (by decide) rfl ?_
  refine we_aload_n (p := 4) dX11_oath_3 rfl rfl ?_
  refine we_getR (c := 10) (j := 0) (n := 13) (b := 1) (p := 7) dX11_oath_4 rfl rfl (by decide) (by decide) rfl (r_0_0 hF) rfl ?_
  refine wf_getI (c := 9) (j := 1) (n := 2) (v := nI L) (p := 10) dX11_oath_7 rfl rfl (by decide) (by decide) (Or.inl rfl) hL rfl ?_
  refine we_callS_int (p := 13) (k' := 0) (a := [.int (nI N), .int 0, .int (nI L)]) (rr := [.ref 0]) dX11_oath_10 rfl rfl rfl rfl rfl (rc_st rfl) (Nat.le_of_ble_eq_true rfl) (Nat.le_of_ble_eq_true rfl) (by decide) (Ev.i (nu_iL hNL hL9) x_ofNumber) (Or.inl rfl) rfl ?_
  refine we_callV_int (p := 16) (k' := 0) (a := [.ref 0, .int 0]) (rr := []) dX11_oath_13 rfl rfl rfl rfl (rc_of rfl rfl (by decide) ⟨rfl, by decide⟩) (Nat.le_of_ble_eq_true rfl) (Nat.le_of_ble_eq_true rfl) (by decide) (Ev.i (show rfS 0 = 0 by decide) (x_refused)) (Or.inl rfl) rfl ?_
  refine we_if_eq (t := 21) (p := 19) dX11_oath_16 (by decide) rfl rfl (fun hc16 => ?_) (fun hc16 => absurd (by decide) hc16)
  refine we_aload_n (p := 22) dX11_oath_21 rfl rfl ?_
  refine we_aload_n (p := 23) dX11_oath_22 rfl rfl ?_
  refine we_getR (c := 10) (j := 1) (n := 13) (b := 3) (p := 26) dX11_oath_23 rfl rfl (by decide) (by decide) rfl (r_0_1 hF) rfl ?_
  refine we_iload_n (p := 27) dX11_oath_26 rfl rfl ?_
  obtain ⟨_, _, e1, rfl, I1, J1, F1, rfl, rfl, q1, j1, z1⟩ := RdT.r (S' := S') (hS' ▸ x_read (T := T) (N := N) (o := o) (I := hp_u I 0 10 0) (J := J) (nc := nc) (ns := ns) ho hF hdF (by omega) (fun i hi => ⟨(htx i hi).1, (congrFun (hu_ne (by decide)) i).trans (htx i hi).2⟩) hkw)
  refine we_callV_int (p := 30) (k' := 6) (a := [.ref 3, .int (nI N)]) (rr := [.ref 0]) dX11_oath_27 rfl rfl rfl rfl (rc_of rfl rfl (by decide) ⟨rfl, by decide⟩) (Nat.le_of_ble_eq_true rfl) (Nat.le_of_ble_eq_true rfl) (by decide) e1 (Or.inl rfl) rfl ?_
  have h31 : I1 3 1 = nI (tS T N (zP S')) := by
    rcases z1 with ⟨z, -⟩ | z
    · exact absurd z hz
    · exact z.2
  refine we_putI (c := 10) (j := 11) (n := 13)  (p := 33) dX11_oath_30 rfl rfl (by decide) (by decide) rfl rfl rfl ?_
  refine we_aload_n (p := 34) dX11_oath_33 rfl rfl ?_
  refine we_getR (c := 10) (j := 0) (n := 13) (b := 1) (p := 37) dX11_oath_34 rfl rfl (by decide) (by decide) rfl (r_0_0 hF) rfl ?_
  refine we_iconst (v := 0) (p := 38) dX11_oath_37 (by decide) rfl ?_
  refine we_putI (c := 9) (j := 1) (n := 2)  (p := 41) dX11_oath_38 rfl rfl (by decide) (by decide) rfl rfl rfl ?_
  refine we_aload_n (p := 42) dX11_oath_41 rfl rfl ?_
  refine wf_getI (c := 10) (j := 11) (n := 13) (v := nI (zF S')) (p := 45) dX11_oath_42 rfl rfl (by decide) (by decide) (Or.inl rfl) ((congrFun (hu_ne (by decide)) 11).trans hu_eq) rfl ?_
  refine we_if_eq (t := 66) (p := 48) dX11_oath_45 (by decide) rfl rfl (fun hc45 => absurd hc45 (nI_ne0 (by omega) (by omega))) (fun hc45 => ?_)
  refine we_aload_n (p := 49) dX11_oath_48 rfl rfl ?_
  refine we_aload_n (p := 50) dX11_oath_49 rfl rfl ?_
  refine we_getR (c := 10) (j := 1) (n := 13) (b := 3) (p := 53) dX11_oath_50 rfl rfl (by decide) (by decide) rfl (r_0_1 hF) rfl ?_
  refine wf_getI (c := 7) (j := 1) (n := 16) (v := nI (tS T N (zP S'))) (p := 56) dX11_oath_53 rfl rfl (by decide) (by decide) (Or.inl rfl) ((congrFun ((hu_ne (by decide)).trans (hu_ne (by decide))) 1).trans h31) rfl ?_
  refine we_putI (c := 10) (j := 12) (n := 13)  (p := 59) dX11_oath_56 rfl rfl (by decide) (by decide) rfl rfl rfl ?_
  refine we_aload_n (p := 60) dX11_oath_59 rfl rfl ?_
  refine we_iconst (v := 4) (p := 61) dX11_oath_60 (by decide) rfl ?_
  refine we_putI (c := 10) (j := 10) (n := 13)  (p := 64) dX11_oath_61 rfl rfl (by decide) (by decide) rfl rfl rfl ?_
  refine we_iconst (v := -1) (p := 65) dX11_oath_64 (by decide) rfl ?_
  exact wi_ret dX11_oath_65 rfl rfl (by decide) (⟨rfl, _, _, _, rfl, rfl, j1, fun k a b c d e f => by rw [hu_ne a, hu_ne a, hu_ne b, hu_ne a, q1 k c d e f, hu_ne a], fun j a b c => by
    rw [hu_nj a, hu_nj c, hu_ne (show (0 : Nat) ≠ 1 by decide), hu_nj b, q1 0 (by decide) (by decide) (by decide) (by rcases ho with rfl | rfl <;> omega), hu_nj a], hu_eq, by
    rw [hu_nj (by decide), hu_nj (by decide), hu_ne (show (0 : Nat) ≠ 1 by decide), hu_eq], by
    rw [hu_nj (by decide), hu_eq], by
    rw [hu_ne (by decide), hu_ne (by decide), hu_eq]⟩)
theorem lSH {o : Nat} (h : isO o) : o < SH.length := by rcases h with rfl | rfl <;> decide
theorem oE_k {I I' : Nat → Nat → Int32} {o : Nat} {D : oD} (h : oE I o D) (e : ∀ k, o ≤ k → k < o + 17 → I' k = I k) : oE I' o D := by
  refine ⟨by rw [e o (Nat.le_refl _) (by omega)]; exact h.1, by rw [e o (Nat.le_refl _) (by omega)]; exact h.2.1, fun j h1 h2 => ?_⟩
  rw [e _ (by omega) (by omega)]
  exact h.2.2 j h1 h2
set_option maxRecDepth 10000 in
theorem c_oath_ok {I : Nat → Nat → Int32} {J : Nat → Nat → Int64} {F : Nat → Nat → Option Nat} {nc ns : Nat} {T : Nat → Nat} {N L o q : Nat} (ho : isO o) (hq : isO q) (hF : RFok F) (hdF : F 3 0 = some o) (hoF : F 0 2 = some q) (hL : I 1 1 = nI L) (hNL : N ≤ L) (hL9 : L ≤ 900) (htx : ∀ i, i < N → T i < 256 ∧ I 2 i = sB (T i)) (hkw : ∀ k, k < 25 → J 21 k = lN (KWf k)) (hz : zF (pRd T N 901 (S0 I o)) = 0) : Ew 7 mX11_oath 0 [.ref 0, .int (nI N), .null] [] ((SH, nc, ns), I, J, F) (Ret nc ns (some (.int (zD (pRd T N 901 (S0 I o)) 2 2))) (fun I' J' F' => F' = hp_u (hp_u F 3 0 (some q)) 0 2 (some o) ∧ (∀ k, k ≠ 3 → k ≠ 22 → J' k = J k) ∧ (∀ k, k ≠ 0 → k ≠ 1 → k ≠ 3 → k ≠ 23 → k ≠ 24 → k ≠ 42 → k ≠ 43 → (k < o ∨ o + 17 ≤ k) → I' k = I k) ∧ (∀ j, j ≠ 10 → j ≠ 11 → I' 0 j = I 0 j) ∧ I' 0 10 = 0 ∧ I' 0 11 = 0 ∧ I' 1 1 = 0 ∧ mo I' 42 (fun _ => 0) ∧ I' 43 2 = 0 ∧ I' 43 3 = 0 ∧ oE I' o (zD (pRd T N 901 (S0 I o))) ∧ zI T N (pRd T N 901 (S0 I o)))) := by
  have hS' : pRd T N 901 (S0 (hp_u I 0 10 0) o) = pRd T N 901 (S0 I o) := congrArg _ (S0_u ho)
  have h6 := zF_6 (T := T) (n := N) (o := o) (I := I)
  generalize hg : pRd T N 901 (S0 I o) = S' at *
  refine we_aload_n (p := 1) dX11_oath_0 rfl rfl ?_
  refine we_iload_n (p := 2) dX11_oath_1 rfl rfl ?_
  refine we_iconst (v := 0) (p := 3) dX11_oath_2 (by decide) rfl ?_
  refine we_aload_n (p := 4) dX11_oath_3 rfl rfl ?_
  refine we_getR (c := 10) (j := 0) (n := 13) (b := 1) (p := 7) dX11_oath_4 rfl rfl (by decide) (by decide) rfl (r_0_0 hF) rfl ?_
  refine wf_getI (c := 9) (j := 1) (n := 2) (v := nI L) (p := 10) dX11_oath_7 rfl rfl (by decide) (by decide) (Or.inl rfl) hL rfl ?_
  refine we_callS_int (p := 13) (k' := 0) (a := [.int (nI N), .int 0, .int (nI L)]) (rr := [.ref 0]) dX11_oath_10 rfl rfl rfl rfl rfl (rc_st rfl) (Nat.le_of_ble_eq_true rfl) (Nat.le_of_ble_eq_true rfl) (by decide) (Ev.i (nu_iL hNL hL9) x_ofNumber) (Or.inl rfl) rfl ?_
  refine we_callV_int (p := 16) (k' := 0) (a := [.ref 0, .int 0]) (rr := []) dX11_oath_13 rfl rfl rfl rfl (rc_of rfl rfl (by decide) ⟨rfl, by decide⟩) (Nat.le_of_ble_eq_true rfl) (Nat.le_of_ble_eq_true rfl) (by decide) (Ev.i (show rfS 0 = 0 by decide) (x_refused)) (Or.inl rfl) rfl ?_
  refine we_if_eq (t := 21) (p := 19) dX11_oath_16 (by decide) rfl rfl (fun hc16 => ?_) (fun hc16 => absurd (by decide) hc16)
  refine we_aload_n (p := 22) dX11_oath_21 rfl rfl ?_
  refine we_aload_n (p := 23) dX11_oath_22 rfl rfl ?_
  refine we_getR (c := 10) (j := 1) (n := 13) (b := 3) (p := 26) dX11_oath_23 rfl rfl (by decide) (by decide) rfl (r_0_1 hF) rfl ?_
  refine we_iload_n (p := 27) dX11_oath_26 rfl rfl ?_
  obtain ⟨_, _, e1, rfl, I1, J1, F1, rfl, rfl, q1, j1, z1⟩ := RdT.r (S' := S') (hS' ▸ x_read (T := T) (N := N) (o := o) (I := hp_u I 0 10 0) (J := J) (nc := nc) (ns := ns) ho hF hdF (by omega) (fun i hi => ⟨(htx i hi).1, (congrFun (hu_ne (by decide)) i).trans (htx i hi).2⟩) hkw)
  refine we_callV_int (p := 30) (k' := 6) (a := [.ref 3, .int (nI N)]) (rr := [.ref 0]) dX11_oath_27 rfl rfl rfl rfl (rc_of rfl rfl (by decide) ⟨rfl, by decide⟩) (Nat.le_of_ble_eq_true rfl) (Nat.le_of_ble_eq_true rfl) (by decide) e1 (Or.inl rfl) rfl ?_
  have hoz : oE I1 o (zD S') ∧ zI T N S' := by
    rcases z1 with z | ⟨z, -⟩
    · exact z.2
    · exact absurd hz z
  obtain ⟨hoe, hzi⟩ := hoz
  have hX : ∀ k, k ≠ 0 → k ≠ 1 → k ≠ 42 → k ≠ 43 → hp_u (hp_u (begI (hp_u (hp_u I1 0 11 (nI (zF S'))) 1 1 0)) 43 2 0) 43 3 0 k = I1 k := fun k a b c d => by rw [hu_ne d, hu_ne d, begI_ne c, hu_ne b, hu_ne a]
  have hcnt : hp_u (hp_u (begI (hp_u (hp_u I1 0 11 (nI (zF S'))) 1 1 0)) 43 2 0) 43 3 0 (o + 1) 2 = zD S' 2 2 := by
    rw [hX (o + 1) (by omega) (by rcases ho with rfl | rfl <;> omega) (by rcases ho with rfl | rfl <;> omega) (by rcases ho with rfl | rfl <;> omega)]
    exact congrFun (hoe.2.2 2 (by decide) (by decide)) 2
  refine we_putI (c := 10) (j := 11) (n := 13)  (p := 33) dX11_oath_30 rfl rfl (by decide) (by decide) rfl rfl rfl ?_
  refine we_aload_n (p := 34) dX11_oath_33 rfl rfl ?_
  refine we_getR (c := 10) (j := 0) (n := 13) (b := 1) (p := 37) dX11_oath_34 rfl rfl (by decide) (by decide) rfl (r_0_0 hF) rfl ?_
  refine we_iconst (v := 0) (p := 38) dX11_oath_37 (by decide) rfl ?_
  refine we_putI (c := 9) (j := 1) (n := 2)  (p := 41) dX11_oath_38 rfl rfl (by decide) (by decide) rfl rfl rfl ?_
  refine we_aload_n (p := 42) dX11_oath_41 rfl rfl ?_
  refine wf_getI (c := 10) (j := 11) (n := 13) (v := nI (zF S')) (p := 45) dX11_oath_42 rfl rfl (by decide) (by decide) (Or.inl rfl) ((congrFun (hu_ne (by decide)) 11).trans hu_eq) rfl ?_
  refine we_if_eq (t := 66) (p := 48) dX11_oath_45 (by decide) rfl rfl (fun hc45 => ?_) (fun hc45 => absurd (by rw [hz]; rfl) hc45)
  refine we_aload_n (p := 67) dX11_oath_66 rfl rfl ?_
  refine we_getR (c := 10) (j := 1) (n := 13) (b := 3) (p := 70) dX11_oath_67 rfl rfl (by decide) (by decide) rfl (r_0_1 hF) rfl ?_
  refine we_getR (c := 7) (j := 0) (n := 16) (b := o) (p := 73) dX11_oath_70 rfl rfl (by decide) (by decide) rfl hdF rfl ?_
  refine we_astore_n (ls1 := [.ref 0, .int (nI N), .ref o]) (p := 74) dX11_oath_73 rfl rfl ?_
  refine we_aload_n (p := 75) dX11_oath_74 rfl rfl ?_
  refine we_getR (c := 10) (j := 1) (n := 13) (b := 3) (p := 78) dX11_oath_75 rfl rfl (by decide) (by decide) rfl (r_0_1 hF) rfl ?_
  refine we_aload_n (p := 79) dX11_oath_78 rfl rfl ?_
  refine we_getR (c := 10) (j := 2) (n := 13) (b := q) (p := 82) dX11_oath_79 rfl rfl (by decide) (by decide) rfl hoF rfl ?_
  refine we_putR (c := 7) (j := 0) (n := 16)  (p := 85) dX11_oath_82 rfl rfl (by decide) (by decide) rfl (by decide) (lSH hq) rfl ?_
  refine we_aload_n (p := 86) dX11_oath_85 rfl rfl ?_
  refine we_aload_n (p := 87) dX11_oath_86 rfl rfl ?_
  refine we_putR (c := 10) (j := 2) (n := 13)  (p := 90) dX11_oath_87 rfl rfl (by decide) (by decide) rfl (by decide) (lSH ho) rfl ?_
  refine we_aload_n (p := 91) dX11_oath_90 rfl rfl ?_
  refine we_getR (c := 10) (j := 3) (n := 13) (b := 42) (p := 94) dX11_oath_91 rfl rfl (by decide) (by decide) rfl (r_0_3 (RF_o hF)) rfl ?_
  refine we_callV_v (p := 97) (k' := 0) (a := [.ref 42]) (rr := []) dX11_oath_94 rfl rfl rfl rfl (rc_of rfl rfl (by decide) ⟨rfl, by decide⟩) (Nat.le_of_ble_eq_true rfl) (Nat.le_of_ble_eq_true rfl) (by decide) x_begin (Or.inl rfl) rfl ?_
  refine we_aload_n (p := 98) dX11_oath_97 rfl rfl ?_
  refine we_getR (c := 10) (j := 4) (n := 13) (b := 43) (p := 101) dX11_oath_98 rfl rfl (by decide) (by decide) rfl (r_0_4 (RF_o hF)) rfl ?_
  refine we_callV_v (p := 104) (k' := 0) (a := [.ref 43]) (rr := []) dX11_oath_101 rfl rfl rfl rfl (rc_of rfl rfl (by decide) ⟨rfl, by decide⟩) (Nat.le_of_ble_eq_true rfl) (Nat.le_of_ble_eq_true rfl) (by decide) x_forget (Or.inl rfl) rfl ?_
  refine we_aload_n (p := 105) dX11_oath_104 rfl rfl ?_
  refine we_getR (c := 10) (j := 2) (n := 13) (b := o) (p := 108) dX11_oath_105 rfl rfl (by decide) (by decide) rfl hu_eq rfl ?_
  refine we_getR (c := 4) (j := 2) (n := 18) (b := (o + 1)) (p := 111) dX11_oath_108 rfl (s_o ho) (l_o0 ho) (by decide) rfl (r_o2 (RF_o hF) ho) rfl ?_
  refine we_iconst (v := 2) (p := 112) dX11_oath_111 (by decide) rfl ?_
  refine wf_iald (n := 7) (i := 2) (v := zD S' 2 2) (p := 113) dX11_oath_112 (s_o1 ho) (l_o ho 1 (by decide)) (by decide) (by decide) hcnt rfl ?_
  exact wi_ret dX11_oath_113 rfl rfl (by decide) (⟨rfl, _, _, _, rfl, rfl, j1, fun k a b c d e f g h => by rw [hX k a b f g, q1 k c d e h, hu_ne a], fun j a b => by
    rw [hu_ne (by decide), hu_ne (by decide), begI_ne (by decide), hu_ne (show (0 : Nat) ≠ 1 by decide), hu_nj b, q1 0 (by decide) (by decide) (by decide) (by rcases ho with rfl | rfl <;> omega), hu_nj a], by
    rw [hu_ne (by decide), hu_ne (by decide), begI_ne (by decide), hu_ne (show (0 : Nat) ≠ 1 by decide), hu_nj (by decide), q1 0 (by decide) (by decide) (by decide) (by rcases ho with rfl | rfl <;> omega), hu_eq], by
    rw [hu_ne (by decide), hu_ne (by decide), begI_ne (by decide), hu_ne (show (0 : Nat) ≠ 1 by decide), hu_eq, hz]; rfl, by
    rw [hu_ne (by decide), hu_ne (by decide), begI_ne (by decide), hu_eq], mo_u (mo_u begI_mo (by decide)) (by decide), by rw [hu_nj (by decide), hu_eq], hu_eq, oE_k hoe (fun k h1 h2 => hX k (by rcases ho with rfl | rfl <;> omega) (by rcases ho with rfl | rfl <;> omega) (by rcases ho with rfl | rfl <;> omega) (by rcases ho with rfl | rfl <;> omega)), hzi⟩)
set_option maxRecDepth 10000 in
theorem c_oath_no2 {I : Nat → Nat → Int32} {J : Nat → Nat → Int64} {F : Nat → Nat → Option Nat} {nc ns : Nat} (hF : RFok F) {l v : Int32} (hL : I 1 1 = l) (ht : ¬ nuS v 0 l = 0)  : Ev 1 mX11_oath 0 [.ref 0, .int v, .null] [] ((SH, nc, ns), I, J, F) (some (.int (-1))) ((SH, nc, ns), hp_u I 0 10 (nuS v 0 l), J, F) := by
  refine e_aload_n (p := 1) dX11_oath_0 rfl rfl ?_
  refine e_iload_n (p := 2) dX11_oath_1 rfl rfl ?_
  refine e_iconst (v := 0) (p := 3) dX11_oath_2 (by decide) rfl ?_
  refine e_aload_n (p := 4) dX11_oath_3 rfl rfl ?_
  refine e_getR (c := 10) (j := 0) (n := 13) (b := 1) (p := 7) dX11_oath_4 rfl rfl (by decide) (by decide) rfl (r_0_0 hF) rfl ?_
  refine f_getI (c := 9) (j := 1) (n := 2) (v := l) (p := 10) dX11_oath_7 rfl rfl (by decide) (by decide) (Or.inl rfl) hL rfl ?_
  refine e_callS_int (p := 13) (k' := 0) (a := [.int v, .int 0, .int l]) (rr := [.ref 0]) dX11_oath_10 rfl rfl rfl rfl rfl (rc_st rfl) (Nat.le_of_ble_eq_true rfl) (Nat.le_of_ble_eq_true rfl) (by decide) x_ofNumber (Or.inl rfl) rfl ?_
  refine e_callV_int (p := 16) (k' := 0) (a := [.ref 0, .int (nuS v 0 l)]) (rr := []) dX11_oath_13 rfl rfl rfl rfl (rc_of rfl rfl (by decide) ⟨rfl, by decide⟩) (Nat.le_of_ble_eq_true rfl) (Nat.le_of_ble_eq_true rfl) (by decide) x_refused (Or.inl rfl) rfl ?_
  refine e_if_eq (t := 21) (p := 19) dX11_oath_16 (by decide) rfl rfl (fun hc16 => absurd hc16 (rf_ne ht)) (fun hc16 => ?_)
  refine e_iconst (v := -1) (p := 20) dX11_oath_19 (by decide) rfl ?_
  exact e_iretE dX11_oath_20 rfl rfl (by decide) ⟨rfl, rfl⟩
