/-! Class and reference side by side: the tape, the oath. -/
def btF (a b c d e : Int32) (j : Nat) : Nat := (mB (sel5 a b c d e j) j).toNatClampNeg
theorem bt_of {a b c d e : Int32} {j : Nat} (hj : j < 20) : btF a b c d e j < 256 ∧ mB (sel5 a b c d e j) j = nI (btF a b c d e j) ∧ cB (sel5 a b c d e j) (nI (24 - 8 * (j % 4))) = sB (btF a b c d e j) := by
  obtain ⟨z, h1, h2, h3⟩ := mB_of (a := sel5 a b c d e j) hj
  have e1 : btF a b c d e j = z := by
    unfold btF
    rw [h2, nI_cl (by omega)]
  rw [e1]
  exact ⟨h1, h2, h3⟩
def tpT (L : Nat) (T : Nat → Nat) (g : Nat → Nat) : Nat → Nat := fun i => if i < L then T i else g (i - L)
theorem k_feed {a b c d e : Int32} : Cl 2 0 mX11_feed mX12_feed [.int a, .int b, .int c, .int d, .int e] [.int a, .int b, .int c, .int d, .int e, .null, .null] := by
  rintro ⟨D, s, K, U, M, V, L, T, t, f, p, pm⟩ hw
  obtain ⟨hW, hS, hK, hU, hM3, hV, hL, hT, hz, h4⟩ := id hw
  by_cases hc : L + 20 ≤ 900
  · refine ⟨.int (nI (L + 20)), (D, s, K, U, M, V, L + 20, tpT L T (btF a b c d e), t, f, p, pm), ⟨hW, hS, hK, hU, hM3, hV, hc, fun i hi => ?_, hz, h4⟩, fun I J F nc ns ⟨o, q, g1, g2, g3, g4, g5, g6, g7, g8, g9, g10, g11, g12, g13, g14, g15, g16, g17, g18⟩ => (c_feed_ok g4 g13 hc).ret (fun I' J' F' ⟨z1, z2, z3, z4, z5, z6⟩ => ?_), fun I J F nc ns hF ⟨m1, m2, m3, m4, m5, m6, m7, m8, m9, m10, m11, m12⟩ => (q_feed_ok hF m8 hc).ret (fun I' J' F' ⟨z1, z2, z3, z4, z5, z6⟩ => ?_)⟩
    · unfold tpT
      split
      · exact hT i (by assumption)
      · exact (bt_of (by omega)).1
    · subst z1
      subst z2
      have e0 : I' 0 = I 0 := z3 0 (by omega)
      refine ⟨⟨o, q, g1, g2, g3, g4, g5, g6, oC_fr g7 g1 (fun k h1 h2 => z3 k (by omega)), mo_fr g8 (z3 42 (by omega)), ?_, ?_, pastC_fr g11 (fun k h1 h2 => z3 k (by omega)) rfl hK, fun i hi => mo_fr (g12 i hi) (z3 _ (by omega)), z4, fun i hi => ?_, ?_, ?_, ?_, g18⟩, fC.of (fun k hk => z3 k (by omega)) (fun _ _ => rfl) (fun _ _ => rfl)⟩
      · rw [z3 43 (by omega)]; exact g9
      · rw [z3 43 (by omega)]; exact g10
      · unfold tpT
        by_cases ci : i < L
        · rw [if_pos ci, z5 i ci]; exact g14 i ci
        · rw [if_neg ci]
          have := z6 (i - L) (by omega)
          rw [show L + (i - L) = i by omega, (bt_of (by omega)).2.2] at this
          exact this
      · rw [e0]; exact g15
      · rw [e0]; exact g16
      · rw [e0]; exact g17
    · subst z1
      subst z2
      obtain ⟨z3, z7⟩ := z3
      have ee : ∀ k, k ≠ 95 → k ≠ 96 → I' k = I k := fun k h1 h2 => (z3 k h1 (by omega)).trans (hu_ne h1)
      have e9 : ∀ j, j ≠ 0 → j ≠ 2 → I' 95 j = I 95 j := fun j h1 h2 => (z7 j (by omega)).trans (hu_nj h1)
      refine ⟨⟨oM_fr m1 (ee 98 (by omega) (by omega)), (e9 14 (by omega) (by omega)).trans m2, stM_fr m3 (ee 100 (by omega) (by omega)), (e9 20 (by omega) (by omega)).trans m4, (e9 21 (by omega) (by omega)).trans m5, fun i hi j hj => ?_, fun i hi j hj => ?_, z4, fun i hi => ?_, (e9 11 (by omega) (by omega)).trans m10, (e9 9 (by omega) (by omega)).trans m11, (e9 10 (by omega) (by omega)).trans m12⟩, rfl, fun k hk => ⟨ee k (by omega) (by omega), rfl⟩⟩
      · rw [ee 101 (by omega) (by omega)]; exact m6 i hi j hj
      · rw [ee 102 (by omega) (by omega)]; exact m7 i hi j hj
      · unfold tpT
        by_cases ci : i < L
        · rw [if_pos ci, z5 i ci]; exact m9 i ci
        · rw [if_neg ci]
          have := z6 (i - L) (by omega)
          rw [show L + (i - L) = i by omega, (bt_of (by omega)).2.1] at this
          exact this
  · exact Cq.pl (v := .int (-1)) hw (fun I J F nc ns ⟨o, q, g1, g2, g3, g4, g5, g6, g7, g8, g9, g10, g11, g12, g13, g14, g15, g16, g17, g18⟩ => c_feed_no g4 g13 hc hL) (fun I J F nc ns hF ⟨m1, m2, m3, m4, m5, m6, m7, m8, m9, m10, m11, m12⟩ => q_feed_no hF m8 hc hL)
/-- the same, told of one heap -/
def Cv (kC kM : Nat) (mC mM : ev_M) (aC aM : List Value) : Prop := ∀ x I J F, WD x → CR I J F x → MR I x → ∃ v y, WD y ∧ (∀ nc ns, Ew kC mC 0 (.ref 0 :: aC) [] ((SH, nc, ns), I, J, F) (Ret nc ns (some v) (fun I' J' F' => CR I' J' F' y ∧ fC I I' J J' F F'))) ∧
  ∀ I J F nc ns, RFok F → MR I x → Ew kM mM 0 (.ref 95 :: aM) [] ((SH, nc, ns), I, J, F) (Ret nc ns (some v) (fun I' J' F' => MR I' y ∧ fM2 I I' J J' F F'))
theorem Cl.v {kC kM : Nat} {mC mM : ev_M} {aC aM : List Value} (h : Cl kC kM mC mM aC aM) : Cv kC kM mC mM aC aM := by
  intro x I J F hw hC hM
  obtain ⟨v, y, h1, h2, h3⟩ := h x hw
  exact ⟨v, y, h1, fun nc ns => h2 I J F nc ns hC, h3⟩
theorem Cq.v {x : sg} {kC kM : Nat} {mC mM : ev_M} {aC aM : List Value} (h : Cq x kC kM mC mM aC aM) {I : Nat → Nat → Int32} {J : Nat → Nat → Int64} {F : Nat → Nat → Option Nat} (hC : CR I J F x) : ∃ v y, WD y ∧ (∀ nc ns, Ew kC mC 0 (.ref 0 :: aC) [] ((SH, nc, ns), I, J, F) (Ret nc ns (some v) (fun I' J' F' => CR I' J' F' y ∧ fC I I' J J' F F'))) ∧
  ∀ I J F nc ns, RFok F → MR I x → Ew kM mM 0 (.ref 95 :: aM) [] ((SH, nc, ns), I, J, F) (Ret nc ns (some v) (fun I' J' F' => MR I' y ∧ fM2 I I' J J' F F')) := by
  obtain ⟨v, y, h1, h2, h3⟩ := h
  exact ⟨v, y, h1, fun nc ns => h2 I J F nc ns hC, h3⟩
theorem oC_k {I I' : Nat → Nat → Int32} {o : Nat} {D : oD} (h : oC I o D) (e : ∀ k, o ≤ k → k < o + 17 → I' k = I k) : oC I' o D := by
  unfold oC at h ⊢
  rw [e o (by omega) (by omega), e (o + 1) (by omega) (by omega), e (o + 2) (by omega) (by omega), e (o + 3) (by omega) (by omega), e (o + 4) (by omega) (by omega), e (o + 5) (by omega) (by omega), e (o + 6) (by omega) (by omega), e (o + 7) (by omega) (by omega), e (o + 8) (by omega) (by omega), e (o + 9) (by omega) (by omega), e (o + 10) (by omega) (by omega), e (o + 11) (by omega) (by omega), e (o + 12) (by omega) (by omega), e (o + 13) (by omega) (by omega), e (o + 14) (by omega) (by omega), e (o + 15) (by omega) (by omega), e (o + 16) (by omega) (by omega)]
  exact h
theorem oE_C {I : Nat → Nat → Int32} {o : Nat} {D : oD} (h : oE I o D) : oC I o D := by
  obtain ⟨h0, h1, h2⟩ := h
  have e : ∀ j, 2 ≤ j → j < 18 → ∀ i, I (o + (j - 1)) i = D j i := fun j a b i => congrFun (h2 j a b) i
  exact ⟨h0, h1, fun i _ => e 2 (by omega) (by omega) i, fun i _ => ⟨e 3 (by omega) (by omega) i, e 4 (by omega) (by omega) i⟩, fun i _ => e 5 (by omega) (by omega) i, fun i _ => ⟨e 6 (by omega) (by omega) i, e 7 (by omega) (by omega) i, e 8 (by omega) (by omega) i, e 9 (by omega) (by omega) i⟩, fun i _ => ⟨e 10 (by omega) (by omega) i, e 11 (by omega) (by omega) i⟩, fun i _ => ⟨e 12 (by omega) (by omega) i, e 13 (by omega) (by omega) i⟩, fun i _ => ⟨e 14 (by omega) (by omega) i, e 15 (by omega) (by omega) i⟩, fun i _ => ⟨e 16 (by omega) (by omega) i, e 17 (by omega) (by omega) i⟩⟩
theorem isO_ap {o q k : Nat} (ho : isO o) (hq : isO q) (hn : o ≠ q) (h1 : o ≤ k) (h2 : k < o + 17) : (k < q ∨ q + 17 ≤ k) ∧ k ≠ 0 ∧ k ≠ 1 ∧ k ≠ 3 ∧ k ≠ 23 ∧ k ≠ 24 ∧ k ≠ 42 ∧ k ≠ 43 := by
  rcases ho with rfl | rfl <;> rcases hq with rfl | rfl <;> omega
theorem isO_bd {q : Nat} (hq : isO q) : 4 ≤ q ∧ q + 17 ≤ 42 := by rcases hq with rfl | rfl <;> omega
theorem WF_of {T : Nat → Nat} {n : Nat} {S : pZ} (h : zI T n S) (h0 : 0 < dN (zD S) 0) (h2 : 0 < dN (zD S) 2) : WF (zD S) := by
  obtain ⟨-, a1, a2, a3, a4, a5, -⟩ := h
  refine ⟨a1, a2, a3, ?_, a5⟩
  rcases a4 with ⟨-, z⟩ | ⟨z1, z2⟩
  · have := z 0 (by omega)
    omega
  · exact Or.inr ⟨z1, h0, h2, z2⟩
