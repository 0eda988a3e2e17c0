/-! Class and reference side by side: the oath. -/
theorem k_oath {x : Int32} : Cv 7 9 mX11_oath mX12_oath [.int x, .null] [.int x, .null] := by
  rintro ⟨D, s, K, U, M, V, L, T, t, f, p, pm⟩ I J F hw hC hM
  obtain ⟨hW, hS, hK, hU, hM3, hV, hL, hT, hz, h4⟩ := id hw
  by_cases hn : nuS x 0 (nI L) = 0
  · obtain ⟨N, -, hN, rfl⟩ := nu_of (a := 0) (b := L) (by omega) (by omega) hn
    obtain ⟨o, q, g1, g2, g3, g4, g5, g6, g7, g8, g9, g10, g11, g12, g13, g14, g15, g16, g17, g18⟩ := id hC
    have hT1 : ∃ T1 : Nat → Nat, (∀ i, i < L → T1 i = T i) ∧ pm = nI (T1 1000) := ⟨fun i => if i = 1000 then vN pm else T i, fun i hi => if_neg (by omega), by show pm = nI (if 1000 = 1000 then vN pm else T 1000); rw [if_pos rfl]; exact vN_eq pm⟩
    obtain ⟨T1, e1, e2⟩ := hT1
    have tx : ∀ i, i < N → T1 i < 256 ∧ I 2 i = sB (T1 i) := fun i hi => by rw [e1 i (by omega)]; exact ⟨hT i (by omega), g14 i (by omega)⟩
    have hb := isO_bd g2
    have ho' := isO_bd g1
    by_cases hzf : zF (pRd T1 N 901 (S0 I q)) = 0
    · have hpos : zI T1 N (pRd T1 N 901 (S0 I q)) ∧ 0 < dN (zD (pRd T1 N 901 (S0 I q))) 0 ∧ 0 < dN (zD (pRd T1 N 901 (S0 I q))) 2 := by
        obtain ⟨m1, m2, m3, m4, m5, m6, m7, m8, m9, m10, m11, m12⟩ := hM
        obtain ⟨r, h', -, -, I', J', F', -, z⟩ := q_oath_ok (J := J) (nc := 0) (ns := 0) (T := T1) (N := N) (S := S0 I q) g4 m8 hN hL (fun i hi => by rw [e1 i (by omega)]; exact ⟨hT i (by omega), m9 i (by omega)⟩) (m12.trans e2) fr0_S0 zI_S0 hzf
        exact z.2.2.2.2.2.2.2.2.2.2.2.2.2
      have hWF : WF (zD (pRd T1 N 901 (S0 I q))) := WF_of hpos.1 hpos.2.1 hpos.2.2
      have t1 : tol (zD (pRd T1 N 901 (S0 I q))) = 1 := tol_1 hWF (i := 0) (by omega) hpos.2.1
      refine ⟨.int (zD (pRd T1 N 901 (S0 I q)) 2 2), (zD (pRd T1 N 901 (S0 I q)), fun _ => 0, 0, U, 0, V, 0, T, 0, 0, p, pm), ⟨hWF, ⟨⟨0, by omega, rfl⟩, ⟨0, by omega, Or.inl hpos.2.1, rfl⟩, ⟨0, by omega, rfl⟩, ⟨0, by omega, rfl⟩, ⟨0, Nat.pos_of_ne_zero (Nat.ne_of_gt (Nat.pow_pos (by omega))), rfl⟩⟩, by omega, fun i hi => absurd hi (by omega), by omega, fun i hi => absurd hi (by omega), by omega, fun i hi => absurd hi (by omega), tol1_ne t1, fun z => absurd z (by decide)⟩, fun nc ns => (c_oath_ok g2 g1 g4 g6 g5 g13 hN hL tx g18 hzf).ret (fun I' J' F' ⟨z1, z2, z3, z4, z5, z6, z7, z8, z9, z10, z11, _⟩ => ⟨?_, ?_⟩), fun I2 J2 F2 nc ns hF2 ⟨m1, m2, m3, m4, m5, m6, m7, m8, m9, m10, m11, m12⟩ => (q_oath_ok (T := T1) (S := S0 I q) hF2 m8 hN hL (fun i hi => by rw [e1 i (by omega)]; exact ⟨hT i (by omega), m9 i (by omega)⟩) (m12.trans e2) fr0_S0 zI_S0 hzf).ret (fun I' J' F' ⟨z1, z2, z3, z4, z5, z6, z7, z8, z9, z10, z11, z12, z13, _⟩ => ⟨?_, ?_⟩)⟩
      · refine ⟨q, o, g2, g1, Ne.symm g3, ?_, ?_, ?_, oE_C z11, z8, z9, z10, ?_, fun i hi => absurd hi (by omega), z7, fun i hi => absurd hi (by omega), z5, z6, (z4 12 (by omega) (by omega)).trans g17, fun k hk => ?_⟩
        · rw [z1]; exact RF_o g4
        · rw [z1]; exact hu_eq
        · rw [z1, hu_ne (by decide)]; exact hu_eq
        · obtain ⟨pr, ⟨p1, p2⟩, -⟩ := g11
          refine ⟨pr, ⟨fun i hi => ?_, p2⟩, fun i hi => absurd hi (by omega)⟩
          rw [z1, hu_ne (by decide), hu_ne (by decide)]
          exact p1 i hi
        · rw [z2 21 (by omega) (by omega)]; exact g18 k hk
      · refine fC.of (fun k hk => z3 k (by omega) (by omega) (by omega) (by omega) (by omega) (by omega) (by omega) (by omega)) (fun k hk => z2 k (by omega) (by omega)) (fun k hk => by rw [z1, hu_ne (by omega), hu_ne (by omega)])
      · refine ⟨z12, z9.trans t1.symm, z13, z10, z11, fun i hi => absurd hi (by omega), fun i hi => absurd hi (by omega), z5, fun i hi => absurd hi (by omega), z6, z7, z8.trans e2.symm⟩
      · exact ⟨z2, fun k hk => ⟨z3 k (by omega) (by omega) (by omega) (by omega) (by omega), by rw [z1]⟩⟩
    · refine ⟨.int (-1), (D, s, K, U, M, V, 0, T, 4, nI (zF (pRd T1 N 901 (S0 I q))), nI (tS T1 N (zP (pRd T1 N 901 (S0 I q)))), nI (tS T1 N (zP (pRd T1 N 901 (S0 I q))))), ⟨hW, hS, hK, hU, hM3, hV, by omega, fun i hi => absurd hi (by omega), hz, fun _ => rfl⟩, fun nc ns => (c_oath_no g2 g1 g4 g6 g5 g13 hN hL tx g18 hzf).ret (fun I' J' F' ⟨z1, z2, z3, z4, z5, z6, z7, z8⟩ => ⟨?_, ?_⟩), fun I2 J2 F2 nc ns hF2 ⟨m1, m2, m3, m4, m5, m6, m7, m8, m9, m10, m11, m12⟩ => (q_oath_no (T := T1) (S := S0 I q) hF2 m8 hN hL (fun i hi => by rw [e1 i (by omega)]; exact ⟨hT i (by omega), m9 i (by omega)⟩) (m12.trans e2) fr0_S0 zI_S0 hzf).ret (fun I' J' F' ⟨z1, z2, z3, z4, z5, z6, z7, z8⟩ => ⟨?_, ?_⟩)⟩
      · subst z1
        refine ⟨o, q, g1, g2, g3, g4, g5, g6, oC_k g7 (fun k h1 h2 => ?_), mo_fr g8 (z3 42 (by omega) (by omega) (by omega) (by omega) (by omega) (by omega)), ?_, ?_, pastC_fr g11 (fun k h1 h2 => z3 k (by omega) (by omega) (by omega) (by omega) (by omega) (by omega)) rfl hK, fun i hi => mo_fr (g12 i hi) (z3 _ (by omega) (by omega) (by omega) (by omega) (by omega) (by omega)), z8, fun i hi => absurd hi (by omega), z5, z6, z7, fun k hk => ?_⟩
        · have := isO_ap g1 g2 g3 h1 h2
          exact z3 k (by omega) (by omega) (by omega) (by omega) (by omega) (by omega)
        · rw [z3 43 (by omega) (by omega) (by omega) (by omega) (by omega) (by omega)]; exact g9
        · rw [z3 43 (by omega) (by omega) (by omega) (by omega) (by omega) (by omega)]; exact g10
        · rw [z2 21 (by omega) (by omega)]; exact g18 k hk
      · exact fC.of (fun k hk => z3 k (by omega) (by omega) (by omega) (by omega) (by omega) (by omega)) (fun k hk => z2 k (by omega) (by omega)) (fun k hk => by rw [z1])
      · have e9 : ∀ j, 11 < j → j ≠ 13 → I' 95 j = I2 95 j := z4
        refine ⟨oM_fr m1 (z3 98 (by omega) (by omega) (by omega)), (e9 14 (by omega) (by omega)).trans m2, stM_fr m3 (z3 100 (by omega) (by omega) (by omega)), (e9 20 (by omega) (by omega)).trans m4, (e9 21 (by omega) (by omega)).trans m5, fun i hi j hj => ?_, fun i hi j hj => ?_, z5, fun i hi => absurd hi (by omega), z6, z7, z8⟩
        · rw [z3 101 (by omega) (by omega) (by omega)]; exact m6 i hi j hj
        · rw [z3 102 (by omega) (by omega) (by omega)]; exact m7 i hi j hj
      · exact ⟨z2, fun k hk => ⟨z3 k (by omega) (by omega) (by omega), by rw [z1]⟩⟩
  · have e : nuS x 0 (nI L) = 2 := by
      rw [nu_in] at hn ⊢
      by_cases c : inS x 0 (nI L) = 0
      · exact if_pos c
      · rw [if_neg c] at hn
        exact absurd rfl hn
    have ei : inS x 0 (nI L) = 0 := by
      by_cases c : inS x 0 (nI L) = 0
      · exact c
      · rw [nu_in, if_neg c] at hn
        exact absurd rfl hn
    refine Cq.v (Cq.no (v := .int (-1)) (t' := 2) hw (by decide) (fun I J F nc ns ⟨o, q, g1, g2, g3, g4, g5, g6, g7, g8, g9, g10, g11, g12, g13, g14, g15, g16, g17, g18⟩ => ?_) (fun I J F nc ns hF ⟨m1, m2, m3, m4, m5, m6, m7, m8, m9, m10, m11, m12⟩ => ?_)) hC
    · have q := c_oath_no2 (J := J) (nc := nc) (ns := ns) (v := x) g4 g13 hn
      rw [e] at q
      exact q.up (by decide)
    · have q := q_oath_no2 (J := J) (nc := nc) (ns := ns) (v := x) hF m8 ei
      rw [hu_hu] at q
      exact q.up (by decide)
