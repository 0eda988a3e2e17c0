/-! Class and reference side by side: sailed, courted, images. -/
theorem k_sail {x : Int32} : Cl 3 2 mX11_sail mX12_sail [.int x] [.int x] := by
  rintro ⟨D, s, K, U, M, V, L, T, t, f, p, pm⟩ hw
  obtain ⟨hW, hS, hK, hU, hM3, hV, hL, hT, hz, -⟩ := id hw
  have b0 := hW.c.2.1
  by_cases hx : ixS x (dN D 0) = 0
  · obtain ⟨h, hh, rfl⟩ := ix_of (by omega) hx
    have t1 : tol D = 1 := tol_1 hW (i := 0) (by omega) (by omega)
    have e30 : s 0 < 30 ↔ ¬ s 0 = 30 := by
      obtain ⟨⟨l, hl1, e0⟩, -⟩ := hS
      rw [e0]
      constructor
      · intro z y
        rw [y] at z
        exact absurd z (by decide)
      · intro y
        have : l < 30 := by
          by_cases c : l = 30
          · rw [c] at y
            exact absurd rfl y
          · omega
        exact nI_lt (a := l) (b := 30) this (by decide)
    have e : soS D s (nI h) = (if s 2 ≤ 0 then (if canS D (s 1).toNatClampNeg (nI h) = 0 then 5 else if s 0 = 30 then 3 else 0) else 5 : Int32) := by
      unfold soS
      rw [if_pos hx]
      by_cases c : s 0 = 30
      · rw [if_pos c, if_neg (fun z => e30.mp z c)]
      · rw [if_neg c, if_pos (e30.mpr c)]
    by_cases hs : soS D s (nI h) = 0
    · have e2 := hs
      rw [e] at e2
      by_cases c1 : s 2 ≤ 0
      · rw [if_pos c1] at e2
        by_cases c2 : canS D (s 1).toNatClampNeg (nI h) = 0
        · rw [if_pos c2] at e2
          exact absurd e2 (by decide)
        · rw [if_neg c2] at e2
          by_cases c3 : s 0 = 30
          · rw [if_pos c3] at e2
            exact absurd e2 (by decide)
          · exact Cq.ac (v := .int (s 0 + 1)) (s' := landS D s (nI h)) (K' := kpN K) (U' := kpU K U s) hw ⟨hW, land_W hW hS hh (e30.mpr c3), kpN_le hK, kp_W hS hU hK, hM3, hV, hL, hT, tol1_ne t1, fun z => absurd z (by decide)⟩ (fun I J F nc ns ⟨o, q, g1, g2, g3, g4, g5, g6, g7, g8, g9, g10, g11, g12, g13, g14, g15, g16, g17, g18⟩ => c_sail_ok g1 g4 g5 g7 hW g8 hS hK g9 g11 hs) (fun I J F nc ns hF ⟨m1, m2, m3, m4, m5, m6, m7, m8, m9, m10, m11, m12⟩ => q_sail_ok hF m1 hW m2 m3 hS hK m4 m6 hh c1 c2 c3)
      · rw [if_neg c1] at e2
        exact absurd e2 (by decide)
    · refine Cq.no (v := .int (-1)) (t' := soS D s (nI h)) hw (by rw [e]; repeat' (first | decide | apply if4)) (fun I J F nc ns ⟨o, q, g1, g2, g3, g4, g5, g6, g7, g8, g9, g10, g11, g12, g13, g14, g15, g16, g17, g18⟩ => c_sail_no g1 g4 g5 g7 hW g8 hS hs) (fun I J F nc ns hF ⟨m1, m2, m3, m4, m5, m6, m7, m8, m9, m10, m11, m12⟩ => ?_)
      have q := q_sail_no (J := J) (nc := nc) (ns := ns) hF m1 hW m2 m3 hS (h := h) hh (by first | (rw [← e]; exact hs) | (intro z; apply hs; rw [e]; revert z; (repeat' split) <;> simp))
      rw [← e] at q
      exact q
  · have e : soS D s x = 1 := if_neg hx
    refine Cq.no (v := .int (-1)) (t' := 1) hw (by decide) (fun I J F nc ns ⟨o, q, g1, g2, g3, g4, g5, g6, g7, g8, g9, g10, g11, g12, g13, g14, g15, g16, g17, g18⟩ => ?_) (fun I J F nc ns hF ⟨m1, m2, m3, m4, m5, m6, m7, m8, m9, m10, m11, m12⟩ => q_sail_no1 hF m1 hW m2 m3 (if_neg hx))
    have q := c_sail_no (J := J) (nc := nc) (ns := ns) (v := x) g1 g4 g5 g7 hW g8 hS (by rw [e]; decide)
    rw [e] at q
    exact q
theorem k_court {x : Int32} : Cl 5 6 mX11_court mX12_court [.int x] [.int x, .null] := by
  rintro ⟨D, s, K, U, M, V, L, T, t, f, p, pm⟩ hw
  obtain ⟨hW, hS, hK, hU, hM3, hV, hL, hT, hz, -⟩ := id hw
  have b2 := hW.c.2.2.2.1
  by_cases hx : ixS x (dN D 2) = 0
  · obtain ⟨w, hh, rfl⟩ := ix_of (by omega) hx
    have t1 : tol D = 1 := tol_1 hW (i := 2) (by omega) (by omega)
    have e : coS D s w = (if s 2 ≤ 0 then (if D 7 w = s 1 then (if hbS (s 4) (nI w) = 0 then 0 else 5) else 5) else 5 : Int32) := by
      have e1 : triB s (nI w) = 0 ↔ hbS (s 4) (nI w) = 0 := by
        unfold triB
        rw [hb_tb (by omega), tb_at (by omega)]
        cases tb (s 4) w <;> simp
      unfold coS
      simp only [e1]
    by_cases hs : coS D s w = 0
    · have e2 := hs
      rw [e] at e2
      by_cases c1 : s 2 ≤ 0
      · rw [if_pos c1] at e2
        by_cases c2 : D 7 w = s 1
        · rw [if_pos c2] at e2
          by_cases c3 : hbS (s 4) (nI w) = 0
          · have hC := court_W hW hS hh
            have s20 : s 2 = 0 := by
              obtain ⟨-, -, ⟨f, hf, e2⟩, -⟩ := hS
              rw [e2] at c1 ⊢
              by_cases cf : f = 0
              · rw [cf]; rfl
              · exact absurd c1 (nI_nle (by omega) (by omega))
            refine Cq.ac (v := .int (if courtS D s w 2 ≤ 0 then 0 else 1)) (s' := courtS D s w) (K' := kpN K) (U' := kpU K U s) hw ⟨hW, hC, kpN_le hK, kp_W hS hU hK, hM3, hV, hL, hT, tol1_ne t1, fun z => absurd z (by decide)⟩ (fun I J F nc ns ⟨o, q, g1, g2, g3, g4, g5, g6, g7, g8, g9, g10, g11, g12, g13, g14, g15, g16, g17, g18⟩ => c_court_ok g1 g4 g5 g7 hW g8 hS hK g9 g11 hh hs (fr_eq hW hC)) (fun I J F nc ns hF ⟨m1, m2, m3, m4, m5, m6, m7, m8, m9, m10, m11, m12⟩ => ?_)
            by_cases c : (couS D w (s 0) (s 3)).2 = 0
            · exact q_court_ok0 hF m1 hW m2 m3 hK m4 m6 hh c1 s20 c2 c3 c
            · exact q_court_ok1 hF m1 hW m2 m3 hK m4 m6 hh c1 s20 c2 c3 c
          · rw [if_neg c3] at e2
            exact absurd e2 (by decide)
        · rw [if_neg c2] at e2
          exact absurd e2 (by decide)
      · rw [if_neg c1] at e2
        exact absurd e2 (by decide)
    · refine Cq.no (v := .int (-1)) (t' := coS D s w) hw (by rw [e]; repeat' (first | decide | apply if4)) (fun I J F nc ns ⟨o, q, g1, g2, g3, g4, g5, g6, g7, g8, g9, g10, g11, g12, g13, g14, g15, g16, g17, g18⟩ => (c_court_no5 g1 g4 g5 g7 hW g8 hS hh hs).up (by decide)) (fun I J F nc ns hF ⟨m1, m2, m3, m4, m5, m6, m7, m8, m9, m10, m11, m12⟩ => ?_)
      have q := q_court_no (J := J) (nc := nc) (ns := ns) hF m1 hW m2 m3 (w := w) hh (by first | (rw [← e]; exact hs) | (intro z; apply hs; rw [e]; revert z; (repeat' split) <;> simp))
      rw [← e] at q
      exact q
  · exact Cq.no (v := .int (-1)) (t' := 1) hw (by decide) (fun I J F nc ns ⟨o, q, g1, g2, g3, g4, g5, g6, g7, g8, g9, g10, g11, g12, g13, g14, g15, g16, g17, g18⟩ => (c_court_no1 g1 g4 g5 g7 hW g8 hS hx).up (by decide)) (fun I J F nc ns hF ⟨m1, m2, m3, m4, m5, m6, m7, m8, m9, m10, m11, m12⟩ => q_court_no1 hF m1 hW m2 m3 (if_neg hx))
def imV (M : Nat) (V : Nat → Nat → Int32) (s : Nat → Int32) : Nat → Nat → Int32 := fun i => if i = M then s else V i
theorem k_image : Cl 2 1 mX11_image mX12_image [] [] := by
  rintro ⟨D, s, K, U, M, V, L, T, t, f, p, pm⟩ hw
  obtain ⟨hW, hS, hK, hU, hM3, hV, hL, hT, hz, -⟩ := id hw
  rcases tol_01 (D := D) with h | h
  · have e1 : toS D = 1 := if_pos h
    have hM0 : M = 0 := (hz h).2.2.2.2.2
    have e : eiS (toS D) 0 = 1 := by rw [e1]; decide
    refine Cq.no (v := .int (-1)) (t' := 1) hw (by decide) (fun I J F nc ns ⟨o, q, g1, g2, g3, g4, g5, g6, g7, g8, g9, g10, g11, g12, g13, g14, g15, g16, g17, g18⟩ => ?_) (fun I J F nc ns hF ⟨m1, m2, m3, m4, m5, m6, m7, m8, m9, m10, m11, m12⟩ => q_image_no1 hF m1 hW m2 m3 m5 h)
    have q := c_image_no0 (J := J) (nc := nc) (ns := ns) g1 g4 g5 g7 hW g8 hS g10 (by omega) (by rw [e]; decide)
    rw [e] at q
    exact q
  · have e1 : toS D = 0 := if_neg (by rw [h]; decide)
    by_cases c : M < 3
    · refine ⟨.int (nI M), (D, s, K, U, M + 1, imV M V s, L, T, 0, f, p, pm), ⟨hW, hS, hK, hU, by omega, fun i hi => ?_, hL, hT, tol1_ne h, fun z => absurd z (by decide)⟩, fun I J F nc ns ⟨o, q, g1, g2, g3, g4, g5, g6, g7, g8, g9, g10, g11, g12, g13, g14, g15, g16, g17, g18⟩ => (c_image_ok g1 g4 g5 g7 hW g8 hS h g10 c).ret2 ⟨?_, ?_⟩, fun I J F nc ns hF ⟨m1, m2, m3, m4, m5, m6, m7, m8, m9, m10, m11, m12⟩ => (q_image_ok hF m1 hW m2 m3 m5 h c).ret2 ⟨?_, ?_⟩⟩
      · unfold imV
        split
        · exact hS
        · exact hV i (by omega)
      · have ee : ∀ k, k ≠ 0 → k ≠ 43 → k ≠ 62 + M → hp_u (mcp (hp_u I 0 10 0) (62 + M) 42) 43 3 (nI (M + 1)) k = I k := fun k h1 h2 h3 => by rw [hu_ne h2, mcp_ne h3, hu_ne h1]
        have e0 : hp_u (mcp (hp_u I 0 10 0) (62 + M) 42) 43 3 (nI (M + 1)) 0 = hp_u I 0 10 0 0 := by rw [hu_ne (by decide), mcp_ne (by omega)]
        refine ⟨o, q, g1, g2, g3, g4, g5, g6, oC_fr g7 g1 (fun k h1 h2 => ee k (by omega) (by omega) (by omega)), mo_fr g8 (ee 42 (by omega) (by omega) (by omega)), ?_, hu_eq, pastC_fr g11 (fun k h1 h2 => ee k (by omega) (by omega) (by omega)) rfl hK, fun i hi => ?_, ?_, fun i hi => ?_, ?_, ?_, ?_, g18⟩
        · rw [hu_nj (by decide), mcp_ne (by omega), hu_ne (by decide)]; exact g9
        · unfold imV
          by_cases ci : i = M
          · rw [if_pos ci, ci]
            exact mo_fr (mcp_mo (mo_u g8 (by decide))) (hu_ne (by omega))
          · rw [if_neg ci]
            exact mo_fr (g12 i (by omega)) (ee _ (by omega) (by omega) (by omega))
        · rw [ee 1 (by omega) (by omega) (by omega)]; exact g13
        · rw [ee 2 (by omega) (by omega) (by omega)]; exact g14 i hi
        · rw [e0]; exact hu_eq
        · rw [e0, hu_nj (by decide)]; exact g16
        · rw [e0, hu_nj (by decide)]; exact g17
      · exact fun k hk => ⟨by rw [hu_ne (by omega), mcp_ne (by omega), hu_ne (by omega)], rfl, rfl⟩
      · have ee : ∀ k, k ≠ 95 → k ≠ 102 → hp_u (cpI (hp_u (hp_u I 95 0 0) 95 11 0) 100 0 102 (6 * M) 6) 95 21 (nI (M + 1)) k = I k := fun k h1 h2 => by rw [hu_ne h1, cp_ne h2, hu_ne h1, hu_ne h1]
        have e9 : ∀ j, j ≠ 0 → j ≠ 11 → j ≠ 21 → hp_u (cpI (hp_u (hp_u I 95 0 0) 95 11 0) 100 0 102 (6 * M) 6) 95 21 (nI (M + 1)) 95 j = I 95 j := fun j h1 h2 h3 => by rw [hu_nj h3, cp_ne (by decide), hu_nj h2, hu_nj h1]
        refine ⟨oM_fr m1 (ee 98 (by omega) (by omega)), (e9 14 (by omega) (by omega) (by omega)).trans m2, stM_fr m3 (ee 100 (by omega) (by omega)), (e9 20 (by omega) (by omega) (by omega)).trans m4, hu_eq, fun i hi j hj => ?_, fun i hi j hj => ?_, (e9 2 (by omega) (by omega) (by omega)).trans m8, fun i hi => ?_, ?_, (e9 9 (by omega) (by omega) (by omega)).trans m11, (e9 10 (by omega) (by omega) (by omega)).trans m12⟩
        · rw [ee 101 (by omega) (by omega)]; exact m6 i hi j hj
        · rw [hu_ne (by decide)]
          unfold imV
          by_cases ci : i = M
          · rw [if_pos ci, ci, cp_in (by omega) (by omega), hu_ne (by decide), hu_ne (by decide), show 0 + (6 * M + j - 6 * M) = j by omega]
            exact m3 j hj
          · rw [if_neg ci, cp_out (by omega), hu_ne (by decide), hu_ne (by decide)]
            exact m7 i (by omega) j hj
        · rw [ee 96 (by omega) (by omega)]; exact m9 i hi
        · rw [hu_nj (by decide), cp_ne (by decide)]; exact hu_eq
      · exact ⟨rfl, fun k hk => ⟨by rw [hu_ne (by omega), cp_ne (by omega), hu_ne (by omega), hu_ne (by omega)], rfl⟩⟩
    · have e : eiS (toS D) 3 = 3 := by rw [e1]; decide
      refine Cq.no (v := .int (-1)) (t' := 3) hw (by decide) (fun I J F nc ns ⟨o, q, g1, g2, g3, g4, g5, g6, g7, g8, g9, g10, g11, g12, g13, g14, g15, g16, g17, g18⟩ => ?_) (fun I J F nc ns hF ⟨m1, m2, m3, m4, m5, m6, m7, m8, m9, m10, m11, m12⟩ => q_image_no3 hF m1 hW m2 m3 m5 (by rw [h]; decide) (by omega))
      have q := c_image_no3 (J := J) (nc := nc) (ns := ns) g1 g4 g5 g7 hW g8 hS g10 (by omega) (by omega) (by rw [e]; decide)
      rw [e] at q
      exact q
theorem k_back {x : Int32} : Cl 2 1 mX11_back mX12_back [.int x] [.int x] := by
  rintro ⟨D, s, K, U, M, V, L, T, t, f, p, pm⟩ hw
  obtain ⟨hW, hS, hK, hU, hM3, hV, hL, hT, hz, -⟩ := id hw
  by_cases hx : ixS x M = 0
  · obtain ⟨i, hi, rfl⟩ := ix_of (by omega) hx
    refine Cq.ac (v := .int 1) (s' := V i) (K' := 0) (U' := U) hw ⟨hW, hV i hi, by omega, fun i hi => absurd hi (by omega), hM3, hV, hL, hT, fun z => absurd (hz z).2.2.2.2.2 (by omega), fun z => absurd z (by decide)⟩ (fun I J F nc ns ⟨o, q, g1, g2, g3, g4, g5, g6, g7, g8, g9, g10, g11, g12, g13, g14, g15, g16, g17, g18⟩ => (c_back_ok g4 g10 hM3 hi).ret2 ⟨rfl, ?_⟩) (fun I J F nc ns hF ⟨m1, m2, m3, m4, m5, m6, m7, m8, m9, m10, m11, m12⟩ => (q_back_ok hF m5 hM3 hi).ret2 ⟨rfl, rfl, ?_⟩)
    · refine ⟨fun k h1 h2 h3 h4 => by rw [hu_ne h3, mcp_ne h2, hu_ne h1], fun j hj => by rw [hu_ne (by decide), mcp_ne (by decide), hu_nj hj], by rw [hu_ne (by decide), mcp_ne (by decide), hu_eq], mo_fr (mcp_mo (mo_u (g12 i hi) (by omega))) (hu_ne (by decide)), hu_eq, by rw [hu_nj (by decide), mcp_ne (by decide), hu_ne (by decide)], ?_, fun _ _ => rfl⟩
      obtain ⟨pr, p1, -⟩ := g11
      exact ⟨pr, p1, fun i hi => absurd hi (by omega)⟩
    · refine ⟨fun k h1 h2 h3 => by rw [hu_ne h1, cp_ne h2, hu_ne h1, hu_ne h1], fun j h1 h2 h3 _ => by rw [hu_nj h3, cp_ne (by decide), hu_nj h2, hu_nj h1], by rw [hu_nj (by decide), cp_ne (by decide), hu_eq], fun j hj => ?_, hu_eq, fun i hi => absurd hi (by omega)⟩
      rw [hu_ne (by decide), cp_in (by omega) (by omega), hu_ne (by decide), hu_ne (by decide), show 6 * i + (j - 0) = 6 * i + j by omega]
      exact m7 i hi j hj
  · have e : ixS x M = 1 := ixS01.resolve_left hx
    refine Cq.no (v := .int 0) (t' := 1) hw (by decide) (fun I J F nc ns ⟨o, q, g1, g2, g3, g4, g5, g6, g7, g8, g9, g10, g11, g12, g13, g14, g15, g16, g17, g18⟩ => ?_) (fun I J F nc ns hF ⟨m1, m2, m3, m4, m5, m6, m7, m8, m9, m10, m11, m12⟩ => q_back_no hF m5 (by omega) (if_neg hx))
    have q := c_back_no (J := J) (nc := nc) (ns := ns) (v := x) g4 g10 hx
    rw [e] at q
    exact q
