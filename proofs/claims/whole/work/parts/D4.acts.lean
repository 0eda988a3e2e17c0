/-! Class and reference side by side: acts. -/
section
variable {I I' : Nat → Nat → Int32} {J J' : Nat → Nat → Int64} {F F' : Nat → Nat → Option Nat} {D : oD} {s : Nat → Int32} {K : Nat} {U : Nat → Nat → Int32} {M : Nat} {V : Nat → Nat → Int32} {L : Nat} {T : Nat → Nat} {t f p pm : Int32} {t' : Int32} {kC kM : Nat} {mC mM : ev_M} {aC aM : List Value} {v : Value} {s' : Nat → Int32} {K' : Nat} {U' : Nat → Nat → Int32}
theorem AcC.cr (h : CRe I J F D s K U M V L T t f p) (hM : M ≤ 3) (a : AcC I I' F F' t' s' K' U') : CRe I' J F' D s' K' U' M V L T t' f p := by
  obtain ⟨o, q, g1, g2, g3, g4, g5, g6, g7, g8, g9, g10, g11, g12, g13, g14, g15, g16, g17, g18⟩ := h
  obtain ⟨a1, a2, a3, a4, a5, a6, a7, a8⟩ := a
  refine ⟨o, q, g1, g2, g3, RF_44 g4 a8, ?_, ?_, oC_fr g7 g1 (fun k h1 h2 => a1 k (by omega) (by omega) (by omega) (by omega)), a4, a5, a6.trans g10, a7, fun i hi => mo_fr (g12 i hi) (a1 _ (by omega) (by omega) (by omega) (by omega)), ?_, fun i hi => ?_, a3, (a2 11 (by omega)).trans g16, (a2 12 (by omega)).trans g17, g18⟩
  · rw [a8 0 (by omega)]; exact g5
  · rw [a8 3 (by omega)]; exact g6
  · rw [a1 1 (by omega) (by omega) (by omega) (by omega)]; exact g13
  · rw [a1 2 (by omega) (by omega) (by omega) (by omega)]; exact g14 i hi
theorem AcM.mr (h : MRe I D s K U M V L T t f p) (a : AcM I I' t' s' K' U') : MRe I' D s' K' U' M V L T t' f p := by
  obtain ⟨m1, m2, m3, m4, m5, m6, m7, m8, m9, m10, m11, m12⟩ := h
  obtain ⟨a1, a2, a3, a4, a5, a6⟩ := a
  refine ⟨oM_fr m1 (a1 98 (by omega) (by omega) (by omega)), (a2 14 (by omega) (by omega) (by omega) (by omega)).trans m2, a4, a5, (a2 21 (by omega) (by omega) (by omega) (by omega)).trans m5, a6, fun i hi j hj => ?_, (a2 2 (by omega) (by omega) (by omega) (by omega)).trans m8, fun i hi => ?_, a3, (a2 9 (by omega) (by omega) (by omega) (by omega)).trans m11, (a2 10 (by omega) (by omega) (by omega) (by omega)).trans m12⟩
  · rw [a1 102 (by omega) (by omega) (by omega)]; exact m7 i hi j hj
  · rw [a1 96 (by omega) (by omega) (by omega)]; exact m9 i hi
/-- an act -/
theorem Cq.ac (hw : WDe D s K U M V L T t p pm) (hw' : WDe D s' K' U' M V L T 0 p pm) (hc : ∀ I J F nc ns, CRe I J F D s K U M V L T t f p → Ew kC mC 0 (.ref 0 :: aC) [] ((SH, nc, ns), I, J, F) (Ret nc ns (some v) (fun I' J' F' => J' = J ∧ AcC I I' F F' 0 s' K' U')))
    (hm : ∀ I J F nc ns, RFok F → MRe I D s K U M V L T t f pm → Ew kM mM 0 (.ref 95 :: aM) [] ((SH, nc, ns), I, J, F) (Ret nc ns (some v) (fun I' J' F' => J' = J ∧ F' = F ∧ AcM I I' 0 s' K' U'))) : Cq (D, s, K, U, M, V, L, T, t, f, p, pm) kC kM mC mM aC aM := by
  refine ⟨v, (D, s', K', U', M, V, L, T, 0, f, p, pm), hw', fun I J F nc ns hC => (hc I J F nc ns hC).ret (fun I' J' F' ⟨z1, z2⟩ => ?_), fun I J F nc ns hF hM => (hm I J F nc ns hF hM).ret (fun I' J' F' ⟨z1, z2, z3⟩ => ?_)⟩
  · subst z1
    refine ⟨AcC.cr hC hw.2.2.2.2.1 z2, fC.of (fun k hk => z2.1 k (by omega) (by omega) (by omega) (by omega)) (fun _ _ => rfl) (fun k hk => z2.2.2.2.2.2.2.2 k (by omega))⟩
  · subst z1
    subst z2
    exact ⟨AcM.mr hM z3, rfl, fun k hk => ⟨z3.1 k (by omega) (by omega) (by omega), rfl⟩⟩
end
theorem tol1_ne {D : oD} {P : Prop} (h : tol D = 1) (z : tol D = 0) : P := by
  rw [h] at z
  exact absurd z (by decide)
def sedS (s : Nat → Int32) (v : Int32) : Nat → Int32 := fun i => if i = 3 then v else s i
theorem k_seed {x : Int32} : Cl 2 1 mX11_seed mX12_seed [.int x] [.int x] := by
  rintro ⟨D, s, K, U, M, V, L, T, t, f, p, pm⟩ hw
  obtain ⟨hW, hS, hK, hU, hM3, hV, hL, hT, hz, -⟩ := id hw
  have e : (if tol D = 0 then 1 else if inS x 0 65536 = 0 then 2 else 0 : Int32) = eiS (toS D) (nuS x 0 65536) := by
    rw [nu_in]
    unfold toS eiS
    rcases tol_01 (D := D) with h | h <;> simp [h]
  by_cases ht : eiS (toS D) (nuS x 0 65536) = 0
  · obtain ⟨h1, h2⟩ := ei_0 ht
    have t1 := to_2 h1
    obtain ⟨n, -, hn, rfl⟩ := nu_of (a := 0) (b := 65536) (by omega) (by omega) h2
    refine ⟨.int 1, (D, sedS s (nI n), K, U, M, V, L, T, 0, f, p, pm), ⟨hW, ⟨hS.1, hS.2.1, hS.2.2.1, ⟨n, hn, rfl⟩, hS.2.2.2.2⟩, hK, hU, hM3, hV, hL, hT, tol1_ne t1, fun z => absurd z (by decide)⟩, fun I J F nc ns ⟨o, q, g1, g2, g3, g4, g5, g6, g7, g8, g9, g10, g11, g12, g13, g14, g15, g16, g17, g18⟩ => (c_seed_ok g1 g4 g5 g7 hW g8 hS t1 hn).ret2 ⟨?_, ?_⟩, fun I J F nc ns hF ⟨m1, m2, m3, m4, m5, m6, m7, m8, m9, m10, m11, m12⟩ => (q_seed_ok hF m1 hW m2 t1 hn).ret2 ⟨?_, ?_⟩⟩
    · have q1 := CRe.ut (t' := 0) ⟨o, q, g1, g2, g3, g4, g5, g6, g7, g8, g9, g10, g11, g12, g13, g14, g15, g16, g17, g18⟩ hK hM3
      refine AcC.cr (s' := sedS s (nI n)) (K' := K) (U' := U) q1 hM3 ⟨fun k h1 h2 h3 h4 => hu_ne h2, fun j hj => congrFun (hu_ne (by decide)) j, (congrFun (hu_ne (by decide)) 10).trans hu_eq, ?_, ?_, ?_, ?_, fun _ _ => rfl⟩
      · obtain ⟨e0, e1, e2, e3, e4, e5⟩ := g8
        refine ⟨?_, ?_, ?_, ?_, ?_, ?_⟩ <;> simp [hp_u, sedS, *]
      · rw [hu_ne (by decide), hu_ne (by decide)]; exact g9
      · rw [hu_ne (by decide)]
      · exact pastC_fr g11 (fun k h1 h2 => by rw [hu_ne (by omega), hu_ne (by omega)]) rfl hK
    · exact fun k hk => ⟨by rw [hu_ne (by omega), hu_ne (by omega)], rfl, rfl⟩
    · have q1 := MRe.ut (t' := 0) ⟨m1, m2, m3, m4, m5, m6, m7, m8, m9, m10, m11, m12⟩
      refine AcM.mr (s' := sedS s (nI n)) (K' := K) (U' := U) q1 ⟨fun k h1 h2 h3 => hu_ne h2, fun j _ _ _ _ => congrFun (hu_ne (by decide)) j, (congrFun (hu_ne (by decide)) 11).trans hu_eq, ?_, ?_, ?_⟩
      · intro i hi
        have := m3 i hi
        simp only [hp_u, sedS]
        by_cases c : i = 3 <;> simp [c, this]
      · rw [hu_ne (by decide), hu_nj (by decide), hu_nj (by decide)]; exact m4
      · intro i hi j hj
        rw [hu_ne (by decide), hu_ne (by decide), hu_ne (by decide)]
        exact m6 i hi j hj
    · exact ⟨rfl, fun k hk => ⟨by rw [hu_ne (by omega), hu_ne (by omega), hu_ne (by omega)], rfl⟩⟩
  · refine Cq.no (v := .int 0) (t' := eiS (toS D) (nuS x 0 65536)) hw (ei_4 to_4 nu_4) (fun I J F nc ns ⟨o, q, g1, g2, g3, g4, g5, g6, g7, g8, g9, g10, g11, g12, g13, g14, g15, g16, g17, g18⟩ => c_seed_no g1 g4 g5 g7 hW g8 hS ht) (fun I J F nc ns hF ⟨m1, m2, m3, m4, m5, m6, m7, m8, m9, m10, m11, m12⟩ => ?_)
    have q := q_seed_no (J := J) (nc := nc) (ns := ns) hF m1 hW m2 (v := x) (by first | (rw [e]; exact ht) | (intro z; apply ht; rw [← e]; revert z; (repeat' split) <;> simp))
    rw [e] at q
    exact q
theorem k_undo : Cl 2 2 mX11_undo mX12_undo [] [] := by
  rintro ⟨D, s, K, U, M, V, L, T, t, f, p, pm⟩ hw
  obtain ⟨hW, hS, hK, hU, hM3, hV, hL, hT, hz, -⟩ := id hw
  cases K with
  | zero => exact Cq.no (v := .int 0) (t' := 6) hw (by decide) (fun I J F nc ns ⟨o, q, g1, g2, g3, g4, g5, g6, g7, g8, g9, g10, g11, g12, g13, g14, g15, g16, g17, g18⟩ => c_undo_no g4 g9) (fun I J F nc ns hF ⟨m1, m2, m3, m4, m5, m6, m7, m8, m9, m10, m11, m12⟩ => q_undo_no hF m4)
  | succ K => exact Cq.ac (v := .int 1) (s' := U K) (K' := K) (U' := U) hw ⟨hW, hU K (by omega), by omega, fun i hi => hU i (by omega), hM3, hV, hL, hT, fun z => absurd (hz z).2.2.2.2.1 (by omega), fun z => absurd z (by decide)⟩ (fun I J F nc ns ⟨o, q, g1, g2, g3, g4, g5, g6, g7, g8, g9, g10, g11, g12, g13, g14, g15, g16, g17, g18⟩ => c_undo_ok g1 g4 g5 g7 hW g8 hS (by omega) g9 g11) (fun I J F nc ns hF ⟨m1, m2, m3, m4, m5, m6, m7, m8, m9, m10, m11, m12⟩ => q_undo_ok hF m1 hW m2 m3 (by omega) m4 m6)
theorem land_W {D : oD} {s : Nat → Int32} {h : Nat} (hW : WF D) (hS : WFs D s) (hh : h < dN D 0) (hl : s 0 < 30) : WFs D (landS D s (nI h)) := by
  have b0 := hW.c.2.1
  have b4 := hW.c.2.2.2.2.2.1
  obtain ⟨⟨l, hl1, e0⟩, -, h2, h3, b, hb, e5⟩ := hS
  have hl2 : l < 30 := by
    by_cases c : l = 30
    · rw [e0, c] at hl
      exact absurd hl (by decide)
    · omega
  refine ⟨⟨l + 1, by omega, ?_⟩, ⟨h, by omega, Or.inl hh, rfl⟩, h2, h3, ?_⟩
  · show s 0 + 1 = _
    rw [e0, nI_1]
  · show ∃ b, b < 2 ^ dN D 4 ∧ s 5 ||| dueS D (nI h) (s 0 + 1) = nI b
    refine lt_of_tb (by omega) (fun j h1 h2 => ?_)
    rw [tb_or, e5, tb_lt hb h1 h2, tb_due hW.c h2, decide_eq_false (fun z => by omega)]
    rfl
theorem draw_n {z : Nat} (h : z ≤ 65536) : drawS (nI z) = nI ((75 * z + 74) % 65537) := by
  unfold drawS
  rw [show (75 : Int32) = nI 75 from rfl, show (74 : Int32) = nI 74 from rfl, show (65537 : Int32) = nI 65537 from rfl, pk_mul, nI_add, pk_rem (by omega) (by omega) (by omega)]
theorem cou_n {l : Int32} : ∀ m z, z ≤ 65536 → ∃ z', z' ≤ 65536 ∧ (couG l m (nI z)).1 = nI z'
  | 0, z, h => ⟨z, h, rfl⟩
  | m + 1, z, h => by
    rw [couG]
    rw [draw_n h]
    have h2 : (75 * z + 74) % 65537 ≤ 65536 := by omega
    split
    · exact cou_n m _ h2
    · exact ⟨_, h2, rfl⟩
theorem court_W {D : oD} {s : Nat → Int32} {w : Nat} (hW : WF D) (hS : WFs D s) (hw : w < dN D 2) : WFs D (courtS D s w) := by
  obtain ⟨h0, h1, h2, ⟨z, hz, e3⟩, h5⟩ := hS
  obtain ⟨z', hz', e⟩ := cou_n (l := loveS D w (s 0 * D 0 0)) (tN D) z hz
  refine ⟨h0, h1, ?_, ⟨z', hz', ?_⟩, h5⟩
  · show ∃ f, f ≤ dN D 2 ∧ (if (couS D w (s 0) (s 3)).2 = 0 then s 2 else nI w + 1) = nI f
    split
    · exact h2
    · exact ⟨w + 1, hw, nI_1 _⟩
  · show (couS D w (s 0) (s 3)).1 = _
    unfold couS
    rw [e3]
    exact e
theorem kp_W {D : oD} {s : Nat → Int32} {K : Nat} {U : Nat → Nat → Int32} (hS : WFs D s) (hU : ∀ i, i < K → WFs D (U i)) (hK : K ≤ 16) : ∀ i, i < kpN K → WFs D (kpU K U s i) := by
  intro i hi
  unfold kpN at hi
  unfold kpU
  by_cases c : K = 16
  · rw [if_pos c] at hi
    rw [if_pos c]
    split
    · exact hS
    · exact hU _ (by omega)
  · rw [if_neg c] at hi
    rw [if_neg c]
    split
    · exact hS
    · exact hU _ (by omega)
