/-! Class and reference side by side: where letters go. -/
theorem ixV_n {i : Int32} {n : Nat} : ixV i (nI n) = ixS i n := rfl
theorem p_lettersAt {D : oD} {s : Nat → Int32} (hW : WF D) (hS : WFs D s) {v i : Int32} : PQ D s 9 9 mX11_lettersAt mX12_lettersAt [.int v, .int i] [.int v, .int i, .null] := by
  by_cases ht : eiS (toS D) (eiS (nuS v 0 5) (frD s)) = 0
  · obtain ⟨h1, h4⟩ := ei_0 ht
    obtain ⟨h2, h3⟩ := ei_0 h4
    obtain ⟨n, -, hn, rfl⟩ := nu_of (a := 0) (b := 5) (by omega) (by omega) h2
    have h0 := to_h hW (to_2 h1)
    by_cases hx : ixS i n = 0
    · obtain ⟨i, hi, rfl⟩ := ix_of (by omega) hx
      refine ⟨.int ((pstM D s n f0_).2 i), 0, (by repeat' (first | exact ix_4 | exact nu_4 | exact to_4 | exact fr_4 | exact ne_4 | exact iv_4 | decide | apply ei_4 | apply if4)), fun I J F nc ns o hc => ?_, fun I J F nc ns hm => ?_⟩
      · have q := c_lettersAt_ok (J := J) (nc := nc) (ns := ns) hc.1 hc.2.1 hc.2.2.1 hc.2.2.2.1 hW hc.2.2.2.2 hS (to_2 h1) (fr_0 h3) hn hi
        rw [(post_eq hW hS hn h0 (I 73) f0_).2 i hi] at q
        exact q
      · have q := q_lettersAt_ok (J := J) (nc := nc) (ns := ns) hm.1 hm.2.1 hW hm.2.2.1 hm.2.2.2 hS (to_2 h1) (fr_0 h3) hn hi
        rw [← (post_eq hW hS hn h0 f0_ (I 106)).2 i hi, (post_eq hW hS hn h0 f0_ f0_).2 i hi] at q
        exact q
    · have e : eiS (eiS (toS D) (eiS (nuS (nI n) 0 5) (frD s))) (ixV i (nI n)) = 1 := by
        rw [ht, ixV_n]
        exact ixS01.resolve_left hx
      refine ⟨.int (-1), 1, (by repeat' (first | exact ix_4 | exact nu_4 | exact to_4 | exact fr_4 | exact ne_4 | exact iv_4 | decide | apply ei_4 | apply if4)), fun I J F nc ns o hc => ?_, fun I J F nc ns hm => q_lettersAt_ok1 hm.1 hm.2.1 hW hm.2.2.1 hm.2.2.2 hS (to_2 h1) (fr_0 h3) hn (if_neg hx)⟩
      have q := c_lettersAt_no (J := J) (nc := nc) (ns := ns) (v := nI n) (i := i) hc.1 hc.2.1 hc.2.2.1 hc.2.2.2.1 hW hc.2.2.2.2 hS (by rw [e]; decide)
      rw [e] at q
      exact QC.of q
  · have e : eiS (eiS (toS D) (eiS (nuS v 0 5) (frD s))) (ixV i v) = eiS (toS D) (eiS (nuS v 0 5) (frD s)) := if_neg ht
    refine ⟨.int (-1), eiS (toS D) (eiS (nuS v 0 5) (frD s)), (by repeat' (first | exact ix_4 | exact nu_4 | exact to_4 | exact fr_4 | exact ne_4 | exact iv_4 | decide | apply ei_4 | apply if4)), fun I J F nc ns o hc => ?_, fun I J F nc ns hm => ?_⟩
    · have q := c_lettersAt_no (J := J) (nc := nc) (ns := ns) (v := v) (i := i) hc.1 hc.2.1 hc.2.2.1 hc.2.2.2.1 hW hc.2.2.2.2 hS (by rw [e]; exact ht)
      rw [e] at q
      exact QC.of q
    · have q := q_lettersAt_no (J := J) (nc := nc) (ns := ns) (v := v) (i := i) hm.1 hm.2.1 hW hm.2.2.1 hm.2.2.2 (by rw [fw_ei]; exact ht)
      rw [fw_ei] at q
      exact QM.of q
