/-! Class and reference side by side: routes. -/
theorem p_routes {D : oD} {s : Nat → Int32} (hW : WF D) (hS : WFs D s) {v : Int32} : PQ D s 7 10 mX11_routes mX12_routes [.int v] [.int v, .null] := by
  by_cases ht : eiS (toS D) (eiS (nuS v 1 3) (frD s)) = 0
  · obtain ⟨h1, h4⟩ := ei_0 ht
    obtain ⟨h2, h3⟩ := ei_0 h4
    obtain ⟨n, h1n, hn, rfl⟩ := nu_of (a := 1) (b := 3) (by omega) (by omega) h2
    refine ⟨.int (rout0 D s n 0 f0_).1, 0, (by repeat' (first | exact ix_4 | exact nu_4 | exact to_4 | exact fr_4 | exact ne_4 | exact iv_4 | decide | apply ei_4 | apply if4)), fun I J F nc ns o hc => ?_, fun I J F nc ns hm => ?_⟩
    · have q := c_routes_ok (J := J) (nc := nc) (ns := ns) hc.1 hc.2.1 hc.2.2.1 hc.2.2.2.1 hW hc.2.2.2.2 hS (to_2 h1) (fr_0 h3) h1n hn
      rw [(rout_Q (D := D) (s := s) (n := n) 0 0 (I 66) f0_).1] at q
      exact q
    · have q := q_routes_ok (J := J) (nc := nc) (ns := ns) hm.1 hm.2.1 hW hm.2.2.1 hm.2.2.2 hS (to_2 h1) (fr_0 h3) h1n hn
      rw [(rout_Q (D := D) (s := s) (n := n) (J 95 25) 0 (I 104) f0_).1] at q
      exact q
  · refine ⟨_, eiS (toS D) (eiS (nuS v 1 3) (frD s)), (by repeat' (first | exact ix_4 | exact nu_4 | exact to_4 | exact fr_4 | exact ne_4 | exact iv_4 | decide | apply ei_4 | apply if4)), fun I J F nc ns o hc => QC.of (c_routes_no hc.1 hc.2.1 hc.2.2.1 hc.2.2.2.1 hW hc.2.2.2.2 hS ht), fun I J F nc ns hm => ?_⟩
    have q := q_routes_no (J := J) (nc := nc) (ns := ns) (v := v) hm.1 hm.2.1 hW hm.2.2.1 hm.2.2.2 (by rw [fw_ei]; exact ht)
    rw [fw_ei] at q
    exact QM.of q
