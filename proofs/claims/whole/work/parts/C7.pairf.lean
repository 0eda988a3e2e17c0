/-! Class and reference side by side: a life. -/
theorem p_life {D : oD} {s : Nat → Int32} (hW : WF D) (hS : WFs D s) {v n : Int32} : PQ D s 7 7 mX11_life mX12_life [.int v, .int n] [.int v, .int n, .null] := by
  by_cases ht : eiS (toS D) (eiS (nuS v 0 65536) (eiS (nuS n 0 20) (frD s))) = 0
  · obtain ⟨h1, h4⟩ := ei_0 ht
    obtain ⟨h2, h5⟩ := ei_0 h4
    obtain ⟨h3, h6⟩ := ei_0 h5
    obtain ⟨v, -, hv, rfl⟩ := nu_of (a := 0) (b := 65536) (by omega) (by omega) h2
    obtain ⟨n, -, hn, rfl⟩ := nu_of (a := 0) (b := 20) (by omega) (by omega) h3
    have h0 := to_h hW (to_2 h1)
    refine ⟨_, 0, (by repeat' (first | exact ix_4 | exact nu_4 | exact to_4 | exact fr_4 | exact ne_4 | exact iv_4 | decide | apply ei_4 | apply if4)), fun I J F nc ns o hc => c_life_ok hc.1 hc.2.1 hc.2.2.1 hc.2.2.2.1 hW hc.2.2.2.2 hS (to_2 h1) (fr_0 h6) hv hn, fun I J F nc ns hm => ?_⟩
    have q := q_life_ok (J := J) (nc := nc) (ns := ns) hm.1 hm.2.1 hW hm.2.2.1 hm.2.2.2 hS (to_2 h1) (fr_0 h6) hv hn
    rw [← (life_s (x := nI v) hW hS h0 (fr_0 h6) (m := n) (by omega)).1] at q
    exact q
  · refine ⟨_, eiS (toS D) (eiS (nuS v 0 65536) (eiS (nuS n 0 20) (frD s))), (by repeat' (first | exact ix_4 | exact nu_4 | exact to_4 | exact fr_4 | exact ne_4 | exact iv_4 | decide | apply ei_4 | apply if4)), fun I J F nc ns o hc => QC.of (c_life_no hc.1 hc.2.1 hc.2.2.1 hc.2.2.2.1 hW hc.2.2.2.2 hS ht), fun I J F nc ns hm => ?_⟩
    have q := q_life_no (J := J) (nc := nc) (ns := ns) (v := v) (n := n) hm.1 hm.2.1 hW hm.2.2.1 hm.2.2.2 (by rw [lw_ei]; exact ht)
    rw [lw_ei] at q
    exact QM.of q
theorem p_lifeBy {D : oD} {s : Nat → Int32} (hW : WF D) (hS : WFs D s) {v n : Int32} : PQ D s 7 7 mX11_lifeBy mX12_lifeBy [.int v, .int n] [.int v, .int n, .null] := by
  by_cases ht : eiS (toS D) (eiS (nuS v 0 65536) (eiS (nuS n 0 20) (frD s))) = 0
  · obtain ⟨h1, h4⟩ := ei_0 ht
    obtain ⟨h2, h5⟩ := ei_0 h4
    obtain ⟨h3, h6⟩ := ei_0 h5
    obtain ⟨v, -, hv, rfl⟩ := nu_of (a := 0) (b := 65536) (by omega) (by omega) h2
    obtain ⟨n, -, hn, rfl⟩ := nu_of (a := 0) (b := 20) (by omega) (by omega) h3
    have h0 := to_h hW (to_2 h1)
    refine ⟨_, 0, (by repeat' (first | exact ix_4 | exact nu_4 | exact to_4 | exact fr_4 | exact ne_4 | exact iv_4 | decide | apply ei_4 | apply if4)), fun I J F nc ns o hc => c_lifeBy_ok hc.1 hc.2.1 hc.2.2.1 hc.2.2.2.1 hW hc.2.2.2.2 hS (to_2 h1) (fr_0 h6) hv hn, fun I J F nc ns hm => ?_⟩
    have q := q_lifeBy_ok (J := J) (nc := nc) (ns := ns) hm.1 hm.2.1 hW hm.2.2.1 hm.2.2.2 hS (to_2 h1) (fr_0 h6) hv hn
    rw [← (life_s (x := nI v) hW hS h0 (fr_0 h6) (m := n) (by omega)).2.1] at q
    exact q
  · refine ⟨_, eiS (toS D) (eiS (nuS v 0 65536) (eiS (nuS n 0 20) (frD s))), (by repeat' (first | exact ix_4 | exact nu_4 | exact to_4 | exact fr_4 | exact ne_4 | exact iv_4 | decide | apply ei_4 | apply if4)), fun I J F nc ns o hc => QC.of (c_lifeBy_no hc.1 hc.2.1 hc.2.2.1 hc.2.2.2.1 hW hc.2.2.2.2 hS ht), fun I J F nc ns hm => ?_⟩
    have q := q_lifeBy_no (J := J) (nc := nc) (ns := ns) (v := v) (n := n) hm.1 hm.2.1 hW hm.2.2.1 hm.2.2.2 (by rw [lw_ei]; exact ht)
    rw [lw_ei] at q
    exact QM.of q
