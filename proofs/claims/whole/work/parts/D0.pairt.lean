/-! Class and reference side by side: a route's places. -/
theorem p_routeAt {D : oD} {s : Nat → Int32} (hW : WF D) (hS : WFs D s) {v i : Int32} : PQ D s 7 10 mX11_routeAt mX12_routeAt [.int v, .int i] [.int v, .int i, .null] := by
  by_cases ht : eiS (toS D) (eiS (nuS v 1 3) (frD s)) = 0
  · obtain ⟨h1, h4⟩ := ei_0 ht
    obtain ⟨h2, h3⟩ := ei_0 h4
    obtain ⟨n, h1n, hn, rfl⟩ := nu_of (a := 1) (b := 3) (by omega) (by omega) h2
    have hC : ∀ f, (rout0 D s n 0 f).1 = (rout0 D s n 0 f0_).1 := fun f => (rout_Q 0 0 f f0_).1
    have hM : ∀ l f, (rout0 D s n l f).1 = (rout0 D s n 0 f0_).1 := fun l f => (rout_Q l 0 f f0_).1
    by_cases hz : (rout0 D s n 0 f0_).1 = 0
    · exact ⟨.int (-1), 6, (by repeat' (first | exact ix_4 | exact nu_4 | exact to_4 | exact fr_4 | exact ne_4 | exact iv_4 | decide | apply ei_4 | apply if4)), fun I J F nc ns o hc => c_routeAt_ok6 hc.1 hc.2.1 hc.2.2.1 hc.2.2.2.1 hW hc.2.2.2.2 hS (to_2 h1) (fr_0 h3) h1n hn ((hC _).trans hz) (show ¬ (6 : Int32) = 0 by decide), fun I J F nc ns hm => q_routeAt_ok6 hm.1 hm.2.1 hW hm.2.2.1 hm.2.2.2 hS (to_2 h1) (fr_0 h3) h1n hn ((hM _ _).trans hz)⟩
    · by_cases hx : ixS i n = 0
      · obtain ⟨i, hi, rfl⟩ := ix_of (by omega) hx
        refine ⟨.int ((rout0 D s n 0 f0_).2.2 i), 0, (by repeat' (first | exact ix_4 | exact nu_4 | exact to_4 | exact fr_4 | exact ne_4 | exact iv_4 | decide | apply ei_4 | apply if4)), fun I J F nc ns o hc => ?_, fun I J F nc ns hm => ?_⟩
        · have z : ¬ (rout0 D s n 0 (I 66)).1 = 0 := by rw [hC]; exact hz
          have q := c_routeAt_ok (J := J) (nc := nc) (ns := ns) hc.1 hc.2.1 hc.2.2.1 hc.2.2.2.1 hW hc.2.2.2.2 hS (to_2 h1) (fr_0 h3) h1n hn hi z
          rw [((rout_Q 0 0 (I 66) f0_).2.resolve_left z).2 i hi] at q
          exact q
        · have z : ¬ (rout0 D s n (J 95 25) (I 104)).1 = 0 := by rw [hM]; exact hz
          have q := q_routeAt_ok (nc := nc) (ns := ns) hm.1 hm.2.1 hW hm.2.2.1 hm.2.2.2 hS (to_2 h1) (fr_0 h3) h1n hn hi z
          rw [((rout_Q (J 95 25) 0 (I 104) f0_).2.resolve_left z).2 i hi] at q
          exact q
      · have e : eiS 0 (ixS i n) = 1 := ixS01.resolve_left hx
        refine ⟨.int (-1), 1, (by repeat' (first | exact ix_4 | exact nu_4 | exact to_4 | exact fr_4 | exact ne_4 | exact iv_4 | decide | apply ei_4 | apply if4)), fun I J F nc ns o hc => ?_, fun I J F nc ns hm => q_routeAt_ok1 hm.1 hm.2.1 hW hm.2.2.1 hm.2.2.2 hS (to_2 h1) (fr_0 h3) h1n hn (by rw [hM]; exact hz) (if_neg hx)⟩
        have q := c_routeAt_ok1 (J := J) (nc := nc) (ns := ns) hc.1 hc.2.1 hc.2.2.1 hc.2.2.2.1 hW hc.2.2.2.2 hS (to_2 h1) (fr_0 h3) h1n hn (i := i) (by rw [hC]; exact hz) (by rw [e]; decide)
        rw [e] at q
        exact q
  · by_cases h0 : tol D = 0
    · have e : eiS (toS D) (eiS (nuS v 1 3) (frD s)) = 1 := by
        rw [show toS D = 1 from if_pos h0]
        exact if_neg (by decide)
      refine ⟨.int (-1), 1, (by repeat' (first | exact ix_4 | exact nu_4 | exact to_4 | exact fr_4 | exact ne_4 | exact iv_4 | decide | apply ei_4 | apply if4)), fun I J F nc ns o hc => ?_, fun I J F nc ns hm => QM.of (q_routeAt_no0 hm.1 hm.2.1 hW hm.2.2.1 hm.2.2.2 h0)⟩
      have q := c_routeAt_no (J := J) (nc := nc) (ns := ns) (v := v) (i := i) hc.1 hc.2.1 hc.2.2.1 hc.2.2.2.1 hW hc.2.2.2.2 hS ht
      rw [e] at q
      exact QC.of q
    · refine ⟨_, eiS (toS D) (eiS (nuS v 1 3) (frD s)), (by repeat' (first | exact ix_4 | exact nu_4 | exact to_4 | exact fr_4 | exact ne_4 | exact iv_4 | decide | apply ei_4 | apply if4)), fun I J F nc ns o hc => QC.of (c_routeAt_no hc.1 hc.2.1 hc.2.2.1 hc.2.2.2.1 hW hc.2.2.2.2 hS ht), fun I J F nc ns hm => ?_⟩
      have q := q_routeAt_no1 (J := J) (nc := nc) (ns := ns) (v := v) (i := i) hm.1 hm.2.1 hW hm.2.2.1 hm.2.2.2 h0 (by rw [fw_ei]; exact ht)
      rw [fw_ei] at q
      exact QM.of q
