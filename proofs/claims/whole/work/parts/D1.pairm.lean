/-! Class and reference side by side: how likely a route is, how many it frees. -/
theorem p_route {D : oD} {s : Nat → Int32} (hW : WF D) (hS : WFs D s) {v b : Int32} : PQ D s 7 10 mX11_route mX12_route [.int v, .int b] [.int v, .int b, .null, .null, .null, .null] := by
  by_cases ht : eiS (toS D) (eiS (nuS v 1 3) (frD s)) = 0
  · obtain ⟨h1, h4⟩ := ei_0 ht
    obtain ⟨h2, h3⟩ := ei_0 h4
    obtain ⟨n, h1n, hn, rfl⟩ := nu_of (a := 1) (b := 3) (by omega) (by omega) h2
    have hC : ∀ f, (rout0 D s n 0 f).1 = (rout0 D s n 0 f0_).1 := fun f => (rout_Q 0 0 f f0_).1
    have hM : ∀ l f, (rout0 D s n l f).1 = (rout0 D s n 0 f0_).1 := fun l f => (rout_Q l 0 f f0_).1
    by_cases hz : (rout0 D s n 0 f0_).1 = 0
    · refine ⟨.long (lowS 0 1 b), 0, (by repeat' (first | exact ix_4 | exact nu_4 | exact to_4 | exact fr_4 | exact ne_4 | exact iv_4 | decide | apply ei_4 | apply if4)), fun I J F nc ns o hc => ?_, fun I J F nc ns hm => q_route_ok0 hm.1 hm.2.1 hW hm.2.2.1 hm.2.2.2 hS (to_2 h1) (fr_0 h3) h1n hn ((hM _ _).trans hz)⟩
      have q := c_route_ok (J := J) (nc := nc) (ns := ns) (b := b) hc.1 hc.2.1 hc.2.2.1 hc.2.2.2.1 hW hc.2.2.2.2 hS (to_2 h1) (fr_0 h3) h1n hn (u := 0) (by unfold anyS; rw [if_pos ((hC _).trans hz)]; rfl) (by decide)
      rw [low_0 w_pos] at q
      exact q
    · obtain ⟨⟨m, hm1, hm2⟩, -⟩ := rout_b hW hn hz
      have hw := w_lt (n := n) hW hn
      refine ⟨.long (lowS (wN D n - m) (wN D n) b), 0, (by repeat' (first | exact ix_4 | exact nu_4 | exact to_4 | exact fr_4 | exact ne_4 | exact iv_4 | decide | apply ei_4 | apply if4)), fun I J F nc ns o hc => ?_, fun I J F nc ns hm => ?_⟩
      · have z : ¬ (rout0 D s n 0 (I 66)).1 = 0 := by rw [hC]; exact hz
        refine c_route_ok hc.1 hc.2.1 hc.2.2.1 hc.2.2.2.1 hW hc.2.2.2.2 hS (to_2 h1) (fr_0 h3) h1n hn (u := wN D n - m) ?_ (by omega)
        unfold anyS
        rw [if_neg z, ((rout_Q 0 0 (I 66) f0_).2.resolve_left z).1, hm2, who_n hW, lN_sub hm1]
      · have z : ¬ (rout0 D s n (J 95 25) (I 104)).1 = 0 := by rw [hM]; exact hz
        refine q_route_ok hm.1 hm.2.1 hW hm.2.2.1 hm.2.2.2 hS (to_2 h1) (fr_0 h3) h1n hn z (u := wN D n - m) ?_ (by omega)
        rw [((rout_Q (J 95 25) 0 (I 104) f0_).2.resolve_left z).1, hm2, who_n hW, lN_sub hm1]
  · refine ⟨_, eiS (toS D) (eiS (nuS v 1 3) (frD s)), (by repeat' (first | exact ix_4 | exact nu_4 | exact to_4 | exact fr_4 | exact ne_4 | exact iv_4 | decide | apply ei_4 | apply if4)), fun I J F nc ns o hc => QC.of (c_route_no hc.1 hc.2.1 hc.2.2.1 hc.2.2.2.1 hW hc.2.2.2.2 hS ht), fun I J F nc ns hm => ?_⟩
    have q := q_route_no (J := J) (nc := nc) (ns := ns) (v := v) (b := b) hm.1 hm.2.1 hW hm.2.2.1 hm.2.2.2 (by rw [fw_ei]; exact ht)
    rw [fw_ei] at q
    exact QM.of q
theorem p_mean {D : oD} {s : Nat → Int32} (hW : WF D) (hS : WFs D s) {v b : Int32} : PQ D s 7 10 mX11_mean mX12_mean [.int v, .int b] [.int v, .int b, .null, .null, .null, .null] := by
  by_cases ht : eiS (toS D) (eiS (nuS v 1 3) (frD s)) = 0
  · obtain ⟨h1, h4⟩ := ei_0 ht
    obtain ⟨h2, h3⟩ := ei_0 h4
    obtain ⟨n, h1n, hn, rfl⟩ := nu_of (a := 1) (b := 3) (by omega) (by omega) h2
    have hC : ∀ f, (rout0 D s n 0 f).1 = (rout0 D s n 0 f0_).1 := fun f => (rout_Q 0 0 f f0_).1
    have hM : ∀ l f, (rout0 D s n l f).1 = (rout0 D s n 0 f0_).1 := fun l f => (rout_Q l 0 f f0_).1
    by_cases hz : (rout0 D s n 0 f0_).1 = 0
    · exact ⟨.long (lowS 0 (100 ^ tN D) b), 0, (by repeat' (first | exact ix_4 | exact nu_4 | exact to_4 | exact fr_4 | exact ne_4 | exact iv_4 | decide | apply ei_4 | apply if4)), fun I J F nc ns o hc => c_mean_ok0 hc.1 hc.2.1 hc.2.2.1 hc.2.2.2.1 hW hc.2.2.2.2 hS (to_2 h1) (fr_0 h3) h1n hn ((rout_z hW hn 0 (I 66)).mp ((hC _).trans hz)), fun I J F nc ns hm => q_mean_ok0 hm.1 hm.2.1 hW hm.2.2.1 hm.2.2.2 hS (to_2 h1) (fr_0 h3) h1n hn ((rout_z hW hn _ _).mp ((hM _ _).trans hz))⟩
    · obtain ⟨-, hb⟩ := rout_b hW hn hz
      obtain ⟨u, hu, hu2⟩ := (sum_eq hW hb (fun _ _ => rfl) hn).2
      refine ⟨.long (lowS u (100 ^ tN D) b), 0, (by repeat' (first | exact ix_4 | exact nu_4 | exact to_4 | exact fr_4 | exact ne_4 | exact iv_4 | decide | apply ei_4 | apply if4)), fun I J F nc ns o hc => ?_, fun I J F nc ns hm => ?_⟩
      · have z : ¬ (rout0 D s n 0 (I 66)).1 = 0 := by rw [hC]; exact hz
        have q := ((rout_Q 0 0 (I 66) f0_).2.resolve_left z).2
        have hb' := (rout_b hW hn z).2
        refine c_mean_ok hc.1 hc.2.1 hc.2.2.1 hc.2.2.2.1 hW hc.2.2.2.2 hS (to_2 h1) (fr_0 h3) h1n hn (fun z' => z ((rout_z hW hn _ _).mpr z')) (fun i hi => ?_) ?_ hu2
        · obtain ⟨w, w1, -, w2⟩ := hb' i hi
          exact ⟨w, w1, w2⟩
        · rw [← (sum_eq hW hb' (fun _ _ => rfl) hn).1, (sum_eq hW hb (fun i hi => (q i hi).symm) hn).1, hu]
      · have z : ¬ (rout0 D s n (J 95 25) (I 104)).1 = 0 := by rw [hM]; exact hz
        have q := ((rout_Q (J 95 25) 0 (I 104) f0_).2.resolve_left z).2
        have hb' := (rout_b hW hn z).2
        refine q_mean_ok hm.1 hm.2.1 hW hm.2.2.1 hm.2.2.2 hS (to_2 h1) (fr_0 h3) h1n hn (fun z' => z ((rout_z hW hn _ _).mpr z')) (fun i hi => ?_) ?_ hu2
        · obtain ⟨w, w1, -, w2⟩ := hb' i hi
          exact ⟨w, w1, w2⟩
        · rw [(sum_eq hW hb (fun i hi => (q i hi).symm) hn).1, hu]
  · refine ⟨_, eiS (toS D) (eiS (nuS v 1 3) (frD s)), (by repeat' (first | exact ix_4 | exact nu_4 | exact to_4 | exact fr_4 | exact ne_4 | exact iv_4 | decide | apply ei_4 | apply if4)), fun I J F nc ns o hc => QC.of (c_mean_no hc.1 hc.2.1 hc.2.2.1 hc.2.2.2.1 hW hc.2.2.2.2 hS ht), fun I J F nc ns hm => ?_⟩
    have q := q_mean_no (J := J) (nc := nc) (ns := ns) (v := v) (b := b) hm.1 hm.2.1 hW hm.2.2.1 hm.2.2.2 (by rw [fw_ei]; exact ht)
    rw [fw_ei] at q
    exact QM.of q
