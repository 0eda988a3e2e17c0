/-! Class and reference side by side: letters, lives. -/
theorem fw_ei {D : oD} {s : Nat → Int32} {v a b : Int32} : fwS (tol D) (inS v a b) (s 2) = eiS (toS D) (eiS (nuS v a b) (frD s)) := by
  unfold fwS frD
  rw [nu_in]
  unfold eiS toS
  have : tol D = 0 ∨ tol D = 1 := if01 z0 z1
  rcases this with e | e <;> rcases in01 (v := v) (a := a) (b := b) with e1 | e1 <;> simp [e, e1]
theorem lw_ei {D : oD} {s : Nat → Int32} {v n a b : Int32} : fwS (tol D) (lwS v (inS n a b)) (s 2) = eiS (toS D) (eiS (nuS v 0 65536) (eiS (nuS n a b) (frD s))) := by
  unfold fwS frD lwS
  rw [nu_in (v := v), nu_in (v := n)]
  unfold eiS toS
  have : tol D = 0 ∨ tol D = 1 := if01 z0 z1
  rcases this with e | e <;> rcases in01 (v := n) (a := a) (b := b) with e1 | e1 <;> rcases in01 (v := v) (a := 0) (b := 65536) with e2 | e2 <;> simp [e, e1, e2]
theorem fr_0 {s : Nat → Int32} (h : frD s = 0) : s 2 ≤ 0 := by
  unfold frD at h
  split at h
  · assumption
  · exact absurd h (by decide)
theorem to_h {D : oD} (hW : WF D) (h : tol D = 1) : 0 < dN D 0 := by
  rcases hW.2.2.2.1 with a | ⟨-, a, -⟩
  · unfold tol at h
    rw [a.1, if_pos (by decide)] at h
    exact absurd h (by decide)
  · exact a
theorem p_letters {D : oD} {s : Nat → Int32} (hW : WF D) (hS : WFs D s) {v : Int32} : PQ D s 9 9 mX11_letters mX12_letters [.int v] [.int v, .null] := by
  by_cases ht : eiS (toS D) (eiS (nuS v 0 5) (frD s)) = 0
  · obtain ⟨h1, h4⟩ := ei_0 ht
    obtain ⟨h2, h3⟩ := ei_0 h4
    obtain ⟨n, -, hn, rfl⟩ := nu_of (a := 0) (b := 5) (by omega) (by omega) h2
    have h0 := to_h hW (to_2 h1)
    refine ⟨.int (pstM D s n f0_).1, 0, (by repeat' (first | exact ix_4 | exact nu_4 | exact to_4 | exact fr_4 | exact ne_4 | exact iv_4 | decide | apply ei_4 | apply if4)), fun I J F nc ns o hc => ?_, fun I J F nc ns hm => ?_⟩
    · have q := c_letters_ok (J := J) (nc := nc) (ns := ns) hc.1 hc.2.1 hc.2.2.1 hc.2.2.2.1 hW hc.2.2.2.2 hS (to_2 h1) (fr_0 h3) hn
      rw [(post_eq hW hS hn h0 (I 73) f0_).1] at q
      exact q
    · have q := q_letters_ok (J := J) (nc := nc) (ns := ns) hm.1 hm.2.1 hW hm.2.2.1 hm.2.2.2 hS (to_2 h1) (fr_0 h3) hn
      rw [← (post_eq hW hS hn h0 f0_ (I 106)).1, (post_eq hW hS hn h0 f0_ f0_).1] at q
      exact q
  · refine ⟨_, eiS (toS D) (eiS (nuS v 0 5) (frD s)), (by repeat' (first | exact ix_4 | exact nu_4 | exact to_4 | exact fr_4 | exact ne_4 | exact iv_4 | decide | apply ei_4 | apply if4)), fun I J F nc ns o hc => QC.of (c_letters_no hc.1 hc.2.1 hc.2.2.1 hc.2.2.2.1 hW hc.2.2.2.2 hS ht), fun I J F nc ns hm => ?_⟩
    have q := q_letters_no (J := J) (nc := nc) (ns := ns) (v := v) hm.1 hm.2.1 hW hm.2.2.1 hm.2.2.2 (by rw [fw_ei]; exact ht)
    rw [fw_ei] at q
    exact QM.of q
theorem p_lives {D : oD} {s : Nat → Int32} (hW : WF D) (hS : WFs D s) {v n : Int32} : PQ D s 7 7 mX11_lives mX12_lives [.int v, .int n, .null, .null, .null] [.int v, .int n, .null, .null, .null] := by
  by_cases ht : eiS (toS D) (eiS (nuS v 0 65536) (eiS (nuS n 1 30) (frD s))) = 0
  · obtain ⟨h1, h4⟩ := ei_0 ht
    obtain ⟨h2, h5⟩ := ei_0 h4
    obtain ⟨h3, h6⟩ := ei_0 h5
    obtain ⟨v, -, hv, rfl⟩ := nu_of (a := 0) (b := 65536) (by omega) (by omega) h2
    obtain ⟨n, h1n, hn, rfl⟩ := nu_of (a := 1) (b := 30) (by omega) (by omega) h3
    have h0 := to_h hW (to_2 h1)
    refine ⟨_, 0, (by repeat' (first | exact ix_4 | exact nu_4 | exact to_4 | exact fr_4 | exact ne_4 | exact iv_4 | decide | apply ei_4 | apply if4)), fun I J F nc ns o hc => c_lives_ok hc.1 hc.2.1 hc.2.2.1 hc.2.2.2.1 hW hc.2.2.2.2 hS (to_2 h1) (fr_0 h6) hv h1n hn, fun I J F nc ns hm => ?_⟩
    have q := q_lives_ok (J := J) (nc := nc) (ns := ns) hm.1 hm.2.1 hW hm.2.2.1 hm.2.2.2 hS (to_2 h1) (fr_0 h6) hv h1n hn
    rw [lives_eq hW hS h0 (fr_0 h6)] at q
    exact q
  · refine ⟨_, eiS (toS D) (eiS (nuS v 0 65536) (eiS (nuS n 1 30) (frD s))), (by repeat' (first | exact ix_4 | exact nu_4 | exact to_4 | exact fr_4 | exact ne_4 | exact iv_4 | decide | apply ei_4 | apply if4)), fun I J F nc ns o hc => QC.of (c_lives_no hc.1 hc.2.1 hc.2.2.1 hc.2.2.2.1 hW hc.2.2.2.2 hS ht), fun I J F nc ns hm => ?_⟩
    have q := q_lives_no (J := J) (nc := nc) (ns := ns) (v := v) (n := n) hm.1 hm.2.1 hW hm.2.2.1 hm.2.2.2 (by rw [lw_ei]; exact ht)
    rw [lw_ei] at q
    exact QM.of q
