/-! Class and reference side by side: those whom it had nearly been. -/
abbrev f0_ : Nat → Int32 := fun _ => 0
theorem nw_ei {D : oD} : nwS (tol D) (dN D 6) = eiS (toS D) (neS D) := by
  unfold nwS eiS toS neS
  have : tol D = 0 ∨ tol D = 1 := if01 z0 z1
  rcases this with e | e <;> simp [e]
theorem ne_0 {D : oD} (h : neS D = 0) : 0 < dN D 6 := by
  unfold neS at h
  refine Nat.pos_of_ne_zero (fun z => ?_)
  rw [z, if_pos (show nI 0 = 0 from rfl)] at h
  exact absurd h (by decide)
theorem cer_8 {t : Nat → Nat → Int32} {n : Int32} {W k : Nat} (hW : W ≤ 8) (h : ∀ i w, W ≤ w → t i w = 0) : cerG t n k 0 8 = cerG t n k 0 W := by
  have := cer_W (n := n) (k := k) h W 0 (8 - W) (by omega)
  rw [show W + (8 - W) = 8 by omega] at this
  exact this
theorem fo_Q {D : oD} (f g : Nat → Int32) {k : Nat} (hk : k < dN D 6) : (if (near0 D f).1 = 0 then (-2 : Int32) else (near0 D f).2.1 k) = if (near0 D g).1 = 0 then -2 else (near0 D g).2.1 k := by
  obtain ⟨e1, -, e3, -⟩ := near_Q (D := D) f g
  by_cases c : (near0 D f).1 = 0
  · rw [if_pos c, if_pos (by rw [← e1]; exact c)]
  · rw [if_neg c, if_neg (by rw [← e1]; exact c)]
    exact e3.resolve_left c k hk
theorem p_rows {D : oD} {s : Nat → Int32} (hW : WF D) (hS : WFs D s) : PQ D s 7 9 mX11_rows mX12_rows [] [] := by
  obtain ⟨-, b0, b1, b2, b3, b4, b5, b6⟩ := hW.c
  have e : (if tol D = 0 then 1 else if nI (dN D 6) = 0 then 6 else 0 : Int32) = eiS (toS D) (neS D) := nw_ei
  have n0 := near_Q (D := D) f0_ f0_
  by_cases ht : eiS (toS D) (neS D) = 0
  · obtain ⟨h1, h2⟩ := ei_0 ht
    have hn := ne_0 h2
    refine ⟨.int ((near0 D f0_).1), 0, (by repeat' (first | exact ix_4 | exact nu_4 | exact to_4 | exact fr_4 | exact ne_4 | exact iv_4 | decide | apply ei_4 | apply if4)), fun I J F nc ns o hc => ?_, fun I J F nc ns hm => ?_⟩
    · have q := c_rows_ok (J := J) (nc := nc) (ns := ns) hc.1 hc.2.1 hc.2.2.1 hc.2.2.2.1 hW hc.2.2.2.2 hS (to_2 h1) hn
      have n1 := near_Q (D := D) (I 87) f0_
      rw [n1.1] at q
      exact QC.fr (by decide) (by decide) q
    · have q := q_rows_ok (J := J) (nc := nc) (ns := ns) hm.1 hm.2.1 hW hm.2.2.1 (to_2 h1) hn (f := I 109) rfl
      have n1 := near_Q (D := D) (I 109) f0_
      rw [n1.1] at q
      exact QM.fm (by decide) (by decide) (by decide) (by decide) q
  · refine ⟨_, eiS (toS D) (neS D), (by repeat' (first | exact ix_4 | exact nu_4 | exact to_4 | exact fr_4 | exact ne_4 | exact iv_4 | decide | apply ei_4 | apply if4)), fun I J F nc ns o hc => QC.of (c_rows_no hc.1 hc.2.1 hc.2.2.1 hc.2.2.2.1 hW hc.2.2.2.2 hS ht), fun I J F nc ns hm => ?_⟩
    have q := q_rows_no (J := J) (nc := nc) (ns := ns) hm.1 hm.2.1 hW hm.2.2.1  (by first | (rw [e]; exact ht) | (intro z; apply ht; rw [← e]; revert z; (repeat' split) <;> simp))
    rw [e] at q
    exact QM.of q
theorem p_could {D : oD} {s : Nat → Int32} (hW : WF D) (hS : WFs D s) {k : Int32} : PQ D s 7 9 mX11_could mX12_could [.int k] [.int k, .null, .null] := by
  obtain ⟨-, b0, b1, b2, b3, b4, b5, b6⟩ := hW.c
  have e : (if ixB k (dN D 6) = 0 then 1 else 0 : Int32) = ixS k (dN D 6) := ix_b
  have n0 := near_Q (D := D) f0_ f0_
  by_cases ht : ixS k (dN D 6) = 0
  · obtain ⟨k, hk, rfl⟩ := ix_of (by omega) ht
    refine ⟨.int (gN (posF (near0 D f0_).2.2 k) 0 (dN D 2) 0), 0, (by repeat' (first | exact ix_4 | exact nu_4 | exact to_4 | exact fr_4 | exact ne_4 | exact iv_4 | decide | apply ei_4 | apply if4)), fun I J F nc ns o hc => ?_, fun I J F nc ns hm => ?_⟩
    · have q := c_could_ok (J := J) (nc := nc) (ns := ns) hc.1 hc.2.1 hc.2.2.1 hc.2.2.2.1 hW hc.2.2.2.2 hS hk
      have n1 := near_Q (D := D) (I 87) f0_
      rw [n1.2.1, pos_W (W := dN D 2) (by omega) n0.2.2.2] at q
      exact QC.fr (by decide) (by decide) q
    · have q := q_could_ok (J := J) (nc := nc) (ns := ns) hm.1 hm.2.1 hW hm.2.2.1 hk (f := I 109) rfl
      have n1 := near_Q (D := D) (I 109) f0_
      rw [n1.2.1] at q
      exact QM.fm (by decide) (by decide) (by decide) (by decide) q
  · refine ⟨_, ixS k (dN D 6), (by repeat' (first | exact ix_4 | exact nu_4 | exact to_4 | exact fr_4 | exact ne_4 | exact iv_4 | decide | apply ei_4 | apply if4)), fun I J F nc ns o hc => QC.of (c_could_no hc.1 hc.2.1 hc.2.2.1 hc.2.2.2.1 hW hc.2.2.2.2 hS ht), fun I J F nc ns hm => ?_⟩
    have q := q_could_no (J := J) (nc := nc) (ns := ns) hm.1 hm.2.1 hW hm.2.2.1 (k := k) (by first | (rw [e]; exact ht) | (intro z; apply ht; rw [← e]; revert z; (repeat' split) <;> simp))
    rw [e] at q
    exact QM.of q
theorem p_surely {D : oD} {s : Nat → Int32} (hW : WF D) (hS : WFs D s) {k : Int32} : PQ D s 7 9 mX11_surely mX12_surely [.int k] [.int k, .null] := by
  obtain ⟨-, b0, b1, b2, b3, b4, b5, b6⟩ := hW.c
  have e : (if ixB k (dN D 6) = 0 then 1 else 0 : Int32) = ixS k (dN D 6) := ix_b
  have n0 := near_Q (D := D) f0_ f0_
  by_cases ht : ixS k (dN D 6) = 0
  · obtain ⟨k, hk, rfl⟩ := ix_of (by omega) ht
    refine ⟨.int (cerG (near0 D f0_).2.2 (near0 D f0_).1 k 0 (dN D 2)), 0, (by repeat' (first | exact ix_4 | exact nu_4 | exact to_4 | exact fr_4 | exact ne_4 | exact iv_4 | decide | apply ei_4 | apply if4)), fun I J F nc ns o hc => ?_, fun I J F nc ns hm => ?_⟩
    · have q := c_surely_ok (J := J) (nc := nc) (ns := ns) hc.1 hc.2.1 hc.2.2.1 hc.2.2.2.1 hW hc.2.2.2.2 hS hk
      have n1 := near_Q (D := D) (I 87) f0_
      rw [n1.2.1, n1.1, cer_8 (W := dN D 2) (by omega) n0.2.2.2] at q
      exact QC.fr (by decide) (by decide) q
    · have q := q_surely_ok (J := J) (nc := nc) (ns := ns) hm.1 hm.2.1 hW hm.2.2.1 hk (f := I 109) rfl
      have n1 := near_Q (D := D) (I 109) f0_
      rw [n1.2.1, n1.1] at q
      exact QM.fm (by decide) (by decide) (by decide) (by decide) q
  · refine ⟨_, ixS k (dN D 6), (by repeat' (first | exact ix_4 | exact nu_4 | exact to_4 | exact fr_4 | exact ne_4 | exact iv_4 | decide | apply ei_4 | apply if4)), fun I J F nc ns o hc => QC.of (c_surely_no hc.1 hc.2.1 hc.2.2.1 hc.2.2.2.1 hW hc.2.2.2.2 hS ht), fun I J F nc ns hm => ?_⟩
    have q := q_surely_no (J := J) (nc := nc) (ns := ns) hm.1 hm.2.1 hW hm.2.2.1 (k := k) (by first | (rw [e]; exact ht) | (intro z; apply ht; rw [← e]; revert z; (repeat' split) <;> simp))
    rw [e] at q
    exact QM.of q
theorem p_firstOf {D : oD} {s : Nat → Int32} (hW : WF D) (hS : WFs D s) {k : Int32} : PQ D s 7 9 mX11_firstOf mX12_firstOf [.int k] [.int k] := by
  obtain ⟨-, b0, b1, b2, b3, b4, b5, b6⟩ := hW.c
  have e : (if ixB k (dN D 6) = 0 then 1 else 0 : Int32) = ixS k (dN D 6) := ix_b
  have n0 := near_Q (D := D) f0_ f0_
  by_cases ht : ixS k (dN D 6) = 0
  · obtain ⟨k, hk, rfl⟩ := ix_of (by omega) ht
    refine ⟨.int (if (near0 D f0_).1 = 0 then -2 else (near0 D f0_).2.1 k), 0, (by repeat' (first | exact ix_4 | exact nu_4 | exact to_4 | exact fr_4 | exact ne_4 | exact iv_4 | decide | apply ei_4 | apply if4)), fun I J F nc ns o hc => ?_, fun I J F nc ns hm => ?_⟩
    · have q := c_firstOf_ok (J := J) (nc := nc) (ns := ns) hc.1 hc.2.1 hc.2.2.1 hc.2.2.2.1 hW hc.2.2.2.2 hS hk
      have n1 := near_Q (D := D) (I 87) f0_
      rw [fo_Q (I 87) f0_ hk] at q
      exact QC.fr (by decide) (by decide) q
    · have q := q_firstOf_ok (J := J) (nc := nc) (ns := ns) hm.1 hm.2.1 hW hm.2.2.1 hk (f := I 109) rfl
      have n1 := near_Q (D := D) (I 109) f0_
      rw [fo_Q (I 109) f0_ hk] at q
      exact QM.fm (by decide) (by decide) (by decide) (by decide) q
  · refine ⟨_, ixS k (dN D 6), (by repeat' (first | exact ix_4 | exact nu_4 | exact to_4 | exact fr_4 | exact ne_4 | exact iv_4 | decide | apply ei_4 | apply if4)), fun I J F nc ns o hc => QC.of (c_firstOf_no hc.1 hc.2.1 hc.2.2.1 hc.2.2.2.1 hW hc.2.2.2.2 hS ht), fun I J F nc ns hm => ?_⟩
    have q := q_firstOf_no (J := J) (nc := nc) (ns := ns) hm.1 hm.2.1 hW hm.2.2.1 (k := k) (by first | (rw [e]; exact ht) | (intro z; apply ht; rw [← e]; revert z; (repeat' split) <;> simp))
    rw [e] at q
    exact QM.of q
theorem p_ask {D : oD} {s : Nat → Int32} (hW : WF D) (hS : WFs D s) : PQ D s 7 10 mX11_ask mX12_ask [] [] := by
  obtain ⟨-, b0, b1, b2, b3, b4, b5, b6⟩ := hW.c
  have e : (nwS (tol D) (dN D 6) : Int32) = eiS (toS D) (neS D) := nw_ei
  have n0 := near_Q (D := D) f0_ f0_
  by_cases ht : eiS (toS D) (neS D) = 0
  · obtain ⟨h1, h2⟩ := ei_0 ht
    have hn := ne_0 h2
    refine ⟨.int (if (near0 D f0_).1 = 0 then -2 else nI (bqS (near0 D f0_).2.2 (dN D 2) (dN D 6))), 0, (by repeat' (first | exact ix_4 | exact nu_4 | exact to_4 | exact fr_4 | exact ne_4 | exact iv_4 | decide | apply ei_4 | apply if4)), fun I J F nc ns o hc => ?_, fun I J F nc ns hm => ?_⟩
    · have q := c_ask_ok (J := J) (nc := nc) (ns := ns) hc.1 hc.2.1 hc.2.2.1 hc.2.2.2.1 hW hc.2.2.2.2 hS (to_2 h1) hn
      have n1 := near_Q (D := D) (I 87) f0_
      rw [n1.1, n1.2.1, bq_W (W := dN D 2) (by omega) n0.2.2.2] at q
      exact QC.fr (by decide) (by decide) q
    · have q := q_ask_ok (J := J) (nc := nc) (ns := ns) hm.1 hm.2.1 hW hm.2.2.1 (to_2 h1) hn (f := I 109) rfl
      have n1 := near_Q (D := D) (I 109) f0_
      rw [n1.1, n1.2.1] at q
      exact QM.fm (by decide) (by decide) (by decide) (by decide) q
  · refine ⟨_, eiS (toS D) (neS D), (by repeat' (first | exact ix_4 | exact nu_4 | exact to_4 | exact fr_4 | exact ne_4 | exact iv_4 | decide | apply ei_4 | apply if4)), fun I J F nc ns o hc => QC.of (c_ask_no hc.1 hc.2.1 hc.2.2.1 hc.2.2.2.1 hW hc.2.2.2.2 hS ht), fun I J F nc ns hm => ?_⟩
    have q := q_ask_no (J := J) (nc := nc) (ns := ns) hm.1 hm.2.1 hW hm.2.2.1  (by first | (rw [e]; exact ht) | (intro z; apply ht; rw [← e]; revert z; (repeat' split) <;> simp))
    rw [e] at q
    exact QM.of q
theorem p_askLeaves {D : oD} {s : Nat → Int32} (hW : WF D) (hS : WFs D s) : PQ D s 7 10 mX11_askLeaves mX12_askLeaves [] [.null] := by
  obtain ⟨-, b0, b1, b2, b3, b4, b5, b6⟩ := hW.c
  have n0 := near_Q (D := D) f0_ f0_
  by_cases ht : eiS (toS D) (neS D) = 0
  · obtain ⟨h1, h2⟩ := ei_0 ht
    have hn := ne_0 h2
    refine ⟨.int (if (near0 D f0_).1 = 0 then -2 else lefS (near0 D f0_).2.2 (dN D 2) (bqS (near0 D f0_).2.2 (dN D 2) (dN D 6))), 0, (by repeat' (first | exact ix_4 | exact nu_4 | exact to_4 | exact fr_4 | exact ne_4 | exact iv_4 | decide | apply ei_4 | apply if4)), fun I J F nc ns o hc => ?_, fun I J F nc ns hm => ?_⟩
    · have q := c_askLeaves_ok (J := J) (nc := nc) (ns := ns) hc.1 hc.2.1 hc.2.2.1 hc.2.2.2.1 hW hc.2.2.2.2 hS (to_2 h1) hn
      have n1 := near_Q (D := D) (I 87) f0_
      rw [n1.1, n1.2.1, bq_W (W := dN D 2) (by omega) n0.2.2.2, lef_W (W := dN D 2) (by omega) n0.2.2.2] at q
      exact QC.fr (by decide) (by decide) q
    · have n1 := near_Q (D := D) (I 109) f0_
      by_cases hz : (near0 D (I 109)).1 = 0
      · have q := q_askLeaves_ok0 (J := J) (nc := nc) (ns := ns) hm.1 hm.2.1 hW hm.2.2.1 (to_2 h1) hn (f := I 109) rfl hz
        rw [if_pos (by rw [← n1.1]; exact hz)]
        exact QM.fm (by decide) (by decide) (by decide) (by decide) q
      · have q := q_askLeaves_ok1 (J := J) (nc := nc) (ns := ns) hm.1 hm.2.1 hW hm.2.2.1 (to_2 h1) hn (f := I 109) rfl hz
        rw [n1.2.1] at q
        rw [if_neg (by rw [← n1.1]; exact hz)]
        exact QM.fm (by decide) (by decide) (by decide) (by decide) q
  · refine ⟨_, eiS (toS D) (neS D), (by repeat' (first | exact ix_4 | exact nu_4 | exact to_4 | exact fr_4 | exact ne_4 | exact iv_4 | decide | apply ei_4 | apply if4)), fun I J F nc ns o hc => QC.of (c_askLeaves_no hc.1 hc.2.1 hc.2.2.1 hc.2.2.2.1 hW hc.2.2.2.2 hS ht), fun I J F nc ns hm => ?_⟩
    have q := q_askLeaves_no (J := J) (nc := nc) (ns := ns) hm.1 hm.2.1 hW hm.2.2.1 (by rw [nw_ei]; exact ht)
    rw [nw_ei] at q
    exact QM.of q
