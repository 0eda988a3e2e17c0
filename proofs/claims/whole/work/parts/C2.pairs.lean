/-! Class and reference side by side: more questions. -/
theorem wo_to {D : oD} {v : Int32} : woS (tol D) v = eiS (toS D) (nuS v 0 99) := by
  unfold woS toS eiS
  rw [nu_in]
  have : tol D = 0 ∨ tol D = 1 := if01 z0 z1
  rcases this with e | e <;> simp [e]
theorem by_ix {v l y : Int32} {n : Nat} : (if whS (ixB v n) l = 0 then (if inS y 5 9 = 0 then (2 : Int32) else 0) else whS (ixB v n) l) = eiS (ixS v n) (eiS (nuS l 0 30) (nuS y 5 9)) := by
  rw [wh_ix, nu_in (v := y)]
  unfold eiS
  by_cases c : ixS v n = 0
  · simp only [c, ↓reduceIte]
  · simp only [c, ↓reduceIte]
theorem p_belle {D : oD} {s : Nat → Int32} (hW : WF D) (hS : WFs D s) {v l : Int32} : PQ D s 4 5 mX11_belle mX12_belle [.int v, .int l] [.int v, .int l, .null, .null, .null, .null] := by
  obtain ⟨-, b0, b1, b2, b3, b4, b5, b6⟩ := hW.c
  have e : (whS (ixB v (dN D 0)) l : Int32) = eiS (ixS v (dN D 0)) (nuS l 0 30) := wh_ix (v := v) (l := l) (n := dN D 0)
  by_cases ht : eiS (ixS v (dN D 0)) (nuS l 0 30) = 0
  · obtain ⟨ht1, ht2⟩ := ei_0 ht
    obtain ⟨h, hh, rfl⟩ := ix_of (by omega) ht1
    obtain ⟨l, -, hl, rfl⟩ := nu_of (a := 0) (b := 30) (by omega) (by omega) ht2
    exact ⟨_, 0, (by repeat' (first | exact ix_4 | exact nu_4 | exact to_4 | exact fr_4 | exact ne_4 | exact iv_4 | decide | apply ei_4 | apply if4)), fun I J F nc ns o hc => QC.of (c_belle_ok hc.1 hc.2.1 hc.2.2.1 hc.2.2.2.1 hW hc.2.2.2.2 hS hh hl), fun I J F nc ns hm => QM.of (Ev.res (congrArg (fun z => some (Value.int z)) ((belle_eq hW hh).symm)) (q_belle_ok hm.1 hm.2.1 hW hm.2.2.1 hh hl))⟩
  · refine ⟨_, eiS (ixS v (dN D 0)) (nuS l 0 30), (by repeat' (first | exact ix_4 | exact nu_4 | exact to_4 | exact fr_4 | exact ne_4 | exact iv_4 | decide | apply ei_4 | apply if4)), fun I J F nc ns o hc => QC.of (c_belle_no hc.1 hc.2.1 hc.2.2.1 hc.2.2.2.1 hW hc.2.2.2.2 hS ht), fun I J F nc ns hm => ?_⟩
    have q := q_belle_no (J := J) (nc := nc) (ns := ns) hm.1 hm.2.1 hW hm.2.2.1 (v := v) (l := l) (by first | (rw [e]; exact ht) | (intro z; apply ht; rw [← e]; revert z; (repeat' split) <;> simp))
    rw [e] at q
    exact QM.of q
theorem p_bestYears {D : oD} {s : Nat → Int32} (hW : WF D) (hS : WFs D s) {l : Int32} : PQ D s 4 5 mX11_bestYears mX12_bestYears [.int l, .null, .null, .null, .null] [.int l, .null, .null, .null] := by
  obtain ⟨-, b0, b1, b2, b3, b4, b5, b6⟩ := hW.c
  have e : (whS (tol D) l : Int32) = eiS (toS D) (nuS l 0 30) := wh_to (D := D) (l := l)
  by_cases ht : eiS (toS D) (nuS l 0 30) = 0
  · obtain ⟨ht1, ht2⟩ := ei_0 ht
    obtain ⟨l, -, hl, rfl⟩ := nu_of (a := 0) (b := 30) (by omega) (by omega) ht2
    exact ⟨_, 0, (by repeat' (first | exact ix_4 | exact nu_4 | exact to_4 | exact fr_4 | exact ne_4 | exact iv_4 | decide | apply ei_4 | apply if4)), fun I J F nc ns o hc => QC.of (c_bestYears_ok hc.1 hc.2.1 hc.2.2.1 hc.2.2.2.1 hW hc.2.2.2.2 hS (to_2 ht1) hl), fun I J F nc ns hm => QM.of (Ev.res (congrArg (fun z => some (Value.int z)) ((years_eq hW).symm)) (q_bestYears_ok hm.1 hm.2.1 hW hm.2.2.1 (to_2 ht1) hl))⟩
  · refine ⟨_, eiS (toS D) (nuS l 0 30), (by repeat' (first | exact ix_4 | exact nu_4 | exact to_4 | exact fr_4 | exact ne_4 | exact iv_4 | decide | apply ei_4 | apply if4)), fun I J F nc ns o hc => QC.of (c_bestYears_no hc.1 hc.2.1 hc.2.2.1 hc.2.2.2.1 hW hc.2.2.2.2 hS ht), fun I J F nc ns hm => ?_⟩
    have q := q_bestYears_no (J := J) (nc := nc) (ns := ns) hm.1 hm.2.1 hW hm.2.2.1 (l := l) (by first | (rw [e]; exact ht) | (intro z; apply ht; rw [← e]; revert z; (repeat' split) <;> simp))
    rw [e] at q
    exact QM.of q
theorem p_soonest {D : oD} {s : Nat → Int32} (hW : WF D) (hS : WFs D s) {v : Int32} : PQ D s 4 4 mX11_soonest mX12_soonest [.int v] [.int v] := by
  obtain ⟨-, b0, b1, b2, b3, b4, b5, b6⟩ := hW.c
  have e : (if ixB v (dN D 0) = 0 then 1 else 0 : Int32) = ixS v (dN D 0) := ix_b (v := v) (n := dN D 0)
  by_cases ht : ixS v (dN D 0) = 0
  · obtain ⟨h, hh, rfl⟩ := ix_of (by omega) ht
    exact ⟨_, 0, (by repeat' (first | exact ix_4 | exact nu_4 | exact to_4 | exact fr_4 | exact ne_4 | exact iv_4 | decide | apply ei_4 | apply if4)), fun I J F nc ns o hc => QC.of (c_soonest_ok hc.1 hc.2.1 hc.2.2.1 hc.2.2.2.1 hW hc.2.2.2.2 hS hh), fun I J F nc ns hm => QM.of ((q_soonest_ok hm.1 hm.2.1 hW hm.2.2.1 hm.2.2.2 hS hh))⟩
  · refine ⟨_, ixS v (dN D 0), (by repeat' (first | exact ix_4 | exact nu_4 | exact to_4 | exact fr_4 | exact ne_4 | exact iv_4 | decide | apply ei_4 | apply if4)), fun I J F nc ns o hc => QC.of (c_soonest_no hc.1 hc.2.1 hc.2.2.1 hc.2.2.2.1 hW hc.2.2.2.2 hS ht), fun I J F nc ns hm => ?_⟩
    have q := q_soonest_no (J := J) (nc := nc) (ns := ns) hm.1 hm.2.1 hW hm.2.2.1 (v := v) (by first | (rw [e]; exact ht) | (intro z; apply ht; rw [← e]; revert z; (repeat' split) <;> simp))
    rw [e] at q
    exact QM.of q
theorem p_lost {D : oD} {s : Nat → Int32} (hW : WF D) (hS : WFs D s) : PQ D s 4 4 mX11_lost mX12_lost [.null, .null, .null] [.null, .null, .null] := by
  obtain ⟨-, b0, b1, b2, b3, b4, b5, b6⟩ := hW.c
  have e : (if tol D = 0 then 1 else 0 : Int32) = toS D := rfl
  by_cases ht : toS D = 0
  · skip
    exact ⟨_, 0, (by repeat' (first | exact ix_4 | exact nu_4 | exact to_4 | exact fr_4 | exact ne_4 | exact iv_4 | decide | apply ei_4 | apply if4)), fun I J F nc ns o hc => QC.of (c_lost_ok hc.1 hc.2.1 hc.2.2.1 hc.2.2.2.1 hW hc.2.2.2.2 hS (to_2 ht)), fun I J F nc ns hm => QM.of (Ev.res (congrArg (fun z => some (Value.int z)) ((lost_eq hW hS).symm)) (q_lost_ok hm.1 hm.2.1 hW hm.2.2.1 hm.2.2.2 hS (to_2 ht)))⟩
  · refine ⟨_, toS D, (by repeat' (first | exact ix_4 | exact nu_4 | exact to_4 | exact fr_4 | exact ne_4 | exact iv_4 | decide | apply ei_4 | apply if4)), fun I J F nc ns o hc => QC.of (c_lost_no hc.1 hc.2.1 hc.2.2.1 hc.2.2.2.1 hW hc.2.2.2.2 hS ht), fun I J F nc ns hm => ?_⟩
    have q := q_lost_no (J := J) (nc := nc) (ns := ns) hm.1 hm.2.1 hW hm.2.2.1  (by first | (rw [e]; exact ht) | (intro z; apply ht; rw [← e]; revert z; (repeat' split) <;> simp))
    rw [e] at q
    exact QM.of q
theorem p_bells {D : oD} {s : Nat → Int32} (hW : WF D) (hS : WFs D s) : PQ D s 3 2 mX11_bells mX12_bells [] [.null, .null, .null, .null] := by
  obtain ⟨-, b0, b1, b2, b3, b4, b5, b6⟩ := hW.c
  have e : (if tol D = 0 then 1 else 0 : Int32) = toS D := rfl
  by_cases ht : toS D = 0
  · skip
    exact ⟨_, 0, (by repeat' (first | exact ix_4 | exact nu_4 | exact to_4 | exact fr_4 | exact ne_4 | exact iv_4 | decide | apply ei_4 | apply if4)), fun I J F nc ns o hc => QC.of (c_bells_ok hc.1 hc.2.1 hc.2.2.1 hc.2.2.2.1 hW hc.2.2.2.2 hS (to_2 ht)), fun I J F nc ns hm => QM.of (Ev.res (congrArg (fun z => some (Value.int z)) ((bells_eq hW).symm)) (q_bells_ok hm.1 hm.2.1 hW hm.2.2.1 (to_2 ht)))⟩
  · refine ⟨_, toS D, (by repeat' (first | exact ix_4 | exact nu_4 | exact to_4 | exact fr_4 | exact ne_4 | exact iv_4 | decide | apply ei_4 | apply if4)), fun I J F nc ns o hc => QC.of (c_bells_no hc.1 hc.2.1 hc.2.2.1 hc.2.2.2.1 hW hc.2.2.2.2 hS ht), fun I J F nc ns hm => ?_⟩
    have q := q_bells_no (J := J) (nc := nc) (ns := ns) hm.1 hm.2.1 hW hm.2.2.1  (by first | (rw [e]; exact ht) | (intro z; apply ht; rw [← e]; revert z; (repeat' split) <;> simp))
    rw [e] at q
    exact QM.of q
theorem p_judge {D : oD} {s : Nat → Int32} (hW : WF D) (hS : WFs D s) : PQ D s 2 3 mX11_judge mX12_judge [.null] [.null, .null, .null] := by
  obtain ⟨-, b0, b1, b2, b3, b4, b5, b6⟩ := hW.c
  have e : (if tol D = 0 then 1 else 0 : Int32) = toS D := rfl
  by_cases ht : toS D = 0
  · skip
    exact ⟨_, 0, (by repeat' (first | exact ix_4 | exact nu_4 | exact to_4 | exact fr_4 | exact ne_4 | exact iv_4 | decide | apply ei_4 | apply if4)), fun I J F nc ns o hc => QC.of (c_judge_ok hc.1 hc.2.1 hc.2.2.1 hc.2.2.2.1 hW hc.2.2.2.2 hS (to_2 ht)), fun I J F nc ns hm => QM.of (Ev.res (congrArg (fun z => some (Value.int z)) ((jud_eq hW.c _ _).symm)) (q_judge_ok hm.1 hm.2.1 hW hm.2.2.1 (to_2 ht)))⟩
  · refine ⟨_, toS D, (by repeat' (first | exact ix_4 | exact nu_4 | exact to_4 | exact fr_4 | exact ne_4 | exact iv_4 | decide | apply ei_4 | apply if4)), fun I J F nc ns o hc => QC.of (c_judge_no hc.1 hc.2.1 hc.2.2.1 hc.2.2.2.1 hW hc.2.2.2.2 hS ht), fun I J F nc ns hm => ?_⟩
    have q := q_judge_no (J := J) (nc := nc) (ns := ns) hm.1 hm.2.1 hW hm.2.2.1  (by first | (rw [e]; exact ht) | (intro z; apply ht; rw [← e]; revert z; (repeat' split) <;> simp))
    rw [e] at q
    exact QM.of q
theorem p_byYears {D : oD} {s : Nat → Int32} (hW : WF D) (hS : WFs D s) {v l y : Int32} : PQ D s 3 4 mX11_byYears mX12_byYears [.int v, .int l, .int y] [.int v, .int l, .int y, .null] := by
  obtain ⟨-, b0, b1, b2, b3, b4, b5, b6⟩ := hW.c
  have e : (if whS (ixB v (dN D 2)) l = 0 then (if inS y 5 9 = 0 then 2 else 0) else whS (ixB v (dN D 2)) l : Int32) = eiS (ixS v (dN D 2)) (eiS (nuS l 0 30) (nuS y 5 9)) := by_ix
  by_cases ht : eiS (ixS v (dN D 2)) (eiS (nuS l 0 30) (nuS y 5 9)) = 0
  · obtain ⟨ht1, ht3⟩ := ei_0 ht
    obtain ⟨ht2, ht4⟩ := ei_0 ht3
    obtain ⟨w, hw, rfl⟩ := ix_of (by omega) ht1
    obtain ⟨l, -, hl, rfl⟩ := nu_of (a := 0) (b := 30) (by omega) (by omega) ht2
    obtain ⟨y, hy, hy9, rfl⟩ := nu_of (a := 5) (b := 9) (by omega) (by omega) ht4
    exact ⟨_, 0, (by repeat' (first | exact ix_4 | exact nu_4 | exact to_4 | exact fr_4 | exact ne_4 | exact iv_4 | decide | apply ei_4 | apply if4)), fun I J F nc ns o hc => QC.of (c_byYears_ok hc.1 hc.2.1 hc.2.2.1 hc.2.2.2.1 hW hc.2.2.2.2 hS hw hl hy hy9), fun I J F nc ns hm => QM.of ((q_byYears_ok hm.1 hm.2.1 hW hm.2.2.1 hw hl hy hy9))⟩
  · refine ⟨_, eiS (ixS v (dN D 2)) (eiS (nuS l 0 30) (nuS y 5 9)), (by repeat' (first | exact ix_4 | exact nu_4 | exact to_4 | exact fr_4 | exact ne_4 | exact iv_4 | decide | apply ei_4 | apply if4)), fun I J F nc ns o hc => QC.of (c_byYears_no hc.1 hc.2.1 hc.2.2.1 hc.2.2.2.1 hW hc.2.2.2.2 hS ht), fun I J F nc ns hm => ?_⟩
    have q := q_byYears_no (J := J) (nc := nc) (ns := ns) hm.1 hm.2.1 hW hm.2.2.1 (v := v) (l := l) (y := y) (by first | (rw [e]; exact ht) | (intro z; apply ht; rw [← e]; revert z; (repeat' split) <;> simp))
    rw [e] at q
    exact QM.of q
theorem p_rests {D : oD} {s : Nat → Int32} (hW : WF D) (hS : WFs D s) {v : Int32} : PQ D s 2 3 mX11_rests mX12_rests [.int v, .null, .null] [.int v, .null] := by
  obtain ⟨-, b0, b1, b2, b3, b4, b5, b6⟩ := hW.c
  have e : (woS (tol D) v : Int32) = eiS (toS D) (nuS v 0 99) := wo_to
  by_cases ht : eiS (toS D) (nuS v 0 99) = 0
  · obtain ⟨ht1, ht2⟩ := ei_0 ht
    obtain ⟨v, -, hv, rfl⟩ := nu_of (a := 0) (b := 99) (by omega) (by omega) ht2
    exact ⟨_, 0, (by repeat' (first | exact ix_4 | exact nu_4 | exact to_4 | exact fr_4 | exact ne_4 | exact iv_4 | decide | apply ei_4 | apply if4)), fun I J F nc ns o hc => QC.of (c_rests_ok hc.1 hc.2.1 hc.2.2.1 hc.2.2.2.1 hW hc.2.2.2.2 hS (to_2 ht1) hv), fun I J F nc ns hm => QM.of29 (Ev.res (congrArg (fun z => some (Value.int z)) (rests_eq.symm)) (q_rests_ok hm.1 hm.2.1 hW hm.2.2.1 (to_2 ht1) hv))⟩
  · refine ⟨_, eiS (toS D) (nuS v 0 99), (by repeat' (first | exact ix_4 | exact nu_4 | exact to_4 | exact fr_4 | exact ne_4 | exact iv_4 | decide | apply ei_4 | apply if4)), fun I J F nc ns o hc => QC.of (c_rests_no hc.1 hc.2.1 hc.2.2.1 hc.2.2.2.1 hW hc.2.2.2.2 hS ht), fun I J F nc ns hm => ?_⟩
    have q := q_rests_no (J := J) (nc := nc) (ns := ns) hm.1 hm.2.1 hW hm.2.2.1 (v := v) (by first | (rw [e]; exact ht) | (intro z; apply ht; rw [← e]; revert z; (repeat' split) <;> simp))
    rw [e] at q
    exact QM.of q
theorem p_rest {D : oD} {s : Nat → Int32} (hW : WF D) (hS : WFs D s) {v : Int32} : PQ D s 2 3 mX11_rest mX12_rest [.int v, .null] [.int v, .null] := by
  obtain ⟨-, b0, b1, b2, b3, b4, b5, b6⟩ := hW.c
  have e : (woS (tol D) v : Int32) = eiS (toS D) (nuS v 0 99) := wo_to
  by_cases ht : eiS (toS D) (nuS v 0 99) = 0
  · obtain ⟨ht1, ht2⟩ := ei_0 ht
    obtain ⟨v, -, hv, rfl⟩ := nu_of (a := 0) (b := 99) (by omega) (by omega) ht2
    exact ⟨_, 0, (by repeat' (first | exact ix_4 | exact nu_4 | exact to_4 | exact fr_4 | exact ne_4 | exact iv_4 | decide | apply ei_4 | apply if4)), fun I J F nc ns o hc => QC.of (c_rest_ok hc.1 hc.2.1 hc.2.2.1 hc.2.2.2.1 hW hc.2.2.2.2 hS (to_2 ht1) hv), fun I J F nc ns hm => QM.of29 (Ev.res (congrArg (fun z => some (Value.int z)) (rest_eq.symm)) (q_rest_ok hm.1 hm.2.1 hW hm.2.2.1 (to_2 ht1) hv))⟩
  · refine ⟨_, eiS (toS D) (nuS v 0 99), (by repeat' (first | exact ix_4 | exact nu_4 | exact to_4 | exact fr_4 | exact ne_4 | exact iv_4 | decide | apply ei_4 | apply if4)), fun I J F nc ns o hc => QC.of (c_rest_no hc.1 hc.2.1 hc.2.2.1 hc.2.2.2.1 hW hc.2.2.2.2 hS ht), fun I J F nc ns hm => ?_⟩
    have q := q_rest_no (J := J) (nc := nc) (ns := ns) hm.1 hm.2.1 hW hm.2.2.1 (v := v) (by first | (rw [e]; exact ht) | (intro z; apply ht; rw [← e]; revert z; (repeat' split) <;> simp))
    rw [e] at q
    exact QM.of q
