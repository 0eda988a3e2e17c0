/-! Class and reference side by side: questions. -/
def Cx (I : Nat → Nat → Int32) (F : Nat → Nat → Option Nat) (o : Nat) (D : oD) (s : Nat → Int32) : Prop := isO o ∧ RFok F ∧ F 0 2 = some o ∧ oC I o D ∧ mo I 42 s
def Mx (I : Nat → Nat → Int32) (F : Nat → Nat → Option Nat) (D : oD) (s : Nat → Int32) : Prop := RFok F ∧ oM I 98 D ∧ I 95 14 = tol D ∧ stM I s
def PQ (D : oD) (s : Nat → Int32) (kC kM : Nat) (mC mM : ev_M) (aC aM : List Value) : Prop := ∃ v t, ¬ t = 4 ∧ (∀ I J F nc ns o, Cx I F o D s → Ew kC mC 0 (.ref 0 :: aC) [] ((SH, nc, ns), I, J, F) (QC nc ns I J F v t)) ∧ ∀ I J F nc ns, Mx I F D s → Ew kM mM 0 (.ref 95 :: aM) [] ((SH, nc, ns), I, J, F) (QM nc ns I J F v t)
theorem if4 {c : Prop} [Decidable c] {a b : Int32} (ha : ¬ a = 4) (hb : ¬ b = 4) : ¬ (if c then a else b) = 4 := by
  split
  · exact ha
  · exact hb
theorem ei_4 {a b : Int32} (ha : ¬ a = 4) (hb : ¬ b = 4) : ¬ eiS a b = 4 := if4 hb ha
theorem ix_4 {v : Int32} {n : Nat} : ¬ ixS v n = 4 := if4 (by decide) (if4 (by decide) (by decide))
theorem iv_4 {v m : Int32} : ¬ ixV v m = 4 := if4 (by decide) (if4 (by decide) (by decide))
theorem nu_4 {v a b : Int32} : ¬ nuS v a b = 4 := if4 (by decide) (if4 (by decide) (by decide))
theorem to_4 {D : oD} : ¬ toS D = 4 := if4 (by decide) (by decide)
theorem fr_4 {s : Nat → Int32} : ¬ frD s = 4 := if4 (by decide) (by decide)
theorem ne_4 {D : oD} : ¬ neS D = 4 := if4 (by decide) (by decide)
section
variable {I : Nat → Nat → Int32} {J : Nat → Nat → Int64} {F : Nat → Nat → Option Nat} {nc ns : Nat} {v : Value} {t : Int32} {k : Nat} {M : ev_M} {pc : Nat} {ls st : List Value} {h : hp_H}
theorem QC.of (e : Ev k M pc ls st h (some v) ((SH, nc, ns), hp_u I 0 10 t, J, F)) : Ew k M pc ls st h (QC nc ns I J F v t) := e.w ⟨rfl, _, _, _, rfl, Fr.rf, Fr.rf, rfl⟩
theorem QM.of (e : Ev k M pc ls st h (some v) ((SH, nc, ns), hp_u (hp_u I 95 0 0) 95 11 t, J, F)) : Ew k M pc ls st h (QM nc ns I J F v t) := e.w ⟨rfl, _, _, _, rfl, Fm.rf, Fr.rf, rfl⟩
theorem QM.of29 {x : Int32} (e : Ev k M pc ls st h (some v) ((SH, nc, ns), hp_u (hp_u (hp_u I 95 0 0) 95 11 t) 95 29 x, J, F)) : Ew k M pc ls st h (QM nc ns I J F v t) := e.w ⟨rfl, _, _, _, rfl, Fm.rf.f (by omega) (by omega), Fr.rf, rfl⟩
end
theorem to_2 {D : oD} (h : toS D = 0) : tol D = 1 := by
  have : tol D = 0 ∨ tol D = 1 := if01 z0 z1
  rcases this with e | e
  · unfold toS at h
    rw [if_pos e] at h
    exact absurd h (by decide)
  · exact e
theorem ix_b {v : Int32} {n : Nat} : (if ixB v n = 0 then (1 : Int32) else 0) = ixS v n := by
  unfold ixB
  by_cases c : ixS v n = 0
  · rw [if_pos c, c]
    decide
  · rw [if_neg c]
    have : ixS v n = 0 ∨ ixS v n = 1 := if01 z1 (if01 z1 z0)
    rcases this with e | e
    · exact absurd e c
    · rw [e]
      decide
theorem in_ixn {v : Int32} {n : Nat} (hn : n < 999) : inS v 0 (nI n) = if ixS v (n + 1) = 0 then 1 else 0 := by
  have e := in_ix1 (v := v) (n := n + 1) (by omega)
  rw [nI_pred] at e
  exact e
theorem ix_2 {v x : Int32} {n m : Nat} (hm : m < 999) : (if ixB v n = 0 then (1 : Int32) else if inS x 0 (nI m) = 0 then 1 else 0) = eiS (ixS v n) (ixS x (m + 1)) := by
  rw [in_ixn (by omega)]
  show (if ixB v n = 0 then (1 : Int32) else if ixB x (m + 1) = 0 then 1 else 0) = _
  rw [ix_b]
  unfold ixB eiS
  by_cases c : ixS v n = 0
  · rw [if_pos c, if_neg (by decide), if_pos c]
  · rw [if_neg c, if_pos rfl, if_neg c]
    have : ixS v n = 0 ∨ ixS v n = 1 := if01 z1 (if01 z1 z0)
    rcases this with e | e
    · exact absurd e c
    · exact e.symm
theorem wh_to {D : oD} {l : Int32} : whS (tol D) l = eiS (toS D) (nuS l 0 30) := by
  unfold whS toS eiS
  have : tol D = 0 ∨ tol D = 1 := if01 z0 z1
  rcases this with e | e
  · rw [if_pos e, if_pos e, if_neg (by decide)]
  · simp [e]
theorem p_harbour {D : oD} {s : Nat → Int32} (hW : WF D) (hS : WFs D s) {h x : Int32} : PQ D s 2 2 mX11_harbour mX12_harbour [.int h, .int x] [.int h, .int x] := by
  obtain ⟨-, b0, b1, b2, b3, b4, b5, b6⟩ := hW.c
  have e : (if ixB h (dN D 0) = 0 then 1 else if inS x 0 3 = 0 then 1 else 0 : Int32) = eiS (ixS h (dN D 0)) (ixS x 4) := ix_2 (v := h) (x := x) (n := dN D 0) (m := 3) (by omega)
  by_cases ht : eiS (ixS h (dN D 0)) (ixS x 4) = 0
  · obtain ⟨ht1, ht2⟩ := ei_0 ht
    obtain ⟨h, hh, rfl⟩ := ix_of (by omega) ht1
    obtain ⟨k, hk, rfl⟩ := ix_of (by omega) ht2
    rcases (by omega : k = 0 ∨ k = 1 ∨ k = 2 ∨ k = 3) with rfl | rfl | rfl | rfl
    · exact ⟨_, 0, (by repeat' (first | exact ix_4 | exact nu_4 | exact to_4 | exact fr_4 | exact ne_4 | exact iv_4 | decide | apply ei_4 | apply if4)), fun I J F nc ns o hc => QC.of (c_harbour_ok0 hc.1 hc.2.1 hc.2.2.1 hc.2.2.2.1 hW hc.2.2.2.2 hS hh), fun I J F nc ns hm => QM.of ((q_harbour_ok0 hm.1 hm.2.1 hW hm.2.2.1 hh))⟩
    · exact ⟨_, 0, (by repeat' (first | exact ix_4 | exact nu_4 | exact to_4 | exact fr_4 | exact ne_4 | exact iv_4 | decide | apply ei_4 | apply if4)), fun I J F nc ns o hc => QC.of (c_harbour_ok1 hc.1 hc.2.1 hc.2.2.1 hc.2.2.2.1 hW hc.2.2.2.2 hS hh), fun I J F nc ns hm => QM.of ((q_harbour_ok1 hm.1 hm.2.1 hW hm.2.2.1 hh))⟩
    · exact ⟨_, 0, (by repeat' (first | exact ix_4 | exact nu_4 | exact to_4 | exact fr_4 | exact ne_4 | exact iv_4 | decide | apply ei_4 | apply if4)), fun I J F nc ns o hc => QC.of (c_harbour_ok2 hc.1 hc.2.1 hc.2.2.1 hc.2.2.2.1 hW hc.2.2.2.2 hS hh), fun I J F nc ns hm => QM.of ((q_harbour_ok2 hm.1 hm.2.1 hW hm.2.2.1 hh))⟩
    · exact ⟨_, 0, (by repeat' (first | exact ix_4 | exact nu_4 | exact to_4 | exact fr_4 | exact ne_4 | exact iv_4 | decide | apply ei_4 | apply if4)), fun I J F nc ns o hc => QC.of (c_harbour_ok3 hc.1 hc.2.1 hc.2.2.1 hc.2.2.2.1 hW hc.2.2.2.2 hS hh), fun I J F nc ns hm => QM.of ((q_harbour_ok3 hm.1 hm.2.1 hW hm.2.2.1 hh))⟩
  · refine ⟨_, eiS (ixS h (dN D 0)) (ixS x 4), (by repeat' (first | exact ix_4 | exact nu_4 | exact to_4 | exact fr_4 | exact ne_4 | exact iv_4 | decide | apply ei_4 | apply if4)), fun I J F nc ns o hc => QC.of (c_harbour_no hc.1 hc.2.1 hc.2.2.1 hc.2.2.2.1 hW hc.2.2.2.2 hS ht), fun I J F nc ns hm => ?_⟩
    have q := q_harbour_no (J := J) (nc := nc) (ns := ns) hm.1 hm.2.1 hW hm.2.2.1 (h := h) (x := x) (by first | (rw [e]; exact ht) | (intro z; apply ht; rw [← e]; revert z; (repeat' split) <;> simp))
    rw [e] at q
    exact QM.of q
theorem p_age {D : oD} {s : Nat → Int32} (hW : WF D) (hS : WFs D s) {v l : Int32} : PQ D s 3 3 mX11_age mX12_age [.int v, .int l] [.int v, .int l, .null] := by
  obtain ⟨-, b0, b1, b2, b3, b4, b5, b6⟩ := hW.c
  have e : (whS (ixB v (dN D 2)) l : Int32) = eiS (ixS v (dN D 2)) (nuS l 0 30) := wh_ix (v := v) (l := l) (n := dN D 2)
  by_cases ht : eiS (ixS v (dN D 2)) (nuS l 0 30) = 0
  · obtain ⟨ht1, ht2⟩ := ei_0 ht
    obtain ⟨w, hw, rfl⟩ := ix_of (by omega) ht1
    obtain ⟨l, -, hl, rfl⟩ := nu_of (a := 0) (b := 30) (by omega) (by omega) ht2
    exact ⟨_, 0, (by repeat' (first | exact ix_4 | exact nu_4 | exact to_4 | exact fr_4 | exact ne_4 | exact iv_4 | decide | apply ei_4 | apply if4)), fun I J F nc ns o hc => QC.of (c_age_ok hc.1 hc.2.1 hc.2.2.1 hc.2.2.2.1 hW hc.2.2.2.2 hS hw hl), fun I J F nc ns hm => QM.of ((q_age_ok hm.1 hm.2.1 hW hm.2.2.1 hw hl))⟩
  · refine ⟨_, eiS (ixS v (dN D 2)) (nuS l 0 30), (by repeat' (first | exact ix_4 | exact nu_4 | exact to_4 | exact fr_4 | exact ne_4 | exact iv_4 | decide | apply ei_4 | apply if4)), fun I J F nc ns o hc => QC.of (c_age_no hc.1 hc.2.1 hc.2.2.1 hc.2.2.2.1 hW hc.2.2.2.2 hS ht), fun I J F nc ns hm => ?_⟩
    have q := q_age_no (J := J) (nc := nc) (ns := ns) hm.1 hm.2.1 hW hm.2.2.1 (v := v) (l := l) (by first | (rw [e]; exact ht) | (intro z; apply ht; rw [← e]; revert z; (repeat' split) <;> simp))
    rw [e] at q
    exact QM.of q
theorem p_love {D : oD} {s : Nat → Int32} (hW : WF D) (hS : WFs D s) {v l : Int32} : PQ D s 4 5 mX11_love mX12_love [.int v, .int l] [.int v, .int l, .null] := by
  obtain ⟨-, b0, b1, b2, b3, b4, b5, b6⟩ := hW.c
  have e : (whS (ixB v (dN D 2)) l : Int32) = eiS (ixS v (dN D 2)) (nuS l 0 30) := wh_ix (v := v) (l := l) (n := dN D 2)
  by_cases ht : eiS (ixS v (dN D 2)) (nuS l 0 30) = 0
  · obtain ⟨ht1, ht2⟩ := ei_0 ht
    obtain ⟨w, hw, rfl⟩ := ix_of (by omega) ht1
    obtain ⟨l, -, hl, rfl⟩ := nu_of (a := 0) (b := 30) (by omega) (by omega) ht2
    exact ⟨_, 0, (by repeat' (first | exact ix_4 | exact nu_4 | exact to_4 | exact fr_4 | exact ne_4 | exact iv_4 | decide | apply ei_4 | apply if4)), fun I J F nc ns o hc => QC.of (c_love_ok hc.1 hc.2.1 hc.2.2.1 hc.2.2.2.1 hW hc.2.2.2.2 hS hw hl), fun I J F nc ns hm => QM.of ((q_love_ok hm.1 hm.2.1 hW hm.2.2.1 hw hl))⟩
  · refine ⟨_, eiS (ixS v (dN D 2)) (nuS l 0 30), (by repeat' (first | exact ix_4 | exact nu_4 | exact to_4 | exact fr_4 | exact ne_4 | exact iv_4 | decide | apply ei_4 | apply if4)), fun I J F nc ns o hc => QC.of (c_love_no hc.1 hc.2.1 hc.2.2.1 hc.2.2.2.1 hW hc.2.2.2.2 hS ht), fun I J F nc ns hm => ?_⟩
    have q := q_love_no (J := J) (nc := nc) (ns := ns) hm.1 hm.2.1 hW hm.2.2.1 (v := v) (l := l) (by first | (rw [e]; exact ht) | (intro z; apply ht; rw [← e]; revert z; (repeat' split) <;> simp))
    rw [e] at q
    exact QM.of q
theorem p_alone {D : oD} {s : Nat → Int32} (hW : WF D) (hS : WFs D s) {v l : Int32} : PQ D s 4 5 mX11_alone mX12_alone [.int v, .int l] [.int v, .int l, .null] := by
  obtain ⟨-, b0, b1, b2, b3, b4, b5, b6⟩ := hW.c
  have e : (whS (ixB v (dN D 2)) l : Int32) = eiS (ixS v (dN D 2)) (nuS l 0 30) := wh_ix (v := v) (l := l) (n := dN D 2)
  by_cases ht : eiS (ixS v (dN D 2)) (nuS l 0 30) = 0
  · obtain ⟨ht1, ht2⟩ := ei_0 ht
    obtain ⟨w, hw, rfl⟩ := ix_of (by omega) ht1
    obtain ⟨l, -, hl, rfl⟩ := nu_of (a := 0) (b := 30) (by omega) (by omega) ht2
    exact ⟨_, 0, (by repeat' (first | exact ix_4 | exact nu_4 | exact to_4 | exact fr_4 | exact ne_4 | exact iv_4 | decide | apply ei_4 | apply if4)), fun I J F nc ns o hc => QC.of (c_alone_ok hc.1 hc.2.1 hc.2.2.1 hc.2.2.2.1 hW hc.2.2.2.2 hS hw hl), fun I J F nc ns hm => QM.of ((q_alone_ok hm.1 hm.2.1 hW hm.2.2.1 hw hl))⟩
  · refine ⟨_, eiS (ixS v (dN D 2)) (nuS l 0 30), (by repeat' (first | exact ix_4 | exact nu_4 | exact to_4 | exact fr_4 | exact ne_4 | exact iv_4 | decide | apply ei_4 | apply if4)), fun I J F nc ns o hc => QC.of (c_alone_no hc.1 hc.2.1 hc.2.2.1 hc.2.2.2.1 hW hc.2.2.2.2 hS ht), fun I J F nc ns hm => ?_⟩
    have q := q_alone_no (J := J) (nc := nc) (ns := ns) hm.1 hm.2.1 hW hm.2.2.1 (v := v) (l := l) (by first | (rw [e]; exact ht) | (intro z; apply ht; rw [← e]; revert z; (repeat' split) <;> simp))
    rw [e] at q
    exact QM.of q
theorem p_ofAge {D : oD} {s : Nat → Int32} (hW : WF D) (hS : WFs D s) {v : Int32} : PQ D s 2 2 mX11_ofAge mX12_ofAge [.int v, .null, .null] [.int v, .null, .null] := by
  obtain ⟨-, b0, b1, b2, b3, b4, b5, b6⟩ := hW.c
  have e : (if ixB v (dN D 2) = 0 then 1 else 0 : Int32) = ixS v (dN D 2) := ix_b (v := v) (n := dN D 2)
  by_cases ht : ixS v (dN D 2) = 0
  · obtain ⟨w, hw, rfl⟩ := ix_of (by omega) ht
    exact ⟨_, 0, (by repeat' (first | exact ix_4 | exact nu_4 | exact to_4 | exact fr_4 | exact ne_4 | exact iv_4 | decide | apply ei_4 | apply if4)), fun I J F nc ns o hc => QC.of (c_ofAge_ok hc.1 hc.2.1 hc.2.2.1 hc.2.2.2.1 hW hc.2.2.2.2 hS hw), fun I J F nc ns hm => QM.of ((q_ofAge_ok hm.1 hm.2.1 hW hm.2.2.1 hw))⟩
  · refine ⟨_, ixS v (dN D 2), (by repeat' (first | exact ix_4 | exact nu_4 | exact to_4 | exact fr_4 | exact ne_4 | exact iv_4 | decide | apply ei_4 | apply if4)), fun I J F nc ns o hc => QC.of (c_ofAge_no hc.1 hc.2.1 hc.2.2.1 hc.2.2.2.1 hW hc.2.2.2.2 hS ht), fun I J F nc ns hm => ?_⟩
    have q := q_ofAge_no (J := J) (nc := nc) (ns := ns) hm.1 hm.2.1 hW hm.2.2.1 (v := v) (by first | (rw [e]; exact ht) | (intro z; apply ht; rw [← e]; revert z; (repeat' split) <;> simp))
    rw [e] at q
    exact QM.of q
theorem p_bestLanding {D : oD} {s : Nat → Int32} (hW : WF D) (hS : WFs D s) {v : Int32} : PQ D s 5 5 mX11_bestLanding mX12_bestLanding [.int v, .null, .null, .null, .null] [.int v, .null, .null, .null] := by
  obtain ⟨-, b0, b1, b2, b3, b4, b5, b6⟩ := hW.c
  have e : (if ixB v (dN D 2) = 0 then 1 else 0 : Int32) = ixS v (dN D 2) := ix_b (v := v) (n := dN D 2)
  by_cases ht : ixS v (dN D 2) = 0
  · obtain ⟨w, hw, rfl⟩ := ix_of (by omega) ht
    exact ⟨_, 0, (by repeat' (first | exact ix_4 | exact nu_4 | exact to_4 | exact fr_4 | exact ne_4 | exact iv_4 | decide | apply ei_4 | apply if4)), fun I J F nc ns o hc => QC.of (c_bestLanding_ok hc.1 hc.2.1 hc.2.2.1 hc.2.2.2.1 hW hc.2.2.2.2 hS hw), fun I J F nc ns hm => QM.of ((q_bestLanding_ok hm.1 hm.2.1 hW hm.2.2.1 hw))⟩
  · refine ⟨_, ixS v (dN D 2), (by repeat' (first | exact ix_4 | exact nu_4 | exact to_4 | exact fr_4 | exact ne_4 | exact iv_4 | decide | apply ei_4 | apply if4)), fun I J F nc ns o hc => QC.of (c_bestLanding_no hc.1 hc.2.1 hc.2.2.1 hc.2.2.2.1 hW hc.2.2.2.2 hS ht), fun I J F nc ns hm => ?_⟩
    have q := q_bestLanding_no (J := J) (nc := nc) (ns := ns) hm.1 hm.2.1 hW hm.2.2.1 (v := v) (by first | (rw [e]; exact ht) | (intro z; apply ht; rw [← e]; revert z; (repeat' split) <;> simp))
    rw [e] at q
    exact QM.of q
theorem p_present {D : oD} {s : Nat → Int32} (hW : WF D) (hS : WFs D s) {l : Int32} : PQ D s 5 5 mX11_present mX12_present [.int l, .null, .null] [.int l, .null, .null, .null] := by
  obtain ⟨-, b0, b1, b2, b3, b4, b5, b6⟩ := hW.c
  have e : (whS (tol D) l : Int32) = eiS (toS D) (nuS l 0 30) := wh_to (D := D) (l := l)
  by_cases ht : eiS (toS D) (nuS l 0 30) = 0
  · obtain ⟨ht1, ht2⟩ := ei_0 ht
    obtain ⟨l, -, hl, rfl⟩ := nu_of (a := 0) (b := 30) (by omega) (by omega) ht2
    exact ⟨_, 0, (by repeat' (first | exact ix_4 | exact nu_4 | exact to_4 | exact fr_4 | exact ne_4 | exact iv_4 | decide | apply ei_4 | apply if4)), fun I J F nc ns o hc => QC.of (c_present_ok hc.1 hc.2.1 hc.2.2.1 hc.2.2.2.1 hW hc.2.2.2.2 hS (to_2 ht1) hl), fun I J F nc ns hm => QM.of ((q_present_ok hm.1 hm.2.1 hW hm.2.2.1 (to_2 ht1) hl))⟩
  · refine ⟨_, eiS (toS D) (nuS l 0 30), (by repeat' (first | exact ix_4 | exact nu_4 | exact to_4 | exact fr_4 | exact ne_4 | exact iv_4 | decide | apply ei_4 | apply if4)), fun I J F nc ns o hc => QC.of (c_present_no hc.1 hc.2.1 hc.2.2.1 hc.2.2.2.1 hW hc.2.2.2.2 hS ht), fun I J F nc ns hm => ?_⟩
    have q := q_present_no (J := J) (nc := nc) (ns := ns) hm.1 hm.2.1 hW hm.2.2.1 (l := l) (by first | (rw [e]; exact ht) | (intro z; apply ht; rw [← e]; revert z; (repeat' split) <;> simp))
    rw [e] at q
    exact QM.of q
