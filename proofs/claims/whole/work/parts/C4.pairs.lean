/-! Class and reference side by side: women, crew. -/
section
variable {I : Nat → Nat → Int32} {J : Nat → Nat → Int64} {F : Nat → Nat → Option Nat} {nc ns : Nat} {v : Value} {t : Int32} {k : Nat} {M : ev_M} {pc : Nat} {ls st : List Value} {h : hp_H}
theorem QC.fr {a b : Nat} (h1 : 65 ≤ a) (h2 : b ≤ 95) (e : Ew k M pc ls st h (Ret nc ns (some v) (fun I' J' F' => Fr a b (hp_u I 0 10 t) I' ∧ J' = J ∧ F' = F))) : Ew k M pc ls st h (QC nc ns I J F v t) := e.mono (fun _ _ ⟨r, I', J', F', e1, e2, e3, e4⟩ => ⟨r, I', J', F', e1, e2.wd h1 h2, e3 ▸ Fr.rf, e4⟩)
theorem QM.fr {a b : Nat} (h1 : 103 ≤ a) (h2 : b ≤ 111) (e : Ew k M pc ls st h (Ret nc ns (some v) (fun I' J' F' => Fr a b (hp_u (hp_u I 95 0 0) 95 11 t) I' ∧ J' = J ∧ F' = F))) : Ew k M pc ls st h (QM nc ns I J F v t) := e.mono (fun _ _ ⟨r, I', J', F', e1, e2, e3, e4⟩ => ⟨r, I', J', F', e1, ⟨fun p _ hp => e2 p (by omega), fun j _ => congrFun (e2 95 (by omega)) j⟩, e3 ▸ Fr.rf, e4⟩)
theorem QM.fm {a b c d : Nat} (h1 : 103 ≤ a) (h2 : b ≤ 111) (h3 : 22 ≤ c) (h4 : d ≤ 37) (e : Ew k M pc ls st h (Ret nc ns (some v) (fun I' J' F' => Fm a b c d (hp_u (hp_u I 95 0 0) 95 11 t) I' ∧ J' = J ∧ F' = F))) : Ew k M pc ls st h (QM nc ns I J F v t) := e.mono (fun _ _ ⟨r, I', J', F', e1, e2, e3, e4⟩ => ⟨r, I', J', F', e1, e2.wd h1 h2 h3 h4, e3 ▸ Fr.rf, e4⟩)
end
theorem ut_0 {D : oD} (hW : WF D) (h : tol D = 0) : ∀ i, i < 7 → dN D i = 0 := by
  rcases hW.2.2.2.1 with a | ⟨⟨y, y5, y9, e⟩, -⟩
  · exact a.2
  · unfold tol at h
    rw [e, if_neg (show ¬ nI y ≤ 0 from nI_ge (a := 0) (b := y) (by omega) (by omega))] at h
    exact absurd h (by decide)
theorem ix_z {v : Int32} : ixS v 0 = 1 := by
  unfold ixS
  by_cases c : v < 0
  · rw [if_pos c]
  · rw [if_neg c]
    exact if_pos (Int32.not_lt.mp c)
theorem tri_eq {s : Nat → Int32} {w : Nat} (hw : w < 32) : triB s (nI w) = (s 4 >>> (nI w &&& 31)) &&& 1 := by
  unfold triB
  rw [tb_at hw]
  cases tb (s 4) w <;> decide
theorem sv_ix {D : oD} (hW : WF D) {v l : Int32} : (if tol D = 0 then whS 0 l else if inS v 0 (nI (dN D 5) - 1) = 0 then whS 0 l else whS 1 l) = eiS (ixS v (dN D 5)) (nuS l 0 30) := by
  rw [← wh_ix]
  have h5 := hW.c.2.2.2.2.2.2.1
  by_cases c : tol D = 0
  · have e := ut_0 hW c 5 (by decide)
    rw [if_pos c, e, show ixB v 0 = 0 from if_neg (by rw [ix_z]; decide)]
  · rw [if_neg c, in_ix1 (by omega)]
    rcases ixB01 (v := v) (n := dN D 5) with e | e
    · rw [if_pos e, e]
    · rw [e, if_neg (by decide)]
theorem pw_ei {t v l : Int32} (h : t = 0 ∨ t = 1) : pwS t v l = eiS (if t = 0 then 1 else 0) (eiS (nuS v 0 999) (nuS l 0 30)) := by
  unfold pwS
  rw [nu_in (v := v), nu_in (v := l)]
  unfold eiS
  rcases h with rfl | rfl <;> rcases in01 (v := v) (a := 0) (b := 999) with e | e <;> simp [e]
theorem pa_ix {D : oD} (hW : WF D) {k v l : Int32} : (if tol D = 0 then pwS 0 v l else if inS k 0 (nI (dN D 5) - 1) = 0 then pwS 0 v l else pwS 1 v l) = eiS (ixS k (dN D 5)) (eiS (nuS v 0 999) (nuS l 0 30)) := by
  have h5 := hW.c.2.2.2.2.2.2.1
  have e1 : ∀ x, eiS 1 x = 1 := fun x => if_neg (by decide)
  by_cases c : tol D = 0
  · have e := ut_0 hW c 5 (by decide)
    rw [if_pos c, e, ix_z, e1]
    rfl
  · rw [if_neg c, in_ix1 (by omega)]
    by_cases d : ixS k (dN D 5) = 0
    · rw [show ixB k (dN D 5) = 1 from if_pos d, if_neg (by decide), d, pw_ei (Or.inr rfl)]
      rfl
    · rw [if_pos (show ixB k (dN D 5) = 0 from if_neg d), ixS01.resolve_left d, e1]
      rfl
theorem bid_ei {D : oD} {v a b : Int32} : (if tol D = 0 then (1 : Int32) else if inS v 0 99 = 0 then 2 else if inS a 0 9 = 0 then 2 else if inS b 0 9 = 0 then 2 else 0) = eiS (toS D) (eiS (nuS v 0 99) (eiS (nuS a 0 9) (nuS b 0 9))) := by
  rw [nu_in (v := v), nu_in (v := a), nu_in (v := b)]
  unfold eiS toS
  have : tol D = 0 ∨ tol D = 1 := if01 z0 z1
  rcases this with e | e <;> rcases in01 (v := v) (a := 0) (b := 99) with e1 | e1 <;> rcases in01 (v := a) (a := 0) (b := 9) with e2 | e2 <;> simp [e, e1, e2]
theorem p_woman {D : oD} {s : Nat → Int32} (hW : WF D) (hS : WFs D s) {v x : Int32} : PQ D s 2 2 mX11_woman mX12_woman [.int v, .int x] [.int v, .int x] := by
  obtain ⟨-, b0, b1, b2, b3, b4, b5, b6⟩ := hW.c
  have e : (if ixB v (dN D 2) = 0 then 1 else if inS x 0 5 = 0 then 1 else 0 : Int32) = eiS (ixS v (dN D 2)) (ixS x 6) := ix_2 (v := v) (x := x) (n := dN D 2) (m := 5) (by omega)
  by_cases ht : eiS (ixS v (dN D 2)) (ixS x 6) = 0
  · obtain ⟨ht1, ht2⟩ := ei_0 ht
    obtain ⟨w, hw, rfl⟩ := ix_of (by omega) ht1
    obtain ⟨k, hk, rfl⟩ := ix_of (by omega) ht2
    rcases (by omega : k = 0 ∨ k = 1 ∨ k = 2 ∨ k = 3 ∨ k = 4 ∨ k = 5) with rfl | rfl | rfl | rfl | rfl | rfl
    · exact ⟨_, 0, (by repeat' (first | exact ix_4 | exact nu_4 | exact to_4 | exact fr_4 | exact ne_4 | exact iv_4 | decide | apply ei_4 | apply if4)), fun I J F nc ns o hc => QC.of (c_woman_ok0 hc.1 hc.2.1 hc.2.2.1 hc.2.2.2.1 hW hc.2.2.2.2 hS hw), fun I J F nc ns hm => QM.of ((q_woman_ok0 hm.1 hm.2.1 hW hm.2.2.1 hw))⟩
    · exact ⟨_, 0, (by repeat' (first | exact ix_4 | exact nu_4 | exact to_4 | exact fr_4 | exact ne_4 | exact iv_4 | decide | apply ei_4 | apply if4)), fun I J F nc ns o hc => QC.of (c_woman_ok1 hc.1 hc.2.1 hc.2.2.1 hc.2.2.2.1 hW hc.2.2.2.2 hS hw), fun I J F nc ns hm => QM.of ((q_woman_ok1 hm.1 hm.2.1 hW hm.2.2.1 hw))⟩
    · exact ⟨_, 0, (by repeat' (first | exact ix_4 | exact nu_4 | exact to_4 | exact fr_4 | exact ne_4 | exact iv_4 | decide | apply ei_4 | apply if4)), fun I J F nc ns o hc => QC.of (c_woman_ok2 hc.1 hc.2.1 hc.2.2.1 hc.2.2.2.1 hW hc.2.2.2.2 hS hw), fun I J F nc ns hm => QM.of ((q_woman_ok2 hm.1 hm.2.1 hW hm.2.2.1 hw))⟩
    · exact ⟨_, 0, (by repeat' (first | exact ix_4 | exact nu_4 | exact to_4 | exact fr_4 | exact ne_4 | exact iv_4 | decide | apply ei_4 | apply if4)), fun I J F nc ns o hc => QC.of (c_woman_ok3 hc.1 hc.2.1 hc.2.2.1 hc.2.2.2.1 hW hc.2.2.2.2 hS hw), fun I J F nc ns hm => QM.of ((q_woman_ok3 hm.1 hm.2.1 hW hm.2.2.1 hw))⟩
    · exact ⟨_, 0, (by repeat' (first | exact ix_4 | exact nu_4 | exact to_4 | exact fr_4 | exact ne_4 | exact iv_4 | decide | apply ei_4 | apply if4)), fun I J F nc ns o hc => QC.of (c_woman_ok4 hc.1 hc.2.1 hc.2.2.1 hc.2.2.2.1 hW hc.2.2.2.2 hS hw), fun I J F nc ns hm => QM.of ((q_woman_ok4 hm.1 hm.2.1 hW hm.2.2.1 hw))⟩
    · exact ⟨_, 0, (by repeat' (first | exact ix_4 | exact nu_4 | exact to_4 | exact fr_4 | exact ne_4 | exact iv_4 | decide | apply ei_4 | apply if4)), fun I J F nc ns o hc => QC.of (c_woman_ok5 hc.1 hc.2.1 hc.2.2.1 hc.2.2.2.1 hW hc.2.2.2.2 hS hw), fun I J F nc ns hm => QM.of (Ev.res (congrArg (fun z => some (Value.int z)) (tri_eq (by omega))) (q_woman_ok5 hm.1 hm.2.1 hW hm.2.2.1 hm.2.2.2 hw))⟩
  · refine ⟨_, eiS (ixS v (dN D 2)) (ixS x 6), (by repeat' (first | exact ix_4 | exact nu_4 | exact to_4 | exact fr_4 | exact ne_4 | exact iv_4 | decide | apply ei_4 | apply if4)), fun I J F nc ns o hc => QC.of (c_woman_no hc.1 hc.2.1 hc.2.2.1 hc.2.2.2.1 hW hc.2.2.2.2 hS ht), fun I J F nc ns hm => ?_⟩
    have q := q_woman_no (J := J) (nc := nc) (ns := ns) hm.1 hm.2.1 hW hm.2.2.1 (v := v) (x := x) (by first | (rw [e]; exact ht) | (intro z; apply ht; rw [← e]; revert z; (repeat' split) <;> simp))
    rw [e] at q
    exact QM.of q
theorem p_service {D : oD} {s : Nat → Int32} (hW : WF D) (hS : WFs D s) {v l : Int32} : PQ D s 2 3 mX11_service mX12_service [.int v, .int l] [.int v, .int l, .null] := by
  obtain ⟨-, b0, b1, b2, b3, b4, b5, b6⟩ := hW.c
  have e : (if tol D = 0 then whS 0 l else if inS v 0 (nI (dN D 5) - 1) = 0 then whS 0 l else whS 1 l : Int32) = eiS (ixS v (dN D 5)) (nuS l 0 30) := sv_ix hW
  by_cases ht : eiS (ixS v (dN D 5)) (nuS l 0 30) = 0
  · obtain ⟨ht1, ht2⟩ := ei_0 ht
    obtain ⟨k, hk, rfl⟩ := ix_of (by omega) ht1
    obtain ⟨l, -, hl, rfl⟩ := nu_of (a := 0) (b := 30) (by omega) (by omega) ht2
    exact ⟨_, 0, (by repeat' (first | exact ix_4 | exact nu_4 | exact to_4 | exact fr_4 | exact ne_4 | exact iv_4 | decide | apply ei_4 | apply if4)), fun I J F nc ns o hc => QC.of (c_service_ok hc.1 hc.2.1 hc.2.2.1 hc.2.2.2.1 hW hc.2.2.2.2 hS hk hl), fun I J F nc ns hm => QM.of ((q_service_ok hm.1 hm.2.1 hW hm.2.2.1 hk hl))⟩
  · refine ⟨_, eiS (ixS v (dN D 5)) (nuS l 0 30), (by repeat' (first | exact ix_4 | exact nu_4 | exact to_4 | exact fr_4 | exact ne_4 | exact iv_4 | decide | apply ei_4 | apply if4)), fun I J F nc ns o hc => QC.of (c_service_no hc.1 hc.2.1 hc.2.2.1 hc.2.2.2.1 hW hc.2.2.2.2 hS ht), fun I J F nc ns hm => ?_⟩
    have q := q_service_no (J := J) (nc := nc) (ns := ns) hm.1 hm.2.1 hW hm.2.2.1 (v := v) (l := l) (by first | (rw [e]; exact ht) | (intro z; apply ht; rw [← e]; revert z; (repeat' split) <;> simp))
    rw [e] at q
    exact QM.of q
theorem p_part {D : oD} {s : Nat → Int32} (hW : WF D) (hS : WFs D s) {k v l : Int32} : PQ D s 2 3 mX11_part mX12_part [.int k, .int v, .int l] [.int k, .int v, .int l, .null] := by
  obtain ⟨-, b0, b1, b2, b3, b4, b5, b6⟩ := hW.c
  have e : (if tol D = 0 then pwS 0 v l else if inS k 0 (nI (dN D 5) - 1) = 0 then pwS 0 v l else pwS 1 v l : Int32) = eiS (ixS k (dN D 5)) (eiS (nuS v 0 999) (nuS l 0 30)) := pa_ix hW
  by_cases ht : eiS (ixS k (dN D 5)) (eiS (nuS v 0 999) (nuS l 0 30)) = 0
  · obtain ⟨ht1, ht4⟩ := ei_0 ht
    obtain ⟨ht3, ht2⟩ := ei_0 ht4
    obtain ⟨k, hk, rfl⟩ := ix_of (by omega) ht1
    obtain ⟨v, -, hv, rfl⟩ := nu_of (a := 0) (b := 999) (by omega) (by omega) ht3
    obtain ⟨l, -, hl, rfl⟩ := nu_of (a := 0) (b := 30) (by omega) (by omega) ht2
    exact ⟨_, 0, (by repeat' (first | exact ix_4 | exact nu_4 | exact to_4 | exact fr_4 | exact ne_4 | exact iv_4 | decide | apply ei_4 | apply if4)), fun I J F nc ns o hc => QC.fr (by decide) (by decide) (c_part_ok hc.1 hc.2.1 hc.2.2.1 hc.2.2.2.1 hW hc.2.2.2.2 hS hk hv hl), fun I J F nc ns hm => QM.fr (by decide) (by decide) ((q_part_ok hm.1 hm.2.1 hW hm.2.2.1 hk hv hl))⟩
  · refine ⟨_, eiS (ixS k (dN D 5)) (eiS (nuS v 0 999) (nuS l 0 30)), (by repeat' (first | exact ix_4 | exact nu_4 | exact to_4 | exact fr_4 | exact ne_4 | exact iv_4 | decide | apply ei_4 | apply if4)), fun I J F nc ns o hc => QC.of (c_part_no hc.1 hc.2.1 hc.2.2.1 hc.2.2.2.1 hW hc.2.2.2.2 hS ht), fun I J F nc ns hm => ?_⟩
    have q := q_part_no (J := J) (nc := nc) (ns := ns) hm.1 hm.2.1 hW hm.2.2.1 (k := k) (v := v) (l := l) (by first | (rw [e]; exact ht) | (intro z; apply ht; rw [← e]; revert z; (repeat' split) <;> simp))
    rw [e] at q
    exact QM.of q
theorem p_bestHand {D : oD} {s : Nat → Int32} (hW : WF D) (hS : WFs D s) {v l : Int32} : PQ D s 2 3 mX11_bestHand mX12_bestHand [.int v, .int l, .null, .null, .null] [.int v, .int l, .null, .null, .null] := by
  obtain ⟨-, b0, b1, b2, b3, b4, b5, b6⟩ := hW.c
  have e : (pwS (tol D) v l : Int32) = eiS (toS D) (eiS (nuS v 0 999) (nuS l 0 30)) := pw_ei (if01 z0 z1)
  by_cases ht : eiS (toS D) (eiS (nuS v 0 999) (nuS l 0 30)) = 0
  · obtain ⟨ht1, ht4⟩ := ei_0 ht
    obtain ⟨ht3, ht2⟩ := ei_0 ht4
    obtain ⟨v, -, hv, rfl⟩ := nu_of (a := 0) (b := 999) (by omega) (by omega) ht3
    obtain ⟨l, -, hl, rfl⟩ := nu_of (a := 0) (b := 30) (by omega) (by omega) ht2
    exact ⟨_, 0, (by repeat' (first | exact ix_4 | exact nu_4 | exact to_4 | exact fr_4 | exact ne_4 | exact iv_4 | decide | apply ei_4 | apply if4)), fun I J F nc ns o hc => QC.fr (by decide) (by decide) (c_bestHand_ok hc.1 hc.2.1 hc.2.2.1 hc.2.2.2.1 hW hc.2.2.2.2 hS (to_2 ht1) hv hl), fun I J F nc ns hm => QM.fr (by decide) (by decide) ((q_bestHand_ok hm.1 hm.2.1 hW hm.2.2.1 (to_2 ht1) hv hl))⟩
  · refine ⟨_, eiS (toS D) (eiS (nuS v 0 999) (nuS l 0 30)), (by repeat' (first | exact ix_4 | exact nu_4 | exact to_4 | exact fr_4 | exact ne_4 | exact iv_4 | decide | apply ei_4 | apply if4)), fun I J F nc ns o hc => QC.of (c_bestHand_no hc.1 hc.2.1 hc.2.2.1 hc.2.2.2.1 hW hc.2.2.2.2 hS ht), fun I J F nc ns hm => ?_⟩
    have q := q_bestHand_no (J := J) (nc := nc) (ns := ns) hm.1 hm.2.1 hW hm.2.2.1 (v := v) (l := l) (by first | (rw [e]; exact ht) | (intro z; apply ht; rw [← e]; revert z; (repeat' split) <;> simp))
    rw [e] at q
    exact QM.of q
theorem p_bid {D : oD} {s : Nat → Int32} (hW : WF D) (hS : WFs D s) {v a b c : Int32} : PQ D s 2 1 mX11_bid mX12_bid [.int v, .int a, .int b, .int c, .null] [.int v, .int a, .int b, .int c] := by
  obtain ⟨-, b0, b1, b2, b3, b4, b5, b6⟩ := hW.c
  have e : (if tol D = 0 then 1 else if inS v 0 99 = 0 then 2 else if inS a 0 9 = 0 then 2 else if inS b 0 9 = 0 then 2 else 0 : Int32) = eiS (toS D) (eiS (nuS v 0 99) (eiS (nuS a 0 9) (nuS b 0 9))) := bid_ei
  by_cases ht : eiS (toS D) (eiS (nuS v 0 99) (eiS (nuS a 0 9) (nuS b 0 9))) = 0
  · obtain ⟨ht1, ht2⟩ := ei_0 ht
    obtain ⟨ht3, ht4⟩ := ei_0 ht2
    obtain ⟨ht5, ht6⟩ := ei_0 ht4
    obtain ⟨v, -, hv, rfl⟩ := nu_of (a := 0) (b := 99) (by omega) (by omega) ht3
    obtain ⟨a, -, ha, rfl⟩ := nu_of (a := 0) (b := 9) (by omega) (by omega) ht5
    obtain ⟨b, -, hb, rfl⟩ := nu_of (a := 0) (b := 9) (by omega) (by omega) ht6
    exact ⟨_, 0, (by repeat' (first | exact ix_4 | exact nu_4 | exact to_4 | exact fr_4 | exact ne_4 | exact iv_4 | decide | apply ei_4 | apply if4)), fun I J F nc ns o hc => QC.of (c_bid_ok hc.1 hc.2.1 hc.2.2.1 hc.2.2.2.1 hW hc.2.2.2.2 hS (to_2 ht1) hv ha hb), fun I J F nc ns hm => QM.of ((q_bid_ok hm.1 hm.2.1 hW hm.2.2.1 (to_2 ht1) hv ha hb))⟩
  · refine ⟨_, eiS (toS D) (eiS (nuS v 0 99) (eiS (nuS a 0 9) (nuS b 0 9))), (by repeat' (first | exact ix_4 | exact nu_4 | exact to_4 | exact fr_4 | exact ne_4 | exact iv_4 | decide | apply ei_4 | apply if4)), fun I J F nc ns o hc => QC.of (c_bid_no hc.1 hc.2.1 hc.2.2.1 hc.2.2.2.1 hW hc.2.2.2.2 hS ht), fun I J F nc ns hm => ?_⟩
    have q := q_bid_no (J := J) (nc := nc) (ns := ns) hm.1 hm.2.1 hW hm.2.2.1 (v := v) (a := a) (b := b) (c := c) (by first | (rw [e]; exact ht) | (intro z; apply ht; rw [← e]; revert z; (repeat' split) <;> simp))
    rw [e] at q
    exact QM.of q
