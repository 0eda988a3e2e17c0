/-! What is asked of routes, on both sides. -/
/-- a question to the class answers v; trouble is t -/
def QC (nc ns : Nat) (I : Nat → Nat → Int32) (J : Nat → Nat → Int64) (F : Nat → Nat → Option Nat) (v : Value) (t : Int32) : Option Value → hp_H → Prop := Ret nc ns (some v) (fun I' J' F' => Fr 65 95 (hp_u I 0 10 t) I' ∧ Fr 65 95 J J' ∧ F' = F)
/-- a question to the reference -/
def QM (nc ns : Nat) (I : Nat → Nat → Int32) (J : Nat → Nat → Int64) (F : Nat → Nat → Option Nat) (v : Value) (t : Int32) : Option Value → hp_H → Prop := Ret nc ns (some v) (fun I' J' F' => Fm 103 111 22 37 (hp_u (hp_u I 95 0 0) 95 11 t) I' ∧ Fr 95 96 J J' ∧ F' = F)
theorem hu_hu {α : Type} {I : Nat → Nat → α} {k j : Nat} {x y : α} : hp_u (hp_u I k j x) k j y = hp_u I k j y := by
  funext a b
  unfold hp_u
  by_cases h : a = k
  · by_cases h2 : b = j
    · simp [h, h2]
    · simp [h, h2]
  · simp [h]
theorem Fr.re {I I' : Nat → Nat → Int32} {x y : Int32} {a b k j : Nat} (h : Fr a b (hp_u I k j x) I') (hk : k < a) : Fr a b (hp_u I k j y) (hp_u I' k j y) := by
  intro p hp
  by_cases c : p = k
  · subst c
    funext i
    rw [hu_if, hu_if]
    by_cases c2 : i = j
    · rw [if_pos c2, if_pos c2]
    · rw [if_neg c2, if_neg c2]
      exact (congrFun (h p hp) i).trans (hu_nj c2)
  · rw [hu_ne c, hu_ne c]
    exact (h p hp).trans (hu_ne c)
theorem Fm.re {I I' : Nat → Nat → Int32} {x y : Int32} {lo hi t1 t2 j : Nat} (h : Fm lo hi t1 t2 (hp_u I 95 j x) I') : Fm lo hi t1 t2 (hp_u I 95 j y) (hp_u I' 95 j y) := by
  refine ⟨fun p h1 h2 => ?_, fun i hi => ?_⟩
  · rw [hu_ne h1, hu_ne h1]
    exact (h.1 p h1 h2).trans (hu_ne h1)
  · rw [hu_if, hu_if]
    by_cases c2 : i = j
    · rw [if_pos c2, if_pos c2]
    · rw [if_neg c2, if_neg c2]
      exact (h.2 i hi).trans (hu_nj c2)
set_option maxRecDepth 10000 in
theorem c_route_no {I : Nat → Nat → Int32} {J : Nat → Nat → Int64} {F : Nat → Nat → Option Nat} {nc ns : Nat} {o : Nat} {D : oD} {s : Nat → Int32} (ho : isO o) (hF : RFok F) (hoF : F 0 2 = some o) (hC : oC I o D) (hW : WF D) (hm : mo I 42 s) (hS : WFs D s) {v b : Int32} (ht : ¬ (eiS (toS D) (eiS (nuS v 1 3) (frD s))) = 0) : Ev 7 mX11_route 0 [.ref 0, .int v, .int b] [] ((SH, nc, ns), I, J, F) (some (.long (-1))) ((SH, nc, ns), hp_u I 0 10 (eiS (toS D) (eiS (nuS v 1 3) (frD s))), J, F) := by
  have hD := hW.c
  have hH := hW.h
  have hT := hW.t
  have bt := hT.2
  obtain ⟨b0, b1, b2, b3, b4, b5, b6⟩ := hD.2
  refine e_aload_n (p := 1) dX11_route_0 rfl rfl ?_
  refine e_aload_n (p := 2) dX11_route_1 rfl rfl ?_
  refine e_iload_n (p := 3) dX11_route_2 rfl rfl ?_
  refine e_iconst (v := 1) (p := 4) dX11_route_3 (by decide) rfl ?_
  refine e_iconst (v := 3) (p := 5) dX11_route_4 (by decide) rfl ?_
  refine e_callV_int (p := 8) (k' := 2) (a := [.ref 0, .int v, .int 1, .int 3]) (rr := [.ref 0]) dX11_route_5 rfl rfl rfl rfl (rc_of rfl rfl (by decide) ⟨rfl, by decide⟩) (Nat.le_of_ble_eq_true rfl) (Nat.le_of_ble_eq_true rfl) (by decide) (x_ofPlan ho hF hoF hC hW hm hS) (Or.inl rfl) rfl ?_
  refine e_callV_int (p := 11) (k' := 0) (a := [.ref 0, .int (eiS (toS D) (eiS (nuS v 1 3) (frD s)))]) (rr := []) dX11_route_8 rfl rfl rfl rfl (rc_of rfl rfl (by decide) ⟨rfl, by decide⟩) (Nat.le_of_ble_eq_true rfl) (Nat.le_of_ble_eq_true rfl) (by decide) x_refused (Or.inl rfl) rfl ?_
  refine e_if_eq (t := 18) (p := 14) dX11_route_11 (by decide) rfl rfl (fun hc11 => absurd hc11 (rf_ne ht)) (fun hc11 => ?_)
  refine e_ldc2 (p := 17) dX11_route_14 rfl rfl ?_
  exact e_lretE dX11_route_17 rfl ⟨rfl, rfl⟩
set_option maxRecDepth 10000 in
theorem c_mean_no {I : Nat → Nat → Int32} {J : Nat → Nat → Int64} {F : Nat → Nat → Option Nat} {nc ns : Nat} {o : Nat} {D : oD} {s : Nat → Int32} (ho : isO o) (hF : RFok F) (hoF : F 0 2 = some o) (hC : oC I o D) (hW : WF D) (hm : mo I 42 s) (hS : WFs D s) {v b : Int32} (ht : ¬ (eiS (toS D) (eiS (nuS v 1 3) (frD s))) = 0) : Ev 7 mX11_mean 0 [.ref 0, .int v, .int b] [] ((SH, nc, ns), I, J, F) (some (.long (-1))) ((SH, nc, ns), hp_u I 0 10 (eiS (toS D) (eiS (nuS v 1 3) (frD s))), J, F) := by
  have hD := hW.c
  have hH := hW.h
  have hT := hW.t
  have bt := hT.2
  obtain ⟨b0, b1, b2, b3, b4, b5, b6⟩ := hD.2
  refine e_aload_n (p := 1) dX11_mean_0 rfl rfl ?_
  refine e_aload_n (p := 2) dX11_mean_1 rfl rfl ?_
  refine e_iload_n (p := 3) dX11_mean_2 rfl rfl ?_
  refine e_iconst (v := 1) (p := 4) dX11_mean_3 (by decide) rfl ?_
  refine e_iconst (v := 3) (p := 5) dX11_mean_4 (by decide) rfl ?_
  refine e_callV_int (p := 8) (k' := 2) (a := [.ref 0, .int v, .int 1, .int 3]) (rr := [.ref 0]) dX11_mean_5 rfl rfl rfl rfl (rc_of rfl rfl (by decide) ⟨rfl, by decide⟩) (Nat.le_of_ble_eq_true rfl) (Nat.le_of_ble_eq_true rfl) (by decide) (x_ofPlan ho hF hoF hC hW hm hS) (Or.inl rfl) rfl ?_
  refine e_callV_int (p := 11) (k' := 0) (a := [.ref 0, .int (eiS (toS D) (eiS (nuS v 1 3) (frD s)))]) (rr := []) dX11_mean_8 rfl rfl rfl rfl (rc_of rfl rfl (by decide) ⟨rfl, by decide⟩) (Nat.le_of_ble_eq_true rfl) (Nat.le_of_ble_eq_true rfl) (by decide) x_refused (Or.inl rfl) rfl ?_
  refine e_if_eq (t := 18) (p := 14) dX11_mean_11 (by decide) rfl rfl (fun hc11 => absurd hc11 (rf_ne ht)) (fun hc11 => ?_)
  refine e_ldc2 (p := 17) dX11_mean_14 rfl rfl ?_
  exact e_lretE dX11_mean_17 rfl ⟨rfl, rfl⟩
set_option maxRecDepth 10000 in
theorem c_routeAt_no {I : Nat → Nat → Int32} {J : Nat → Nat → Int64} {F : Nat → Nat → Option Nat} {nc ns : Nat} {o : Nat} {D : oD} {s : Nat → Int32} (ho : isO o) (hF : RFok F) (hoF : F 0 2 = some o) (hC : oC I o D) (hW : WF D) (hm : mo I 42 s) (hS : WFs D s) {v i : Int32} (ht : ¬ (eiS (toS D) (eiS (nuS v 1 3) (frD s))) = 0) : Ev 7 mX11_routeAt 0 [.ref 0, .int v, .int i] [] ((SH, nc, ns), I, J, F) (some (.int (-1))) ((SH, nc, ns), hp_u I 0 10 (eiS (toS D) (eiS (nuS v 1 3) (frD s))), J, F) := by
  have hD := hW.c
  have hH := hW.h
  have hT := hW.t
  have bt := hT.2
  obtain ⟨b0, b1, b2, b3, b4, b5, b6⟩ := hD.2
  refine e_aload_n (p := 1) dX11_routeAt_0 rfl rfl ?_
  refine e_aload_n (p := 2) dX11_routeAt_1 rfl rfl ?_
  refine e_iload_n (p := 3) dX11_routeAt_2 rfl rfl ?_
  refine e_iconst (v := 1) (p := 4) dX11_routeAt_3 (by decide) rfl ?_
  refine e_iconst (v := 3) (p := 5) dX11_routeAt_4 (by decide) rfl ?_
  refine e_callV_int (p := 8) (k' := 2) (a := [.ref 0, .int v, .int 1, .int 3]) (rr := [.ref 0]) dX11_routeAt_5 rfl rfl rfl rfl (rc_of rfl rfl (by decide) ⟨rfl, by decide⟩) (Nat.le_of_ble_eq_true rfl) (Nat.le_of_ble_eq_true rfl) (by decide) (x_ofPlan ho hF hoF hC hW hm hS) (Or.inl rfl) rfl ?_
  refine e_callV_int (p := 11) (k' := 0) (a := [.ref 0, .int (eiS (toS D) (eiS (nuS v 1 3) (frD s)))]) (rr := []) dX11_routeAt_8 rfl rfl rfl rfl (rc_of rfl rfl (by decide) ⟨rfl, by decide⟩) (Nat.le_of_ble_eq_true rfl) (Nat.le_of_ble_eq_true rfl) (by decide) x_refused (Or.inl rfl) rfl ?_
  refine e_if_eq (t := 16) (p := 14) dX11_routeAt_11 (by decide) rfl rfl (fun hc11 => absurd hc11 (rf_ne ht)) (fun hc11 => ?_)
  refine e_iconst (v := -1) (p := 15) dX11_routeAt_14 (by decide) rfl ?_
  exact e_iretE dX11_routeAt_15 rfl rfl (by decide) ⟨rfl, rfl⟩
set_option maxRecDepth 10000 in
theorem c_routes_no {I : Nat → Nat → Int32} {J : Nat → Nat → Int64} {F : Nat → Nat → Option Nat} {nc ns : Nat} {o : Nat} {D : oD} {s : Nat → Int32} (ho : isO o) (hF : RFok F) (hoF : F 0 2 = some o) (hC : oC I o D) (hW : WF D) (hm : mo I 42 s) (hS : WFs D s) {v : Int32} (ht : ¬ (eiS (toS D) (eiS (nuS v 1 3) (frD s))) = 0) : Ev 7 mX11_routes 0 [.ref 0, .int v] [] ((SH, nc, ns), I, J, F) (some (.int (-1))) ((SH, nc, ns), hp_u I 0 10 (eiS (toS D) (eiS (nuS v 1 3) (frD s))), J, F) := by
  have hD := hW.c
  have hH := hW.h
  have hT := hW.t
  have bt := hT.2
  obtain ⟨b0, b1, b2, b3, b4, b5, b6⟩ := hD.2
  refine e_aload_n (p := 1) dX11_routes_0 rfl rfl ?_
  refine e_aload_n (p := 2) dX11_routes_1 rfl rfl ?_
  refine e_iload_n (p := 3) dX11_routes_2 rfl rfl ?_
  refine e_iconst (v := 1) (p := 4) dX11_routes_3 (by decide) rfl ?_
  refine e_iconst (v := 3) (p := 5) dX11_routes_4 (by decide) rfl ?_
  refine e_callV_int (p := 8) (k' := 2) (a := [.ref 0, .int v, .int 1, .int 3]) (rr := [.ref 0]) dX11_routes_5 rfl rfl rfl rfl (rc_of rfl rfl (by decide) ⟨rfl, by decide⟩) (Nat.le_of_ble_eq_true rfl) (Nat.le_of_ble_eq_true rfl) (by decide) (x_ofPlan ho hF hoF hC hW hm hS) (Or.inl rfl) rfl ?_
  refine e_callV_int (p := 11) (k' := 0) (a := [.ref 0, .int (eiS (toS D) (eiS (nuS v 1 3) (frD s)))]) (rr := []) dX11_routes_8 rfl rfl rfl rfl (rc_of rfl rfl (by decide) ⟨rfl, by decide⟩) (Nat.le_of_ble_eq_true rfl) (Nat.le_of_ble_eq_true rfl) (by decide) x_refused (Or.inl rfl) rfl ?_
  refine e_if_eq (t := 16) (p := 14) dX11_routes_11 (by decide) rfl rfl (fun hc11 => absurd hc11 (rf_ne ht)) (fun hc11 => ?_)
  refine e_iconst (v := -1) (p := 15) dX11_routes_14 (by decide) rfl ?_
  exact e_iretE dX11_routes_15 rfl rfl (by decide) ⟨rfl, rfl⟩
set_option maxRecDepth 10000 in
theorem c_routes_ok {I : Nat → Nat → Int32} {J : Nat → Nat → Int64} {F : Nat → Nat → Option Nat} {nc ns : Nat} {o : Nat} {D : oD} {s : Nat → Int32} (ho : isO o) (hF : RFok F) (hoF : F 0 2 = some o) (hC : oC I o D) (hW : WF D) (hm : mo I 42 s) (hS : WFs D s) (ht1 : tol D = 1) (hfr : s 2 ≤ 0) {n : Nat} (h1n : 1 ≤ n) (hn : n ≤ 3) : Ew 7 mX11_routes 0 [.ref 0, .int (nI n)] [] ((SH, nc, ns), I, J, F) (QC nc ns I J F (.int ((rout0 D s n 0 (I 66)).1)) 0) := by
  have hD := hW.c
  have hH := hW.h
  have hT := hW.t
  have bt := hT.2
  obtain ⟨b0, b1, b2, b3, b4, b5, b6⟩ := hD.2
  refine we_aload_n (p := 1) dX11_routes_0 rfl rfl ?_
  refine we_aload_n (p := 2) dX11_routes_1 rfl rfl ?_
  refine we_iload_n (p := 3) dX11_routes_2 rfl rfl ?_
  refine we_iconst (v := 1) (p := 4) dX11_routes_3 (by decide) rfl ?_
  refine we_iconst (v := 3) (p := 5) dX11_routes_4 (by decide) rfl ?_
  refine we_callV_int (p := 8) (k' := 2) (a := [.ref 0, .int (nI n), .int 1, .int 3]) (rr := [.ref 0]) dX11_routes_5 rfl rfl rfl rfl (rc_of rfl rfl (by decide) ⟨rfl, by decide⟩) (Nat.le_of_ble_eq_true rfl) (Nat.le_of_ble_eq_true rfl) (by decide) (x_ofPlan_ok ho hF hoF hC hW hm hS ht1 hfr (nu_ok (a := 1) (b := 3) (n := n) (by omega) (by omega) (by omega))) (Or.inl rfl) rfl ?_
  refine we_callV_int (p := 11) (k' := 0) (a := [.ref 0, .int 0]) (rr := []) dX11_routes_8 rfl rfl rfl rfl (rc_of rfl rfl (by decide) ⟨rfl, by decide⟩) (Nat.le_of_ble_eq_true rfl) (Nat.le_of_ble_eq_true rfl) (by decide) (Ev.i (show rfS 0 = 0 by decide) (x_refused)) (Or.inl rfl) rfl ?_
  refine we_if_eq (t := 16) (p := 14) dX11_routes_11 (by decide) rfl rfl (fun hc11 => ?_) (fun hc11 => absurd (by decide) hc11)
  refine we_aload_n (p := 17) dX11_routes_16 rfl rfl ?_
  refine we_getR (c := 10) (j := 5) (n := 13) (b := 65) (p := 20) dX11_routes_17 rfl rfl (by decide) (by decide) rfl (r_0_5 hF) rfl ?_
  refine we_aload_n (p := 21) dX11_routes_20 rfl rfl ?_
  refine we_getR (c := 10) (j := 2) (n := 13) (b := o) (p := 24) dX11_routes_21 rfl rfl (by decide) (by decide) rfl hoF rfl ?_
  refine we_aload_n (p := 25) dX11_routes_24 rfl rfl ?_
  refine we_getR (c := 10) (j := 3) (n := 13) (b := 42) (p := 28) dX11_routes_25 rfl rfl (by decide) (by decide) rfl (r_0_3 hF) rfl ?_
  refine we_iload_n (p := 29) dX11_routes_28 rfl rfl ?_
  obtain ⟨_, _, e1, rfl, I1, J1, F1, rfl, ⟨f1, k1, rfl, hg⟩⟩ := x_rseek (I := (hp_u I 0 10 0)) (n := n) ho hF (oC_u hC ho (by decide)) hW (mo_u hm (by decide)) hS ht1 hn (f := I 66) (hu_ne (by decide))
  refine we_callV_v (p := 32) (k' := 6) (a := [.ref 65, .ref o, .ref 42, .int (nI n)]) (rr := []) dX11_routes_29 rfl rfl rfl rfl (rc_of rfl rfl (by decide) ⟨rfl, by decide⟩) (Nat.le_of_ble_eq_true rfl) (Nat.le_of_ble_eq_true rfl) (by decide) e1 (Or.inl rfl) rfl ?_
  refine we_aload_n (p := 33) dX11_routes_32 rfl rfl ?_
  refine we_getR (c := 10) (j := 5) (n := 13) (b := 65) (p := 36) dX11_routes_33 rfl rfl (by decide) (by decide) rfl (r_0_5 hF) rfl ?_
  refine wf_getI (c := 8) (j := 1) (n := 7) (v := (rout0 D s n 0 (I 66)).1) (p := 39) dX11_routes_36 rfl rfl (by decide) (by decide) (Or.inl rfl) hg.1 rfl ?_
  exact wi_ret dX11_routes_39 rfl rfl (by decide) (⟨rfl, _, _, _, rfl, f1.wd (by omega) (by omega), k1.wd (by omega) (by omega), rfl⟩)
def wN (D : oD) (n : Nat) : Nat := (100 ^ tN D) ^ n
theorem who_n {D : oD} (hW : WF D) {n : Nat} : whoS D n = lN (wN D n) := by
  unfold whoS
  have : ∀ m j x, gN (fun _ z => z * powS D 100) j m (lN x) = lN (x * (100 ^ tN D) ^ m) := by
    intro m
    induction m with
    | zero => intro j x; simp [gN]
    | succ m ih =>
      intro j x
      rw [gN, show lN x * powS D 100 = lN (x * 100 ^ tN D) by rw [pow_100' hW, lN_mul], ih, Nat.pow_succ, Nat.mul_assoc, Nat.mul_comm (100 ^ tN D)]
  have h := this n 0 1
  rw [Nat.one_mul] at h
  exact h
theorem w_lt {D : oD} (hW : WF D) {n : Nat} (hn : n ≤ 3) : wN D n ≤ 1000000000000000000 := by
  have h : 100 ^ tN D ≤ 1000000 := pow_lt hW.t (Nat.le_refl 100)
  unfold wN
  refine Nat.le_trans (Nat.pow_le_pow_left h n) (Nat.le_trans (Nat.pow_le_pow_right (by omega) hn) (by decide))
theorem w_pos {D : oD} {n : Nat} : 0 < wN D n := Nat.pos_of_ne_zero (by unfold wN; exact Nat.ne_of_gt (Nat.pow_pos (Nat.pow_pos (by omega))))
set_option maxRecDepth 10000 in
theorem c_route_ok {I : Nat → Nat → Int32} {J : Nat → Nat → Int64} {F : Nat → Nat → Option Nat} {nc ns : Nat} {o : Nat} {D : oD} {s : Nat → Int32} (ho : isO o) (hF : RFok F) (hoF : F 0 2 = some o) (hC : oC I o D) (hW : WF D) (hm : mo I 42 s) (hS : WFs D s) (ht1 : tol D = 1) (hfr : s 2 ≤ 0) {n : Nat} (h1n : 1 ≤ n) (hn : n ≤ 3) {u : Nat} {b : Int32} (hu : anyS D n (rout0 D s n 0 (I 66)) = lN u) (hu2 : u < 2 ^ 63) : Ew 7 mX11_route 0 [.ref 0, .int (nI n), .int b] [] ((SH, nc, ns), I, J, F) (QC nc ns I J F (.long (lowS u (wN D n) b)) 0) := by
  have hD := hW.c
  have hH := hW.h
  have hT := hW.t
  have bt := hT.2
  obtain ⟨b0, b1, b2, b3, b4, b5, b6⟩ := hD.2
  refine we_aload_n (p := 1) dX11_route_0 rfl rfl ?_
  refine we_aload_n (p := 2) dX11_route_1 rfl rfl ?_
  refine we_iload_n (p := 3) dX11_route_2 rfl rfl ?_
  refine we_iconst (v := 1) (p := 4) dX11_route_3 (by decide) rfl ?_
  refine we_iconst (v := 3) (p := 5) dX11_route_4 (by decide) rfl ?_
  refine we_callV_int (p := 8) (k' := 2) (a := [.ref 0, .int (nI n), .int 1, .int 3]) (rr := [.ref 0]) dX11_route_5 rfl rfl rfl rfl (rc_of rfl rfl (by decide) ⟨rfl, by decide⟩) (Nat.le_of_ble_eq_true rfl) (Nat.le_of_ble_eq_true rfl) (by decide) (x_ofPlan_ok ho hF hoF hC hW hm hS ht1 hfr (nu_ok (a := 1) (b := 3) (n := n) (by omega) (by omega) (by omega))) (Or.inl rfl) rfl ?_
  refine we_callV_int (p := 11) (k' := 0) (a := [.ref 0, .int 0]) (rr := []) dX11_route_8 rfl rfl rfl rfl (rc_of rfl rfl (by decide) ⟨rfl, by decide⟩) (Nat.le_of_ble_eq_true rfl) (Nat.le_of_ble_eq_true rfl) (by decide) (Ev.i (show rfS 0 = 0 by decide) (x_refused)) (Or.inl rfl) rfl ?_
  refine we_if_eq (t := 18) (p := 14) dX11_route_11 (by decide) rfl rfl (fun hc11 => ?_) (fun hc11 => absurd (by decide) hc11)
  refine we_aload_n (p := 19) dX11_route_18 rfl rfl ?_
  refine we_getR (c := 10) (j := 5) (n := 13) (b := 65) (p := 22) dX11_route_19 rfl rfl (by decide) (by decide) rfl (r_0_5 hF) rfl ?_
  refine we_aload_n (p := 23) dX11_route_22 rfl rfl ?_
  refine we_getR (c := 10) (j := 2) (n := 13) (b := o) (p := 26) dX11_route_23 rfl rfl (by decide) (by decide) rfl hoF rfl ?_
  refine we_aload_n (p := 27) dX11_route_26 rfl rfl ?_
  refine we_getR (c := 10) (j := 3) (n := 13) (b := 42) (p := 30) dX11_route_27 rfl rfl (by decide) (by decide) rfl (r_0_3 hF) rfl ?_
  refine we_iload_n (p := 31) dX11_route_30 rfl rfl ?_
  obtain ⟨_, _, e1, rfl, I1, J1, F1, rfl, ⟨f1, k1, rfl, hg⟩⟩ := x_rseek (I := (hp_u I 0 10 0)) (n := n) ho hF (oC_u hC ho (by decide)) hW (mo_u hm (by decide)) hS ht1 hn (f := I 66) (hu_ne (by decide))
  refine we_callV_v (p := 34) (k' := 6) (a := [.ref 65, .ref o, .ref 42, .int (nI n)]) (rr := []) dX11_route_31 rfl rfl rfl rfl (rc_of rfl rfl (by decide) ⟨rfl, by decide⟩) (Nat.le_of_ble_eq_true rfl) (Nat.le_of_ble_eq_true rfl) (by decide) e1 (Or.inl rfl) rfl ?_
  refine we_aload_n (p := 35) dX11_route_34 rfl rfl ?_
  refine we_getR (c := 10) (j := 5) (n := 13) (b := 65) (p := 38) dX11_route_35 rfl rfl (by decide) (by decide) rfl (r_0_5 hF) rfl ?_
  refine we_callV_long (p := 41) (k' := 1) (a := [.ref 65]) (rr := []) dX11_route_38 rfl rfl rfl rfl (rc_of rfl rfl (by decide) ⟨rfl, by decide⟩) (Nat.le_of_ble_eq_true rfl) (Nat.le_of_ble_eq_true rfl) (by decide) (x_any hF hn hg) (Or.inl rfl) rfl ?_
  refine we_aload_n (p := 42) dX11_route_41 rfl rfl ?_
  refine we_getR (c := 10) (j := 5) (n := 13) (b := 65) (p := 45) dX11_route_42 rfl rfl (by decide) (by decide) rfl (r_0_5 hF) rfl ?_
  refine we_callV_long (p := 48) (k' := 0) (a := [.ref 65]) (rr := [.long (anyS D n (rout0 D s n 0 (I 66)))]) dX11_route_45 rfl rfl rfl rfl (rc_of rfl rfl (by decide) ⟨rfl, by decide⟩) (Nat.le_of_ble_eq_true rfl) (Nat.le_of_ble_eq_true rfl) (by decide) (x_whole hF hn hg) (Or.inl rfl) rfl ?_
  refine we_iload_n (p := 49) dX11_route_48 rfl rfl ?_
  refine we_callS_long (p := 52) (k' := 0) (a := [.long (anyS D n (rout0 D s n 0 (I 66))), .long (whoS D n), .int b]) (rr := []) dX11_route_49 rfl rfl rfl rfl rfl (rc_st rfl) (Nat.le_of_ble_eq_true rfl) (Nat.le_of_ble_eq_true rfl) (by decide) (x_lowE (b := b) hu (who_n hW) hu2 (Nat.lt_of_le_of_lt (w_lt hW hn) (by decide)) w_pos) (Or.inl rfl) rfl ?_
  exact wl_ret dX11_route_52 rfl (⟨rfl, _, _, _, rfl, f1.wd (by omega) (by omega), k1.wd (by omega) (by omega), rfl⟩)
set_option maxRecDepth 10000 in
theorem c_mean_ok {I : Nat → Nat → Int32} {J : Nat → Nat → Int64} {F : Nat → Nat → Option Nat} {nc ns : Nat} {o : Nat} {D : oD} {s : Nat → Int32} (ho : isO o) (hF : RFok F) (hoF : F 0 2 = some o) (hC : oC I o D) (hW : WF D) (hm : mo I 42 s) (hS : WFs D s) (ht1 : tol D = 1) (hfr : s 2 ≤ 0) {n : Nat} (h1n : 1 ≤ n) (hn : n ≤ 3) {u : Nat} {b : Int32} (hz : ¬ (rout0 D s n 0 (I 66)).1 ≤ 0) (hb : ∀ i, i < n → ∃ w, w < dN D 2 ∧ (rout0 D s n 0 (I 66)).2.2 i = nI w) (hu : gN (sumF D s (rout0 D s n 0 (I 66)).2.2) 0 n 0 = lN u) (hu2 : u < 2 ^ 63) : Ew 7 mX11_mean 0 [.ref 0, .int (nI n), .int b] [] ((SH, nc, ns), I, J, F) (QC nc ns I J F (.long (lowS u (100 ^ tN D) b)) 0) := by
  have hD := hW.c
  have hH := hW.h
  have hT := hW.t
  have bt := hT.2
  obtain ⟨b0, b1, b2, b3, b4, b5, b6⟩ := hD.2
  refine we_aload_n (p := 1) dX11_mean_0 rfl rfl ?_
  refine we_aload_n (p := 2) dX11_mean_1 rfl rfl ?_
  refine we_iload_n (p := 3) dX11_mean_2 rfl rfl ?_
  refine we_iconst (v := 1) (p := 4) dX11_mean_3 (by decide) rfl ?_
  refine we_iconst (v := 3) (p := 5) dX11_mean_4 (by decide) rfl ?_
  refine we_callV_int (p := 8) (k' := 2) (a := [.ref 0, .int (nI n), .int 1, .int 3]) (rr := [.ref 0]) dX11_mean_5 rfl rfl rfl rfl (rc_of rfl rfl (by decide) ⟨rfl, by decide⟩) (Nat.le_of_ble_eq_true rfl) (Nat.le_of_ble_eq_true rfl) (by decide) (x_ofPlan_ok ho hF hoF hC hW hm hS ht1 hfr (nu_ok (a := 1) (b := 3) (n := n) (by omega) (by omega) (by omega))) (Or.inl rfl) rfl ?_
  refine we_callV_int (p := 11) (k' := 0) (a := [.ref 0, .int 0]) (rr := []) dX11_mean_8 rfl rfl rfl rfl (rc_of rfl rfl (by decide) ⟨rfl, by decide⟩) (Nat.le_of_ble_eq_true rfl) (Nat.le_of_ble_eq_true rfl) (by decide) (Ev.i (show rfS 0 = 0 by decide) (x_refused)) (Or.inl rfl) rfl ?_
  refine we_if_eq (t := 18) (p := 14) dX11_mean_11 (by decide) rfl rfl (fun hc11 => ?_) (fun hc11 => absurd (by decide) hc11)
  refine we_aload_n (p := 19) dX11_mean_18 rfl rfl ?_
  refine we_getR (c := 10) (j := 5) (n := 13) (b := 65) (p := 22) dX11_mean_19 rfl rfl (by decide) (by decide) rfl (r_0_5 hF) rfl ?_
  refine we_aload_n (p := 23) dX11_mean_22 rfl rfl ?_
  refine we_getR (c := 10) (j := 2) (n := 13) (b := o) (p := 26) dX11_mean_23 rfl rfl (by decide) (by decide) rfl hoF rfl ?_
  refine we_aload_n (p := 27) dX11_mean_26 rfl rfl ?_
  refine we_getR (c := 10) (j := 3) (n := 13) (b := 42) (p := 30) dX11_mean_27 rfl rfl (by decide) (by decide) rfl (r_0_3 hF) rfl ?_
  refine we_iload_n (p := 31) dX11_mean_30 rfl rfl ?_
  obtain ⟨_, _, e1, rfl, I1, J1, F1, rfl, ⟨f1, k1, rfl, hg⟩⟩ := x_rseek (I := (hp_u I 0 10 0)) (n := n) ho hF (oC_u hC ho (by decide)) hW (mo_u hm (by decide)) hS ht1 hn (f := I 66) (hu_ne (by decide))
  refine we_callV_v (p := 34) (k' := 6) (a := [.ref 65, .ref o, .ref 42, .int (nI n)]) (rr := []) dX11_mean_31 rfl rfl rfl rfl (rc_of rfl rfl (by decide) ⟨rfl, by decide⟩) (Nat.le_of_ble_eq_true rfl) (Nat.le_of_ble_eq_true rfl) (by decide) e1 (Or.inl rfl) rfl ?_
  refine we_aload_n (p := 35) dX11_mean_34 rfl rfl ?_
  refine we_getR (c := 10) (j := 5) (n := 13) (b := 65) (p := 38) dX11_mean_35 rfl rfl (by decide) (by decide) rfl (r_0_5 hF) rfl ?_
  refine we_callV_long (p := 41) (k' := 0) (a := [.ref 65]) (rr := []) dX11_mean_38 rfl rfl rfl rfl (rc_of rfl rfl (by decide) ⟨rfl, by decide⟩) (Nat.le_of_ble_eq_true rfl) (Nat.le_of_ble_eq_true rfl) (by decide) (x_sum hF hn hg hW hb hz) (Or.inl rfl) rfl ?_
  refine we_aload_n (p := 42) dX11_mean_41 rfl rfl ?_
  refine we_getR (c := 10) (j := 2) (n := 13) (b := o) (p := 45) dX11_mean_42 rfl rfl (by decide) (by decide) rfl hoF rfl ?_
  refine we_bipush (v := 100) (p := 47) dX11_mean_45 (by decide) rfl ?_
  refine we_callV_long (p := 50) (k' := 0) (a := [.ref o, .int 100]) (rr := [.long (gN (sumF D s (rout0 D s n 0 (I 66)).2.2) 0 n 0)]) dX11_mean_47 rfl rfl rfl rfl (rc_of rfl (s_o ho) (l_o0 ho) ⟨rfl, by decide⟩) (Nat.le_of_ble_eq_true rfl) (Nat.le_of_ble_eq_true rfl) (by decide) (x_overTrial ho hF (oC_fr (oC_u hC ho (by decide)) ho (fun k h1 h2 => f1 k (by omega))) hW.c hW.t) (Or.inl rfl) rfl ?_
  refine we_iload_n (p := 51) dX11_mean_50 rfl rfl ?_
  refine we_callS_long (p := 54) (k' := 0) (a := [.long (gN (sumF D s (rout0 D s n 0 (I 66)).2.2) 0 n 0), .long (powS D ((100 : Int32)).toInt64), .int b]) (rr := []) dX11_mean_51 rfl rfl rfl rfl rfl (rc_st rfl) (Nat.le_of_ble_eq_true rfl) (Nat.le_of_ble_eq_true rfl) (by decide) (x_lowE (b := b) hu (pow_100 hW) hu2 (h_lt hW) (Nat.pow_pos (by omega))) (Or.inl rfl) rfl ?_
  exact wl_ret dX11_mean_54 rfl (⟨rfl, _, _, _, rfl, f1.wd (by omega) (by omega), k1.wd (by omega) (by omega), rfl⟩)
set_option maxRecDepth 10000 in
theorem c_mean_ok0 {I : Nat → Nat → Int32} {J : Nat → Nat → Int64} {F : Nat → Nat → Option Nat} {nc ns : Nat} {o : Nat} {D : oD} {s : Nat → Int32} (ho : isO o) (hF : RFok F) (hoF : F 0 2 = some o) (hC : oC I o D) (hW : WF D) (hm : mo I 42 s) (hS : WFs D s) (ht1 : tol D = 1) (hfr : s 2 ≤ 0) {n : Nat} (h1n : 1 ≤ n) (hn : n ≤ 3) {b : Int32} (hz : (rout0 D s n 0 (I 66)).1 ≤ 0) : Ew 7 mX11_mean 0 [.ref 0, .int (nI n), .int b] [] ((SH, nc, ns), I, J, F) (QC nc ns I J F (.long (lowS 0 (100 ^ tN D) b)) 0) := by
  have hD := hW.c
  have hH := hW.h
  have hT := hW.t
  have bt := hT.2
  obtain ⟨b0, b1, b2, b3, b4, b5, b6⟩ := hD.2
  refine we_aload_n (p := 1) dX11_mean_0 rfl rfl ?_
  refine we_aload_n (p := 2) dX11_mean_1 rfl rfl ?_
  refine we_iload_n (p := 3) dX11_mean_2 rfl rfl ?_
  refine we_iconst (v := 1) (p := 4) dX11_mean_3 (by decide) rfl ?_
  refine we_iconst (v := 3) (p := 5) dX11_mean_4 (by decide) rfl ?_
  refine we_callV_int (p := 8) (k' := 2) (a := [.ref 0, .int (nI n), .int 1, .int 3]) (rr := [.ref 0]) dX11_mean_5 rfl rfl rfl rfl (rc_of rfl rfl (by decide) ⟨rfl, by decide⟩) (Nat.le_of_ble_eq_true rfl) (Nat.le_of_ble_eq_true rfl) (by decide) (x_ofPlan_ok ho hF hoF hC hW hm hS ht1 hfr (nu_ok (a := 1) (b := 3) (n := n) (by omega) (by omega) (by omega))) (Or.inl rfl) rfl ?_
  refine we_callV_int (p := 11) (k' := 0) (a := [.ref 0, .int 0]) (rr := []) dX11_mean_8 rfl rfl rfl rfl (rc_of rfl rfl (by decide) ⟨rfl, by decide⟩) (Nat.le_of_ble_eq_true rfl) (Nat.le_of_ble_eq_true rfl) (by decide) (Ev.i (show rfS 0 = 0 by decide) (x_refused)) (Or.inl rfl) rfl ?_
  refine we_if_eq (t := 18) (p := 14) dX11_mean_11 (by decide) rfl rfl (fun hc11 => ?_) (fun hc11 => absurd (by decide) hc11)
  refine we_aload_n (p := 19) dX11_mean_18 rfl rfl ?_
  refine we_getR (c := 10) (j := 5) (n := 13) (b := 65) (p := 22) dX11_mean_19 rfl rfl (by decide) (by decide) rfl (r_0_5 hF) rfl ?_
  refine we_aload_n (p := 23) dX11_mean_22 rfl rfl ?_
  refine we_getR (c := 10) (j := 2) (n := 13) (b := o) (p := 26) dX11_mean_23 rfl rfl (by decide) (by decide) rfl hoF rfl ?_
  refine we_aload_n (p := 27) dX11_mean_26 rfl rfl ?_
  refine we_getR (c := 10) (j := 3) (n := 13) (b := 42) (p := 30) dX11_mean_27 rfl rfl (by decide) (by decide) rfl (r_0_3 hF) rfl ?_
  refine we_iload_n (p := 31) dX11_mean_30 rfl rfl ?_
  obtain ⟨_, _, e1, rfl, I1, J1, F1, rfl, ⟨f1, k1, rfl, hg⟩⟩ := x_rseek (I := (hp_u I 0 10 0)) (n := n) ho hF (oC_u hC ho (by decide)) hW (mo_u hm (by decide)) hS ht1 hn (f := I 66) (hu_ne (by decide))
  refine we_callV_v (p := 34) (k' := 6) (a := [.ref 65, .ref o, .ref 42, .int (nI n)]) (rr := []) dX11_mean_31 rfl rfl rfl rfl (rc_of rfl rfl (by decide) ⟨rfl, by decide⟩) (Nat.le_of_ble_eq_true rfl) (Nat.le_of_ble_eq_true rfl) (by decide) e1 (Or.inl rfl) rfl ?_
  refine we_aload_n (p := 35) dX11_mean_34 rfl rfl ?_
  refine we_getR (c := 10) (j := 5) (n := 13) (b := 65) (p := 38) dX11_mean_35 rfl rfl (by decide) (by decide) rfl (r_0_5 hF) rfl ?_
  refine we_callV_long (p := 41) (k' := 0) (a := [.ref 65]) (rr := []) dX11_mean_38 rfl rfl rfl rfl (rc_of rfl rfl (by decide) ⟨rfl, by decide⟩) (Nat.le_of_ble_eq_true rfl) (Nat.le_of_ble_eq_true rfl) (by decide) (x_sum0 hF hn hg h1n hz) (Or.inl rfl) rfl ?_
  refine we_aload_n (p := 42) dX11_mean_41 rfl rfl ?_
  refine we_getR (c := 10) (j := 2) (n := 13) (b := o) (p := 45) dX11_mean_42 rfl rfl (by decide) (by decide) rfl hoF rfl ?_
  refine we_bipush (v := 100) (p := 47) dX11_mean_45 (by decide) rfl ?_
  refine we_callV_long (p := 50) (k' := 0) (a := [.ref o, .int 100]) (rr := [.long 0]) dX11_mean_47 rfl rfl rfl rfl (rc_of rfl (s_o ho) (l_o0 ho) ⟨rfl, by decide⟩) (Nat.le_of_ble_eq_true rfl) (Nat.le_of_ble_eq_true rfl) (by decide) (x_overTrial ho hF (oC_fr (oC_u hC ho (by decide)) ho (fun k h1 h2 => f1 k (by omega))) hW.c hW.t) (Or.inl rfl) rfl ?_
  refine we_iload_n (p := 51) dX11_mean_50 rfl rfl ?_
  refine we_callS_long (p := 54) (k' := 0) (a := [.long 0, .long (powS D ((100 : Int32)).toInt64), .int b]) (rr := []) dX11_mean_51 rfl rfl rfl rfl rfl (rc_st rfl) (Nat.le_of_ble_eq_true rfl) (Nat.le_of_ble_eq_true rfl) (by decide) (x_lowE (u := 0) (b := b) rfl (pow_100 hW) (by decide) (h_lt hW) (Nat.pow_pos (by omega))) (Or.inl rfl) rfl ?_
  exact wl_ret dX11_mean_54 rfl (⟨rfl, _, _, _, rfl, f1.wd (by omega) (by omega), k1.wd (by omega) (by omega), rfl⟩)
set_option maxRecDepth 10000 in
theorem c_routeAt_ok6 {I : Nat → Nat → Int32} {J : Nat → Nat → Int64} {F : Nat → Nat → Option Nat} {nc ns : Nat} {o : Nat} {D : oD} {s : Nat → Int32} (ho : isO o) (hF : RFok F) (hoF : F 0 2 = some o) (hC : oC I o D) (hW : WF D) (hm : mo I 42 s) (hS : WFs D s) (ht1 : tol D = 1) (hfr : s 2 ≤ 0) {n : Nat} (h1n : 1 ≤ n) (hn : n ≤ 3) {i : Int32} (hz : (rout0 D s n 0 (I 66)).1 = 0) (ht : ¬ eiS 6 (ixS i n) = 0) : Ew 7 mX11_routeAt 0 [.ref 0, .int (nI n), .int i] [] ((SH, nc, ns), I, J, F) (QC nc ns I J F (.int (-1)) (eiS 6 (ixS i n))) := by
  have hD := hW.c
  have hH := hW.h
  have hT := hW.t
  have bt := hT.2
  obtain ⟨b0, b1, b2, b3, b4, b5, b6⟩ := hD.2
  refine we_aload_n (p := 1) dX11_routeAt_0 rfl rfl ?_
  refine we_aload_n (p := 2) dX11_routeAt_1 rfl rfl ?_
  refine we_iload_n (p := 3) dX11_routeAt_2 rfl rfl ?_
  refine we_iconst (v := 1) (p := 4) dX11_routeAt_3 (by decide) rfl ?_
  refine we_iconst (v := 3) (p := 5) dX11_routeAt_4 (by decide) rfl ?_
  refine we_callV_int (p := 8) (k' := 2) (a := [.ref 0, .int (nI n), .int 1, .int 3]) (rr := [.ref 0]) dX11_routeAt_5 rfl rfl rfl rfl (rc_of rfl rfl (by decide) ⟨rfl, by decide⟩) (Nat.le_of_ble_eq_true rfl) (Nat.le_of_ble_eq_true rfl) (by decide) (x_ofPlan_ok ho hF hoF hC hW hm hS ht1 hfr (nu_ok (a := 1) (b := 3) (n := n) (by omega) (by omega) (by omega))) (Or.inl rfl) rfl ?_
  refine we_callV_int (p := 11) (k' := 0) (a := [.ref 0, .int 0]) (rr := []) dX11_routeAt_8 rfl rfl rfl rfl (rc_of rfl rfl (by decide) ⟨rfl, by decide⟩) (Nat.le_of_ble_eq_true rfl) (Nat.le_of_ble_eq_true rfl) (by decide) (Ev.i (show rfS 0 = 0 by decide) (x_refused)) (Or.inl rfl) rfl ?_
  refine we_if_eq (t := 16) (p := 14) dX11_routeAt_11 (by decide) rfl rfl (fun hc11 => ?_) (fun hc11 => absurd (by decide) hc11)
  refine we_aload_n (p := 17) dX11_routeAt_16 rfl rfl ?_
  refine we_getR (c := 10) (j := 5) (n := 13) (b := 65) (p := 20) dX11_routeAt_17 rfl rfl (by decide) (by decide) rfl (r_0_5 hF) rfl ?_
  refine we_aload_n (p := 21) dX11_routeAt_20 rfl rfl ?_
  refine we_getR (c := 10) (j := 2) (n := 13) (b := o) (p := 24) dX11_routeAt_21 rfl rfl (by decide) (by decide) rfl hoF rfl ?_
  refine we_aload_n (p := 25) dX11_routeAt_24 rfl rfl ?_
  refine we_getR (c := 10) (j := 3) (n := 13) (b := 42) (p := 28) dX11_routeAt_25 rfl rfl (by decide) (by decide) rfl (r_0_3 hF) rfl ?_
  refine we_iload_n (p := 29) dX11_routeAt_28 rfl rfl ?_
  obtain ⟨_, _, e1, rfl, I1, J1, F1, rfl, ⟨f1, k1, rfl, hg⟩⟩ := x_rseek (I := (hp_u I 0 10 0)) (n := n) ho hF (oC_u hC ho (by decide)) hW (mo_u hm (by decide)) hS ht1 hn (f := I 66) (hu_ne (by decide))
  refine we_callV_v (p := 32) (k' := 6) (a := [.ref 65, .ref o, .ref 42, .int (nI n)]) (rr := []) dX11_routeAt_29 rfl rfl rfl rfl (rc_of rfl rfl (by decide) ⟨rfl, by decide⟩) (Nat.le_of_ble_eq_true rfl) (Nat.le_of_ble_eq_true rfl) (by decide) e1 (Or.inl rfl) rfl ?_
  refine we_aload_n (p := 33) dX11_routeAt_32 rfl rfl ?_
  refine we_aload_n (p := 34) dX11_routeAt_33 rfl rfl ?_
  refine we_getR (c := 10) (j := 5) (n := 13) (b := 65) (p := 37) dX11_routeAt_34 rfl rfl (by decide) (by decide) rfl (r_0_5 hF) rfl ?_
  refine wf_getI (c := 8) (j := 1) (n := 7) (v := (rout0 D s n 0 (I 66)).1) (p := 40) dX11_routeAt_37 rfl rfl (by decide) (by decide) (Or.inl rfl) hg.1 rfl ?_
  refine we_if_ne (t := 48) (p := 43) dX11_routeAt_40 (by decide) rfl rfl (fun hc40 => absurd hz hc40) (fun hc40 => ?_)
  refine we_bipush (v := 6) (p := 45) dX11_routeAt_43 (by decide) rfl ?_
  refine we_goto (p := 49) dX11_routeAt_45 (by decide) rfl ?_
  refine we_iload_n (p := 50) dX11_routeAt_49 rfl rfl ?_
  refine we_iload_n (p := 51) dX11_routeAt_50 rfl rfl ?_
  refine we_callS_int (p := 54) (k' := 0) (a := [.int i, .int (nI n)]) (rr := [.int 6, .ref 0]) dX11_routeAt_51 rfl rfl rfl rfl rfl (rc_st rfl) (Nat.le_of_ble_eq_true rfl) (Nat.le_of_ble_eq_true rfl) (by decide) (x_ofIndex (n := n)) (Or.inl rfl) rfl ?_
  refine we_callS_int (p := 57) (k' := 0) (a := [.int 6, .int (ixS i n)]) (rr := [.ref 0]) dX11_routeAt_54 rfl rfl rfl rfl rfl (rc_st rfl) (Nat.le_of_ble_eq_true rfl) (Nat.le_of_ble_eq_true rfl) (by decide) x_either (Or.inl rfl) rfl ?_
  refine we_callV_int (p := 60) (k' := 0) (a := [.ref 0, .int (eiS 6 (ixS i n))]) (rr := []) dX11_routeAt_57 rfl rfl rfl rfl (rc_of rfl rfl (by decide) ⟨rfl, by decide⟩) (Nat.le_of_ble_eq_true rfl) (Nat.le_of_ble_eq_true rfl) (by decide) x_refused (Or.inl rfl) rfl ?_
  refine we_if_eq (t := 65) (p := 63) dX11_routeAt_60 (by decide) rfl rfl (fun hc60 => absurd hc60 (rf_ne ht)) (fun hc60 => ?_)
  refine we_iconst (v := -1) (p := 64) dX11_routeAt_63 (by decide) rfl ?_
  exact wi_ret dX11_routeAt_64 rfl rfl (by decide) (⟨rfl, _, _, _, rfl, (f1.wd (by omega) (by omega)).re (by omega), k1.wd (by omega) (by omega), rfl⟩)
set_option maxRecDepth 10000 in
theorem c_routeAt_ok1 {I : Nat → Nat → Int32} {J : Nat → Nat → Int64} {F : Nat → Nat → Option Nat} {nc ns : Nat} {o : Nat} {D : oD} {s : Nat → Int32} (ho : isO o) (hF : RFok F) (hoF : F 0 2 = some o) (hC : oC I o D) (hW : WF D) (hm : mo I 42 s) (hS : WFs D s) (ht1 : tol D = 1) (hfr : s 2 ≤ 0) {n : Nat} (h1n : 1 ≤ n) (hn : n ≤ 3) {i : Int32} (hz : ¬ (rout0 D s n 0 (I 66)).1 = 0) (ht : ¬ eiS 0 (ixS i n) = 0) : Ew 7 mX11_routeAt 0 [.ref 0, .int (nI n), .int i] [] ((SH, nc, ns), I, J, F) (QC nc ns I J F (.int (-1)) (eiS 0 (ixS i n))) := by
  have hD := hW.c
  have hH := hW.h
  have hT := hW.t
  have bt := hT.2
  obtain ⟨b0, b1, b2, b3, b4, b5, b6⟩ := hD.2
  refine we_aload_n (p := 1) dX11_routeAt_0 rfl rfl ?_
  refine we_aload_n (p := 2) dX11_routeAt_1 rfl rfl ?_
  refine we_iload_n (p := 3) dX11_routeAt_2 rfl rfl ?_
  refine we_iconst (v := 1) (p := 4) dX11_routeAt_3 (by decide) rfl ?_
  refine we_iconst (v := 3) (p := 5) dX11_routeAt_4 (by decide) rfl ?_
  refine we_callV_int (p := 8) (k' := 2) (a := [.ref 0, .int (nI n), .int 1, .int 3]) (rr := [.ref 0]) dX11_routeAt_5 rfl rfl rfl rfl (rc_of rfl rfl (by decide) ⟨rfl, by decide⟩) (Nat.le_of_ble_eq_true rfl) (Nat.le_of_ble_eq_true rfl) (by decide) (x_ofPlan_ok ho hF hoF hC hW hm hS ht1 hfr (nu_ok (a := 1) (b := 3) (n := n) (by omega) (by omega) (by omega))) (Or.inl rfl) rfl ?_
  refine we_callV_int (p := 11) (k' := 0) (a := [.ref 0, .int 0]) (rr := []) dX11_routeAt_8 rfl rfl rfl rfl (rc_of rfl rfl (by decide) ⟨rfl, by decide⟩) (Nat.le_of_ble_eq_true rfl) (Nat.le_of_ble_eq_true rfl) (by decide) (Ev.i (show rfS 0 = 0 by decide) (x_refused)) (Or.inl rfl) rfl ?_
  refine we_if_eq (t := 16) (p := 14) dX11_routeAt_11 (by decide) rfl rfl (fun hc11 => ?_) (fun hc11 => absurd (by decide) hc11)
  refine we_aload_n (p := 17) dX11_routeAt_16 rfl rfl ?_
  refine we_getR (c := 10) (j := 5) (n := 13) (b := 65) (p := 20) dX11_routeAt_17 rfl rfl (by decide) (by decide) rfl (r_0_5 hF) rfl ?_
  refine we_aload_n (p := 21) dX11_routeAt_20 rfl rfl ?_
  refine we_getR (c := 10) (j := 2) (n := 13) (b := o) (p := 24) dX11_routeAt_21 rfl rfl (by decide) (by decide) rfl hoF rfl ?_
  refine we_aload_n (p := 25) dX11_routeAt_24 rfl rfl ?_
  refine we_getR (c := 10) (j := 3) (n := 13) (b := 42) (p := 28) dX11_routeAt_25 rfl rfl (by decide) (by decide) rfl (r_0_3 hF) rfl ?_
  refine we_iload_n (p := 29) dX11_routeAt_28 rfl rfl ?_
  obtain ⟨_, _, e1, rfl, I1, J1, F1, rfl, ⟨f1, k1, rfl, hg⟩⟩ := x_rseek (I := (hp_u I 0 10 0)) (n := n) ho hF (oC_u hC ho (by decide)) hW (mo_u hm (by decide)) hS ht1 hn (f := I 66) (hu_ne (by decide))
  refine we_callV_v (p := 32) (k' := 6) (a := [.ref 65, .ref o, .ref 42, .int (nI n)]) (rr := []) dX11_routeAt_29 rfl rfl rfl rfl (rc_of rfl rfl (by decide) ⟨rfl, by decide⟩) (Nat.le_of_ble_eq_true rfl) (Nat.le_of_ble_eq_true rfl) (by decide) e1 (Or.inl rfl) rfl ?_
  refine we_aload_n (p := 33) dX11_routeAt_32 rfl rfl ?_
  refine we_aload_n (p := 34) dX11_routeAt_33 rfl rfl ?_
  refine we_getR (c := 10) (j := 5) (n := 13) (b := 65) (p := 37) dX11_routeAt_34 rfl rfl (by decide) (by decide) rfl (r_0_5 hF) rfl ?_
  refine wf_getI (c := 8) (j := 1) (n := 7) (v := (rout0 D s n 0 (I 66)).1) (p := 40) dX11_routeAt_37 rfl rfl (by decide) (by decide) (Or.inl rfl) hg.1 rfl ?_
  refine we_if_ne (t := 48) (p := 43) dX11_routeAt_40 (by decide) rfl rfl (fun hc40 => ?_) (fun hc40 => absurd hc40 hz)
  refine we_iconst (v := 0) (p := 49) dX11_routeAt_48 (by decide) rfl ?_
  refine we_iload_n (p := 50) dX11_routeAt_49 rfl rfl ?_
  refine we_iload_n (p := 51) dX11_routeAt_50 rfl rfl ?_
  refine we_callS_int (p := 54) (k' := 0) (a := [.int i, .int (nI n)]) (rr := [.int 0, .ref 0]) dX11_routeAt_51 rfl rfl rfl rfl rfl (rc_st rfl) (Nat.le_of_ble_eq_true rfl) (Nat.le_of_ble_eq_true rfl) (by decide) (x_ofIndex (n := n)) (Or.inl rfl) rfl ?_
  refine we_callS_int (p := 57) (k' := 0) (a := [.int 0, .int (ixS i n)]) (rr := [.ref 0]) dX11_routeAt_54 rfl rfl rfl rfl rfl (rc_st rfl) (Nat.le_of_ble_eq_true rfl) (Nat.le_of_ble_eq_true rfl) (by decide) x_either (Or.inl rfl) rfl ?_
  refine we_callV_int (p := 60) (k' := 0) (a := [.ref 0, .int (eiS 0 (ixS i n))]) (rr := []) dX11_routeAt_57 rfl rfl rfl rfl (rc_of rfl rfl (by decide) ⟨rfl, by decide⟩) (Nat.le_of_ble_eq_true rfl) (Nat.le_of_ble_eq_true rfl) (by decide) x_refused (Or.inl rfl) rfl ?_
  refine we_if_eq (t := 65) (p := 63) dX11_routeAt_60 (by decide) rfl rfl (fun hc60 => absurd hc60 (rf_ne ht)) (fun hc60 => ?_)
  refine we_iconst (v := -1) (p := 64) dX11_routeAt_63 (by decide) rfl ?_
  exact wi_ret dX11_routeAt_64 rfl rfl (by decide) (⟨rfl, _, _, _, rfl, (f1.wd (by omega) (by omega)).re (by omega), k1.wd (by omega) (by omega), rfl⟩)
set_option maxRecDepth 10000 in
theorem c_routeAt_ok {I : Nat → Nat → Int32} {J : Nat → Nat → Int64} {F : Nat → Nat → Option Nat} {nc ns : Nat} {o : Nat} {D : oD} {s : Nat → Int32} (ho : isO o) (hF : RFok F) (hoF : F 0 2 = some o) (hC : oC I o D) (hW : WF D) (hm : mo I 42 s) (hS : WFs D s) (ht1 : tol D = 1) (hfr : s 2 ≤ 0) {n : Nat} (h1n : 1 ≤ n) (hn : n ≤ 3) {i : Nat} (hi : i < n) (hz : ¬ (rout0 D s n 0 (I 66)).1 = 0) : Ew 7 mX11_routeAt 0 [.ref 0, .int (nI n), .int (nI i)] [] ((SH, nc, ns), I, J, F) (QC nc ns I J F (.int ((rout0 D s n 0 (I 66)).2.2 i)) 0) := by
  have hD := hW.c
  have hH := hW.h
  have hT := hW.t
  have bt := hT.2
  obtain ⟨b0, b1, b2, b3, b4, b5, b6⟩ := hD.2
  refine we_aload_n (p := 1) dX11_routeAt_0 rfl rfl ?_
  refine we_aload_n (p := 2) dX11_routeAt_1 rfl rfl ?_
  refine we_iload_n (p := 3) dX11_routeAt_2 rfl rfl ?_
  refine we_iconst (v := 1) (p := 4) dX11_routeAt_3 (by decide) rfl ?_
  refine we_iconst (v := 3) (p := 5) dX11_routeAt_4 (by decide) rfl ?_
  refine we_callV_int (p := 8) (k' := 2) (a := [.ref 0, .int (nI n), .int 1, .int 3]) (rr := [.ref 0]) dX11_routeAt_5 rfl rfl rfl rfl (rc_of rfl rfl (by decide) ⟨rfl, by decide⟩) (Nat.le_of_ble_eq_true rfl) (Nat.le_of_ble_eq_true rfl) (by decide) (x_ofPlan_ok ho hF hoF hC hW hm hS ht1 hfr (nu_ok (a := 1) (b := 3) (n := n) (by omega) (by omega) (by omega))) (Or.inl rfl) rfl ?_
  refine we_callV_int (p := 11) (k' := 0) (a := [.ref 0, .int 0]) (rr := []) dX11_routeAt_8 rfl rfl rfl rfl (rc_of rfl rfl (by decide) ⟨rfl, by decide⟩) (Nat.le_of_ble_eq_true rfl) (Nat.le_of_ble_eq_true rfl) (by decide) (Ev.i (show rfS 0 = 0 by decide) (x_refused)) (Or.inl rfl) rfl ?_
  refine we_if_eq (t := 16) (p := 14) dX11_routeAt_11 (by decide) rfl rfl (fun hc11 => ?_) (fun hc11 => absurd (by decide) hc11)
  refine we_aload_n (p := 17) dX11_routeAt_16 rfl rfl ?_
  refine we_getR (c := 10) (j := 5) (n := 13) (b := 65) (p := 20) dX11_routeAt_17 rfl rfl (by decide) (by decide) rfl (r_0_5 hF) rfl ?_
  refine we_aload_n (p := 21) dX11_routeAt_20 rfl rfl ?_
  refine we_getR (c := 10) (j := 2) (n := 13) (b := o) (p := 24) dX11_routeAt_21 rfl rfl (by decide) (by decide) rfl hoF rfl ?_
  refine we_aload_n (p := 25) dX11_routeAt_24 rfl rfl ?_
  refine we_getR (c := 10) (j := 3) (n := 13) (b := 42) (p := 28) dX11_routeAt_25 rfl rfl (by decide) (by decide) rfl (r_0_3 hF) rfl ?_
  refine we_iload_n (p := 29) dX11_routeAt_28 rfl rfl ?_
  obtain ⟨_, _, e1, rfl, I1, J1, F1, rfl, ⟨f1, k1, rfl, hg⟩⟩ := x_rseek (I := (hp_u I 0 10 0)) (n := n) ho hF (oC_u hC ho (by decide)) hW (mo_u hm (by decide)) hS ht1 hn (f := I 66) (hu_ne (by decide))
  refine we_callV_v (p := 32) (k' := 6) (a := [.ref 65, .ref o, .ref 42, .int (nI n)]) (rr := []) dX11_routeAt_29 rfl rfl rfl rfl (rc_of rfl rfl (by decide) ⟨rfl, by decide⟩) (Nat.le_of_ble_eq_true rfl) (Nat.le_of_ble_eq_true rfl) (by decide) e1 (Or.inl rfl) rfl ?_
  refine we_aload_n (p := 33) dX11_routeAt_32 rfl rfl ?_
  refine we_aload_n (p := 34) dX11_routeAt_33 rfl rfl ?_
  refine we_getR (c := 10) (j := 5) (n := 13) (b := 65) (p := 37) dX11_routeAt_34 rfl rfl (by decide) (by decide) rfl (r_0_5 hF) rfl ?_
  refine wf_getI (c := 8) (j := 1) (n := 7) (v := (rout0 D s n 0 (I 66)).1) (p := 40) dX11_routeAt_37 rfl rfl (by decide) (by decide) (Or.inl rfl) hg.1 rfl ?_
  refine we_if_ne (t := 48) (p := 43) dX11_routeAt_40 (by decide) rfl rfl (fun hc40 => ?_) (fun hc40 => absurd hc40 hz)
  refine we_iconst (v := 0) (p := 49) dX11_routeAt_48 (by decide) rfl ?_
  refine we_iload_n (p := 50) dX11_routeAt_49 rfl rfl ?_
  refine we_iload_n (p := 51) dX11_routeAt_50 rfl rfl ?_
  refine we_callS_int (p := 54) (k' := 0) (a := [.int (nI i), .int (nI n)]) (rr := [.int 0, .ref 0]) dX11_routeAt_51 rfl rfl rfl rfl rfl (rc_st rfl) (Nat.le_of_ble_eq_true rfl) (Nat.le_of_ble_eq_true rfl) (by decide) (Ev.i (ix_ok (n := n) (w := i) (by omega) (by omega)) (x_ofIndex)) (Or.inl rfl) rfl ?_
  refine we_callS_int (p := 57) (k' := 0) (a := [.int 0, .int 0]) (rr := [.ref 0]) dX11_routeAt_54 rfl rfl rfl rfl rfl (rc_st rfl) (Nat.le_of_ble_eq_true rfl) (Nat.le_of_ble_eq_true rfl) (by decide) (Ev.i (show eiS 0 0 = 0 by decide) (x_either)) (Or.inl rfl) rfl ?_
  refine we_callV_int (p := 60) (k' := 0) (a := [.ref 0, .int 0]) (rr := []) dX11_routeAt_57 rfl rfl rfl rfl (rc_of rfl rfl (by decide) ⟨rfl, by decide⟩) (Nat.le_of_ble_eq_true rfl) (Nat.le_of_ble_eq_true rfl) (by decide) (Ev.i (show rfS 0 = 0 by decide) (x_refused)) (Or.inl rfl) rfl ?_
  refine we_if_eq (t := 65) (p := 63) dX11_routeAt_60 (by decide) rfl rfl (fun hc60 => ?_) (fun hc60 => absurd (by decide) hc60)
  refine we_aload_n (p := 66) dX11_routeAt_65 rfl rfl ?_
  refine we_getR (c := 10) (j := 5) (n := 13) (b := 65) (p := 69) dX11_routeAt_66 rfl rfl (by decide) (by decide) rfl (r_0_5 hF) rfl ?_
  refine we_getR (c := 8) (j := 0) (n := 7) (b := 66) (p := 72) dX11_routeAt_69 rfl rfl (by decide) (by decide) rfl (r_65_0 hF) rfl ?_
  refine we_iload_n (p := 73) dX11_routeAt_72 rfl rfl ?_
  refine wf_iald (n := 3) (i := i) (v := (rout0 D s n 0 (I 66)).2.2 i) (p := 74) dX11_routeAt_73 rfl (by decide) (in_nJ (by omega) (by decide)) (nI_cl (by omega)) (hg.2.2.2.2.1 i (by omega)) rfl ?_
  exact wi_ret dX11_routeAt_74 rfl rfl (by decide) (⟨rfl, _, _, _, rfl, (f1.wd (by omega) (by omega)).re (by omega), k1.wd (by omega) (by omega), rfl⟩)
