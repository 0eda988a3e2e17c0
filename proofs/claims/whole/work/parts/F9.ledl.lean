/-! The law's own led, both ways; sm_LK. -/
def mL_led : ev_M := (yL_led, cL_led, 4, (some .int), 13, 3, true)
def sm_Qd (D : va_G) (cA : Nat → ClassId) (L : Nat) (xs : Nat → Int32) (ad : Nat → Nat) (h : hp_H) (sz : Nat) (v : Option Value) (h' : hp_H) : Array Value → State → Outcome → State → Prop := fun _ st oc t => oc = .returned v ∧ (va_P D vwCl (sm_w cA ad h') t.heap ∧ va_D (va_A (sm_w cA ad h) sz) (sm_w cA ad h')) ∧ (hp_ok h' ∧ sm_sc h' L xs) ∧ va_F (va_A (sm_w cA ad h) sz) st t
def wL_led : List Cond := .codeWith yL_led cL_led 4 (some .int) [(0, 9, 12, 13)] :: wG
set_option maxHeartbeats 4000000 in
theorem sm_metL1 {l : Launch} {d : Nat} {f : ev_M → Nat → List Value → List Value → hp_H → ev_Re} (hT : sm_T l f d) {k o : Nat} {a z : Int32} {h h1 : hp_H} {L : Nat} {xs : Nat → Int32} (hev : f mX11_led 0 (ev_entry [.ref k, .int a] 3) [] h = some (some (.int z), h1)) (h11 : h1.1 = h.1) (hre : ev_rc mX11_led h [.ref k, .int a] = true) (ho1 : o < 1000000) (hsh : (hp_sh h)[o]? = some (13, 1)) (ho : hp_ok h) (hsc : sm_sc h L xs) (D : va_G) (cA : Nat → ClassId) (ad : Nat → Nat) (sz : Nat) :
    Met l yL_led wL_led (sm_rm (d + 1) 0 0) (sm_Pc D cA L xs ad h sz [.ref k, .int a, .ref o]) (sm_Qd D cA L xs ad h sz (some (.int 0)) (hp_sJ h1 o 0 z.toInt64)) 0 0 (va_A (sm_w cA ad h) sz) := by
  refine va_MetW (cc := cL_led) (maxL := 4) (ret := some .int) (by decide) rfl ?_
  intro p e s m args below meth c s₁ B hml hpc
  obtain ⟨rfl, hsz, hP, hK, hD0, hSt⟩ := hpc
  subst hsz
  have hx := B.exec
  have hb : c.code = cL_led := B.bytes
  have hr := B.returns
  have hts0 := atoms_spec (ws := wL_led) B.pre
  have hown : s.vm.findClass (ev_on 13) = some m.cls := findClass_of_methodNamed B.named
  have hlocks := B.notSynchronized
  have hin : meth.name = "led" := (name_of_methodNamed B.named B.method).1
  have hts : ∀ w ∈ wG, w.before (([Value.ref k, .int a, .ref o].map (sm_cv ad)).toArray) s = true := fun w hw => hts0 w (List.mem_cons_of_mem _ hw)
  have hfr : d + 1 + 10 ≤ (headSpec wL_led (sm_rm (d + 1) 0 0)).room.frames := Nat.le_refl _
  have hlo : 40 * (d + 1) + 200 ≤ (headSpec wL_led (sm_rm (d + 1) 0 0)).room.locals := Nat.le_refl _
  generalize (headSpec wL_led (sm_rm (d + 1) 0 0)).room = R at hfr hlo
  rw [lg_entry_eq]
  have hF : sm_Fx p s m (([Value.ref k, .int a, .ref o].map (sm_cv ad)).toArray) meth c mL_led D cA (va_A (sm_w cA ad h) s.heap.size) := ⟨hx, hb, hml, hown, hts, hin, hK, fun q hq => Or.inr hq⟩
  have hH : sm_Hx s D cA (va_A (sm_w cA ad h) s.heap.size) L xs ad h s.heap [] := ⟨hP, hD0.self, va_S.rf, ho, hsc, hSt⟩
  have hL : sm_L ((lg_sl ([Value.ref k, .int a, .ref o].map (sm_cv ad)) ++ List.replicate (4 - (lg_sl ([Value.ref k, .int a, .ref o].map (sm_cv ad))).length) Slot.unset).toArray) (mX mL_led) ad [.ref k, .int a, .ref o, .null] := sm_L_entry (a := [Value.ref k, .int a, .ref o]) (n := 4) (by show 3 ≤ 4; omega)
  have z1 : hp_dc h h1 = 0 := by simp only [hp_dc]; rw [h11]; exact Nat.sub_self _
  have z2 : hp_ds h h1 = 0 := by simp only [hp_ds]; rw [h11]; exact Nat.sub_self _
  refine sm_stp0 (M := mL_led) (pc := 0) (ls := [.ref k, .int a, .ref o, .null]) (st := []) (pc1 := 1) (ls1 := [.ref k, .int a, .ref o, .null]) (st1 := [.ref o]) hF hL hH (by omega) (by omega) (Nat.zero_le _) (Nat.zero_le _) (i := .aload_n 2) (len := 1) (by decide +kernel) rfl rfl rfl (fun l1 H1 c1 hL hH => ?_)
  refine sm_stp0 (M := mL_led) (pc := 1) (ls := [.ref k, .int a, .ref o, .null]) (st := [.ref o]) (pc1 := 2) (ls1 := [.ref k, .int a, .ref o, .null]) (st1 := [.int 0, .ref o]) hF hL hH (by omega) (by omega) (Nat.zero_le _) (Nat.zero_le _) (i := .iconst 0) (len := 1) (by decide +kernel) rfl rfl rfl (fun l1 H1 c1 hL hH => ?_)
  refine sm_stp0 (M := mL_led) (pc := 2) (ls := [.ref k, .int a, .ref o, .null]) (st := [.int 0, .ref o]) (pc1 := 3) (ls1 := [.ref k, .int a, .ref o, .null]) (st1 := [.ref k, .int 0, .ref o]) hF hL hH (by omega) (by omega) (Nat.zero_le _) (Nat.zero_le _) (i := .aload_n 0) (len := 1) (by decide +kernel) rfl rfl rfl (fun l1 H1 c1 hL hH => ?_)
  refine sm_stp0 (M := mL_led) (pc := 3) (ls := [.ref k, .int a, .ref o, .null]) (st := [.ref k, .int 0, .ref o]) (pc1 := 4) (ls1 := [.ref k, .int a, .ref o, .null]) (st1 := [.int a, .ref k, .int 0, .ref o]) hF hL hH (by omega) (by omega) (Nat.zero_le _) (Nat.zero_le _) (i := .iload_n 1) (len := 1) (by decide +kernel) rfl rfl rfl (fun l1 H1 c1 hL hH => ?_)
  refine sm_callK (M := mL_led) (M' := mX11_led) (x := 7) (k := 0) (i := .invokevirtual 7) (a := [.ref k, .int a]) (rr := [.int 0, .ref o]) (v := some (.int z)) (h1 := h1) hT hF hL hH hfr hlo (by rw [z1]; exact Nat.zero_le _) (by rw [z2]; exact Nat.zero_le _) (by decide +kernel) rfl rfl rfl rfl hre (by show 2 ≤ 9; omega) (by show 2 ≤ 3; omega) hev (by intro q; cases q) (fun ad1 H1 c1 e1 hH => ?_)
  have e4 : ad1 = ad := e1.2 (by rw [h11])
  subst e4
  rw [z1, z2]
  have hsh1 : (hp_sh h1)[o]? = some (13, 1) := by
    show h1.1.1[o]? = _
    rw [h11]
    exact hsh
  refine sm_stp0 (M := mL_led) (pc := 7) (ls := [.ref k, .int a, .ref o, .null]) (st := [.int z, .int 0, .ref o]) (pc1 := 8) (ls1 := [.ref k, .int a, .ref o, .null]) (st1 := [.long z.toInt64, .int 0, .ref o]) hF hL hH (by omega) (by omega) (Nat.zero_le _) (Nat.zero_le _) (i := .i2l) (len := 1) (by decide +kernel) rfl rfl rfl (fun l1 H1 c1 hL hH => ?_)
  refine sm_stp0 (M := mL_led) (pc := 8) (ls := [.ref k, .int a, .ref o, .null]) (st := [.long z.toInt64, .int 0, .ref o]) (pc1 := 9) (ls1 := [.ref k, .int a, .ref o, .null]) (st1 := []) (h1 := hp_sJ h1 o 0 z.toInt64) hF hL hH (by omega) (by omega) (Nat.zero_le _) (Nat.zero_le _) (i := .lastore) (len := 1) (by decide +kernel) rfl ?_ rfl (fun l1 H1 c1 hL hH => ?_)
  · simp only [ev_stp, ev_a, ev_b, ev_h, hsh1, Option.none_or]
    rw [if_pos ⟨by decide, ho1⟩]
    rfl
  refine sm_stp0 (M := mL_led) (pc := 9) (ls := [.ref k, .int a, .ref o, .null]) (st := []) (pc1 := 15) (ls1 := [.ref k, .int a, .ref o, .null]) (st1 := []) hF hL hH (by omega) (by omega) (Nat.zero_le _) (Nat.zero_le _) (i := .goto 6) (len := 3) (by decide +kernel) rfl rfl rfl (fun l1 H1 c1 hL hH => ?_)
  refine sm_stp0 (M := mL_led) (pc := 15) (ls := [.ref k, .int a, .ref o, .null]) (st := []) (pc1 := 16) (ls1 := [.ref k, .int a, .ref o, .null]) (st1 := [.int 0]) hF hL hH (by omega) (by omega) (Nat.zero_le _) (Nat.zero_le _) (i := .iconst 0) (len := 1) (by decide +kernel) rfl rfl rfl (fun l1 H1 c1 hL hH => ?_)
  obtain ⟨p1, p2, p3, p4, p5, p6⟩ := hH
  exact W.iret hx hb hr (fun t ht _ => ⟨rfl, ⟨by rw [ht]; exact p1, p2⟩, ⟨p4, p5⟩, p3.F ht⟩) (fun q hq => p3.2.2 q hq) (by decide +kernel) hlocks
