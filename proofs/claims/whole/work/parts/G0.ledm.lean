set_option maxHeartbeats 4000000 in
theorem sm_metL2 {l : Launch} (hl : l.stackTraces = false) {d : Nat} {f : ev_M → Nat → List Value → List Value → hp_H → ev_Re} (hT : sm_T l f d) {k o : Nat} {a : Int32} {h h1 : hp_H} {L : Nat} {xs : Nat → Int32} (hev : f mX11_led 0 (ev_entry [.ref k, .int a] 3) [] h = some (some .null, h1)) (h11 : h1.1 = h.1) (hre : ev_rc mX11_led h [.ref k, .int a] = true) (ho : hp_ok h) (hsc : sm_sc h L xs) (D : va_G) (cA : Nat → ClassId) (ad : Nat → Nat) (sz : Nat) :
    Met l yL_led wL_led (sm_rm (d + 1) 1 6) (sm_Pc D cA L xs ad h sz [.ref k, .int a, .ref o]) (sm_Qd D cA L xs ad h sz (some (.int 1)) ((h1.1.1, h1.1.2.1 + 1, h1.1.2.2 + 6), h1.2)) 1 6 (va_A (sm_w cA ad h) sz) := by
  refine va_MetW (cc := cL_led) (maxL := 4) (ret := some .int) (by decide) rfl ?_
  intro p e s m args below meth c s₁ B hml hpc
  obtain ⟨rfl, hsz, hP, hK, hD0, hSt⟩ := hpc
  subst hsz
  have hx := B.exec
  have hb : c.code = cL_led := B.bytes
  have hr := B.returns
  have hts0 := atoms_spec (ws := wL_led) B.pre
  have htab : c.exceptionTable.toList = tableOf [(0, 9, 12, 13)] := vx_table (x := yL_led) B (hts0 _ List.mem_cons_self)
  have hown : s.vm.findClass (ev_on 13) = some m.cls := findClass_of_methodNamed B.named
  have hlocks := B.notSynchronized
  have hin : meth.name = "led" := (name_of_methodNamed B.named B.method).1
  have hts : ∀ w ∈ wG, w.before (([Value.ref k, .int a, .ref o].map (sm_cv ad)).toArray) s = true := fun w hw => hts0 w (List.mem_cons_of_mem _ hw)
  have hfr : d + 1 + 10 ≤ (headSpec wL_led (sm_rm (d + 1) 1 6)).room.frames := Nat.le_refl _
  have hlo : 40 * (d + 1) + 200 ≤ (headSpec wL_led (sm_rm (d + 1) 1 6)).room.locals := Nat.le_refl _
  have hce : 1 ≤ (headSpec wL_led (sm_rm (d + 1) 1 6)).room.cells := Nat.le_refl _
  have hsl : 6 ≤ (headSpec wL_led (sm_rm (d + 1) 1 6)).room.slots := Nat.le_refl _
  generalize (headSpec wL_led (sm_rm (d + 1) 1 6)).room = R at hfr hlo hce hsl
  rw [lg_entry_eq]
  have hF : sm_Fx p s m (([Value.ref k, .int a, .ref o].map (sm_cv ad)).toArray) meth c mL_led D cA (va_A (sm_w cA ad h) s.heap.size) := ⟨hx, hb, hml, hown, hts, hin, hK, fun q hq => Or.inr hq⟩
  have hH : sm_Hx s D cA (va_A (sm_w cA ad h) s.heap.size) L xs ad h s.heap [] := ⟨hP, hD0.self, va_S.rf, ho, hsc, hSt⟩
  have hL : sm_L ((lg_sl ([Value.ref k, .int a, .ref o].map (sm_cv ad)) ++ List.replicate (4 - (lg_sl ([Value.ref k, .int a, .ref o].map (sm_cv ad))).length) Slot.unset).toArray) (mX mL_led) ad [.ref k, .int a, .ref o, .null] := sm_L_entry (a := [Value.ref k, .int a, .ref o]) (n := 4) (by show 3 ≤ 4; omega)
  have z1 : hp_dc h h1 = 0 := by simp only [hp_dc]; rw [h11]; exact Nat.sub_self _
  have z2 : hp_ds h h1 = 0 := by simp only [hp_ds]; rw [h11]; exact Nat.sub_self _
  refine sm_stp0 (M := mL_led) (pc := 0) (ls := [.ref k, .int a, .ref o, .null]) (st := []) (pc1 := 1) (ls1 := [.ref k, .int a, .ref o, .null]) (st1 := [.ref o]) hF hL hH (by omega) (by omega) (Nat.zero_le _) (Nat.zero_le _) (i := .aload_n 2) (len := 1) (by decide +kernel) rfl rfl rfl (fun l1 H1 c1 hL hH => ?_)
  refine sm_stp0 (M := mL_led) (pc := 1) (ls := [.ref k, .int a, .ref o, .null]) (st := [.ref o]) (pc1 := 2) (ls1 := [.ref k, .int a, .ref o, .null]) (st1 := [.int 0, .ref o]) hF hL hH (by omega) (by omega) (Nat.zero_le _) (Nat.zero_le _) (i := .iconst 0) (len := 1) (by decide +kernel) rfl rfl rfl (fun l1 H1 c1 hL hH => ?_)
  refine sm_stp0 (M := mL_led) (pc := 2) (ls := [.ref k, .int a, .ref o, .null]) (st := [.int 0, .ref o]) (pc1 := 3) (ls1 := [.ref k, .int a, .ref o, .null]) (st1 := [.ref k, .int 0, .ref o]) hF hL hH (by omega) (by omega) (Nat.zero_le _) (Nat.zero_le _) (i := .aload_n 0) (len := 1) (by decide +kernel) rfl rfl rfl (fun l1 H1 c1 hL hH => ?_)
  refine sm_stp0 (M := mL_led) (pc := 3) (ls := [.ref k, .int a, .ref o, .null]) (st := [.ref k, .int 0, .ref o]) (pc1 := 4) (ls1 := [.ref k, .int a, .ref o, .null]) (st1 := [.int a, .ref k, .int 0, .ref o]) hF hL hH (by omega) (by omega) (Nat.zero_le _) (Nat.zero_le _) (i := .iload_n 1) (len := 1) (by decide +kernel) rfl rfl rfl (fun l1 H1 c1 hL hH => ?_)
  have hMet := sm_metX hl hT (a := [.ref k, .int a]) hev (by show 2 ≤ 3; omega) hH.2.2.2.1 hH.2.2.2.2.1 D cA ad H1.size
  rw [z1, z2] at hMet
  obtain ⟨m1, m2, m3, m4, m5, m6, m7, m8⟩ := mo_mX11_led
  have hroom : (sm_rm d (0 + 1) (0 + 6)).frames + 1 ≤ R.frames ∧ 8 + (mX mX11_led + 11) + (sm_rm d (0 + 1) (0 + 6)).locals ≤ R.locals := ⟨by show d + 10 + 1 ≤ _; omega, by show 8 + (3 + 11) + (40 * d + 200) ≤ _; omega⟩
  obtain ⟨-, k1, k2, k3, k4⟩ := ct_ok (o := 13) (x := 7) (k := 0) (M := mX11_led) rfl
  have hwin : ∀ w ∈ wM (mY mX11_led) (mC mX11_led) (mX mX11_led) (mR mX11_led), w ∈ wG := wM_in m1
  have d4 : decode cL_led 4 = .ok (.invokevirtual 7, 3) := by decide +kernel
  refine sm_callX (st0 := [.int a, .ref (ad k), .int 0, .ref (ad o)]) (vx_runV (n := 1) (index := 7) (b := ad k) (As := [.int a]) (rest := [.int 0, .ref (ad o)]) ⟨hx, hb, hml, hown, hts⟩ hMet (cwV 1 hts (wGI (fun w hw => ?_)) rfl rfl rfl ⟨rfl, m4, m5, m6⟩ hroom) ⟨sm_blind, sm_recv hF hH m7 k1 hre, sm_pre hF hH [.ref k, .int a]⟩ rfl rfl hL.1 rfl (by show 2 * 0 + 2 ≤ 8; omega) d4 ⟨by omega, by omega⟩) (fun q st1 t L9 E ce q1 q2 q3 q4 q5 q6 q7 => ?_)
  · rcases List.mem_append.mp hw with z | z
    · rcases List.mem_cons.mp z with z | z
      · rw [z]; exact k2
      · rcases List.mem_cons.mp z with z | z
        · rw [z]; exact k3
        · rcases List.mem_cons.mp z with z | z
          · rw [z]; exact k4
          · rw [List.mem_singleton.mp z]; exact m2
    · exact hwin w z
  obtain ⟨rfl, q8⟩ := q3
  obtain ⟨ad1, e1, hH9⟩ := sm_back (v := none) hF hH q1 q8 q7
  have e4 : ad1 = ad := e1.2 (by rw [h11])
  subst e4
  obtain ⟨p1, p2, p3, p4, p5, p6⟩ := hH9
  have hwd : sm_Wd ad1 s := p6.2.2.2.2.2.2
  refine vx_catch (own := RL) (name := ns_X) hown [] ⟨0, 9, 12, 13⟩ [] htab (fun z hz => nomatch hz) (by decide) (by decide) (hts _ (wG5 157 rfl rfl)) (va_tabs rfl rfl (hwd.2.1 (.castable ns_X ns_X) (wT5 169 rfl) rfl)) q4 q5 q6 ?_
  refine lv_astore_n (k := 3) (nL := 4) (i := 3) hx hb (by decide +kernel) rfl hL.has (by decide) rfl (fun l2 hl2 => ?_)
  refine lv_iconst (n := 1) (v := 1) hx hb (by decide +kernel) rfl ?_
  exact W.iret hx hb hr (fun t9 ht _ => ⟨rfl, ⟨by rw [ht]; exact p1, p2⟩, ⟨p4, p5⟩, p3.F ht⟩) (fun q hq => p3.2.2 q hq) (by decide +kernel) hlocks
