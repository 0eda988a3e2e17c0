theorem sm_blind {D : va_G} {cA : Nat → ClassId} {L : Nat} {xs : Nat → Int32} {ad : Nat → Nat} {h : hp_H} {sz : Nat} {a : List Value} : FrameBlind (sm_Pc D cA L xs ad h sz a) := by
  intro b U g mk q
  obtain ⟨q0, q1, q2, q3, q4, q5⟩ := q
  exact ⟨q0, q1, q2, va_K.moved (u := U) (U := U.calling g mk b) (Vm.Alike.refl U.vm) q3, q4, sm_St.same (u := U) (U := U.calling g mk b) rfl rfl q5⟩
section
variable {p : Program} {l : Launch} {e : Env} {R : Room} {s : State} {m : MethodId} {args : Array Value} {below : List Frame} {meth : Method} {c : Code} {H : Heap} {locs : List Loc} {cells slots : Nat} {Q : State → Prop}
variable {M : ev_M} {ad : Nat → Nat} {als : Array Slot} {pc : Nat} {h : hp_H} {D : va_G} {cA : Nat → ClassId} {A : Nat → Prop} {L : Nat} {xs : Nat → Int32}
theorem sm_free (hF : sm_Fx p s m args meth c M D cA A) (hH : sm_Hx s D cA A L xs ad h H locs) : ∀ q, va_A (sm_w cA ad h) H.size q → A q := by
  intro q hq
  rcases hq with ⟨k, e, hq⟩ | hq
  · exact hH.2.1.2 k _ hq
  · exact hF.2.2.2.2.2.2.2 q (Nat.le_trans hH.2.2.1.1 hq)
theorem sm_pre (hF : sm_Fx p s m args meth c M D cA A) (hH : sm_Hx s D cA A L xs ad h H locs) (a : List Value) : ∀ U : State, U.heap = H → s.WarmedH U.vm → sm_Pc D cA L xs ad h H.size a (a.map (sm_cv ad)).toArray U := fun U hU hW =>
  ⟨rfl, by rw [hU], by rw [hU]; exact hH.1, va_K.moved hW.alike hF.2.2.2.2.2.2.1, hH.2.1.weaken (fun _ _ _ _ => trivial), hH.2.2.2.2.2.go hW hU hH.2.2.1 (sm_free hF hH)⟩
/-- behind a call -/
theorem sm_back {v : Option Value} {h1 : hp_H} {st1 t : State} {locs2 : List Loc} (hF : sm_Fx p s m args meth c M D cA A) (hH : sm_Hx s D cA A L xs ad h H locs) (g1 : st1.heap = H) (g3 : sm_Qb D cA L xs ad h H.size h1 st1 t) (g4 : ∀ q ∈ locs2, va_A (sm_w cA ad h) H.size q.base) :
    ∃ ad1, sm_ex ad ad1 h h1 ∧ sm_Hx s D cA A L xs ad1 h1 t.heap (locs ++ locs2) := by
  obtain ⟨⟨ad1, e1, e2, e3⟩, ⟨e4, e5⟩, e6, e7⟩ := g3
  have hf := sm_free hF hH
  obtain ⟨hP, hD, hS, ho, hsc, hSt⟩ := hH
  rw [g1] at e6 e7
  refine ⟨ad1, e1, e2, e3.weaken (fun _ q _ z => hf q.1 z), ⟨Nat.le_trans hS.1 e6, fun q h1 h2 => ?_, fun q hq => ?_⟩, e4, e5, sm_St_ad (fun z hz => e1.1 z (Or.inr hz)) hSt⟩
  · rw [e7 q (Nat.lt_of_lt_of_le h1 hS.1) (fun z => h2 (hf q z))]
    exact hS.2.1 q h1 h2
  · rcases List.mem_append.mp hq with z | z
    · exact hS.2.2 q z
    · exact hf _ (g4 q z)
/-- the receiver -/
theorem sm_recv {M' : ev_M} {k : Nat} {a : List Value} (hF : sm_Fx p s m args meth c M D cA A) (hH : sm_Hx s D cA A L xs ad h H locs) (hM : (mY M').cls = ev_on (mO M')) (hs : mS M' = false) (hr : ev_rc M' h (.ref k :: a) = true) : ∃ cellB : Cell, H[ad k]? = some cellB ∧ cellB.vm.isStatics = false ∧ s.vm.findClass (mY M').cls = some cellB.cls := by
  unfold ev_rc at hr
  rw [if_neg (by rw [hs]; decide)] at hr
  dsimp only at hr
  split at hr
  · split at hr
    · rename_i c' n hk
      have hc : c' = mO M' ∧ c' < 12 := of_decide_eq_true hr
      obtain ⟨T, N, ty, hcl⟩ := cs_all c' hc.2
      have hw : (sm_w cA ad h)[k]? = some (ad k, .inr (c', (List.range n).map (sm_fv ad h k c'))) := by rw [sm_w_get hk, sm_cell_o hc.2]
      have q := va_recv hF.2.2.2.2.2.2.1 hH.1 hcl.1 hw
      rw [hM, ← hc.1]
      exact q
    · cases hr
  · obtain ⟨h1, h2, h3⟩ := of_decide_eq_true hr
    obtain ⟨j, hj, rfl⟩ := sm_spS h2 h3
    obtain ⟨cell, c1, c2, c3, c4⟩ := (hH.2.2.2.2.2.2.2.1 j hj).1
    refine ⟨cell, ?_, c2, ?_⟩
    · rw [hH.2.2.1.2.1 _ (Array.getElem?_eq_some_iff.mp c1).1 c4]; exact c1
    · rw [hM, h1]; exact c3
theorem sm_catr (ad : Nat → Nat) (r : List Value) : (r.map (sm_cv ad)).map (fun v => v.category) = r.map fun v => v.category := by rw [List.map_map]; exact List.map_congr_left fun v _ => sm_cv_cat ad v
set_option maxHeartbeats 4000000 in
theorem sm_callK {call : ev_M → Nat → List Value → List Value → hp_H → ev_Re} {d x k : Nat} {i : Instr} {M' : ev_M} {a rr ls : List Value} {v : Option Value} {h1 : hp_H} (hT : sm_T l call d) (hF : sm_Fx p s m args meth c M D cA A) (hL : sm_L als (mX M) ad ls) (hH : sm_Hx s D cA A L xs ad h H locs)
    (hfr : d + 1 + 10 ≤ R.frames) (hlo : 40 * (d + 1) + 200 ≤ R.locals) (hrc : cells + hp_dc h h1 ≤ R.cells) (hrs : slots + hp_ds h h1 ≤ R.slots) (hd : decode (mC M) pc = .ok (i, 3))
    (g1 : ev_isC i = some x) (g2 : ev_ct (mO M) x = some (k, M')) (g3 : ev_ck i k = true) (g5 : a.length = ev_na M') (g6 : ev_rc M' h a = true) (g7 : (rr.map fun v => v.category).sum ≤ 9) (g8 : (ev_en a).length ≤ mX M') (g9 : call M' 0 (ev_entry a (mX M')) [] h = some (v, h1)) (g10 : v ≠ some .null)
    (kk : ∀ (ad1 : Nat → Nat) (H1 : Heap) (locs1 : List Loc), sm_ex ad ad1 h h1 → sm_Hx s D cA A L xs ad1 h1 H1 locs1 → W p l e R s m args below meth c H1 locs1 (cells + hp_dc h h1) (slots + hp_ds h h1) Q (F0 m (pc + 3) als (v.toList ++ rr.map (sm_cv ad)))) :
    W p l e R s m args below meth c H locs cells slots Q (F0 m pc als ((a.reverse ++ rr).map (sm_cv ad))) := by
  obtain ⟨hx, hb, hml, hown, hts, hin, hK, hA⟩ := id hF
  have hok := ct_ok g2
  obtain ⟨hM, hk⟩ := hok
  obtain ⟨m1, m2, m3, m4, m5, m6, m7, m8⟩ := id hM
  have hMet := sm_met hT g9 hM g10 g8 hH.2.2.2.1 hH.2.2.2.2.1 D cA ad H.size
  have hcat : ((rr.map (sm_cv ad)).map fun v => v.category).sum ≤ 9 := by rw [sm_catr]; exact g7
  have hlo9 : 9 + (mX M' + 11) + (sm_rm d (hp_dc h h1) (hp_ds h h1)).locals ≤ R.locals := by
    show 9 + (mX M' + 11) + (40 * d + 200) ≤ _
    omega
  have hroom : (sm_rm d (hp_dc h h1) (hp_ds h h1)).frames + 1 ≤ R.frames ∧ 8 + (mX M' + 11) + (sm_rm d (hp_dc h h1) (hp_ds h h1)).locals ≤ R.locals := ⟨by show d + 10 + 1 ≤ _; omega, by omega⟩
  have hend : ∀ (v2 : Option Value) (st1 t : State) (L2 : List Loc), st1.heap = H → s.vm.Alike t.vm → sm_Qc D cA L xs ad h H.size v h1 (a.map (sm_cv ad)).toArray st1 (.returned v2) t → (∀ q ∈ L2, va_A (sm_w cA ad h) H.size q.base) → W p l e R s m args below meth c t.heap (locs ++ L2) (cells + hp_dc h h1) (slots + hp_ds h h1) Q (F0 m (pc + 3) als (v2.toList ++ rr.map (sm_cv ad))) := by
    intro v2 st1 t L2 q1 q2 q3 q4
    obtain ⟨q5, q6⟩ := q3
    cases q5
    obtain ⟨ad1, e1, e2⟩ := sm_back (v := v) hF hH q1 q6 q4
    exact kk ad1 _ _ e1 e2
  have hwin : ∀ w ∈ wM (mY M') (mC M') (mX M') (mR M'), w ∈ wG := wM_in m1
  have inst : mS M' = false → ∃ (q : Nat) (a' : List Value), a = .ref q :: a' ∧ a'.length = mN M' := by
    intro hs
    unfold ev_rc at g6
    rw [if_neg (by rw [hs]; decide)] at g6
    unfold ev_na at g5
    rw [if_neg (by rw [hs]; decide)] at g5
    match a, g6, g5 with
    | .ref q :: a', _, g5 => exact ⟨q, a', rfl, by simpa using g5⟩
  have hst : ∀ (q : Nat) (a' : List Value), a = .ref q :: a' → (a.reverse ++ rr).map (sm_cv ad) = (a'.map (sm_cv ad)).reverse ++ .ref (ad q) :: rr.map (sm_cv ad) := by
    intro q a' e1
    rw [e1]
    simp [List.map_append, List.map_reverse, sm_cv]
  cases i
  case invokevirtual x2 =>
    have hk0 : k = 0 := by simpa [ev_ck] using g3
    subst hk0
    have hx2 : x2 = x := by simpa [ev_isC] using g1
    subst hx2
    obtain ⟨k1, k2, k3, k4⟩ := hk
    obtain ⟨q, a', rfl, hn⟩ := inst k1
    rw [hst q a' rfl]
    refine sm_call (sm_runV hlo9 (b := ad q) (As := a'.map (sm_cv ad)) (rest := rr.map (sm_cv ad)) ⟨hx, hb, hml, hown, hts⟩ hMet (cwV (mN M') hts (wGI (fun w hw => ?_)) rfl rfl rfl ⟨rfl, m4, m5, m6⟩ hroom) ⟨sm_blind, sm_recv hF hH m7 k1 g6, sm_pre hF hH _⟩ rfl (by simpa using hn) hL.1 rfl (sm_room9 hcat) hd ⟨hrc, hrs⟩) hend
    rcases List.mem_append.mp hw with z | z
    · rcases List.mem_cons.mp z with z | z
      · rw [z]; exact k2
      · rcases List.mem_cons.mp z with z | z
        · rw [z]; exact k3
        · rcases List.mem_cons.mp z with z | z
          · rw [z]; exact k4
          · rw [List.mem_singleton.mp z]; exact m2
    · exact hwin w z
  case invokestatic x2 =>
    have hk0 : k = 1 := by simpa [ev_ck] using g3
    subst hk0
    have hx2 : x2 = x := by simpa [ev_isC] using g1
    subst hx2
    obtain ⟨k1, k2, k3⟩ := hk
    have hn : a.length = mN M' := by rw [g5]; unfold ev_na; rw [if_pos k1]
    refine sm_call (sm_runS hlo9 (As := a.map (sm_cv ad)) (rest := rr.map (sm_cv ad)) ⟨hx, hb, hml, hown, hts⟩ hMet (va_cwS (mN M') hts (wGI (fun w hw => ?_)) rfl rfl rfl ⟨m4, m5, m6⟩ hroom) ⟨sm_blind, sm_pre hF hH _⟩ rfl (by simpa using hn) hL.1 (by rw [List.map_append, List.map_reverse]) (sm_room9 hcat) hd ⟨hrc, hrs⟩) hend
    rcases List.mem_append.mp hw with z | z
    · rcases List.mem_cons.mp z with z | z
      · rw [z]; exact k2
      · rcases List.mem_cons.mp z with z | z
        · rw [z]; exact k3
        · rw [List.mem_singleton.mp z]; exact m2
    · exact hwin w z
  case invokespecial x2 =>
    have hx2 : x2 = x := by simpa [ev_isC] using g1
    subst hx2
    have hk0 : k = 2 ∨ k = 3 := by simpa [ev_ck] using g3
    rcases hk0 with rfl | rfl
    · obtain ⟨k1, k2, k3, k4, k5⟩ := hk
      obtain ⟨q, a', rfl, hn⟩ := inst k1
      rw [hst q a' rfl]
      rw [k5] at hMet hwin
      exact sm_call (sm_runI hlo9 (b := ad q) (As := a'.map (sm_cv ad)) (rest := rr.map (sm_cv ad)) ⟨hx, hb, hml, hown, hts⟩ hMet (cwI (mN M') hts (wGI hwin) rfl rfl rfl (hts _ m2) (hts _ k2) (hts _ k3) k4 ⟨m4, m5, m6⟩ hroom) ⟨sm_blind, sm_pre hF hH _⟩ rfl (by simpa using hn) hL.1 rfl (sm_room9 hcat) hd ⟨hrc, hrs⟩) hend
    · obtain ⟨k1, k2, k3, k4, k5⟩ := hk
      obtain ⟨q, a', rfl, hn⟩ := inst k1
      rw [hst q a' rfl]
      rw [k5] at hMet hwin
      exact sm_call (sm_runIN hlo9 (host := "SworeCaptain") (b := ad q) (As := a'.map (sm_cv ad)) (rest := rr.map (sm_cv ad)) ⟨hx, hb, hml, hown, hts⟩ hMet ⟨va_cnB (mN M') hts (wGI hwin) rfl rfl rfl (hH.2.2.2.2.2.2.2.2.2.2.2.2.1 _ k2 rfl) (hts _ m2) ⟨m4, m5, m6⟩ hroom, k4, hts _ k3⟩ ⟨sm_blind, sm_pre hF hH _⟩ rfl (by simpa using hn) hL.1 rfl (sm_room9 hcat) hd ⟨hrc, hrs⟩) hend
  all_goals (simp [ev_isC] at g1)
end
