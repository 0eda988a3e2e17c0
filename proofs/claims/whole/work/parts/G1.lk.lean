theorem pr4 {q x : Nat} (h : ev_pr q x = some 4) : q = 13 ∧ x = 220 := by
  unfold ev_pr ev_prl at h
  split at h
  all_goals first
    | exact lk_of (P := fun x v => v = 4 → _ ∧ x = 220) (by decide) h rfl
    | exact absurd h (by simp)
theorem lk_r1 {d x : Nat} (h : 40 * (d + 2) + 200 ≤ x) : 8 + (4 + 11) + (40 * (d + 1) + 200) ≤ x ∧ 9 + (4 + 11) + (40 * (d + 1) + 200) ≤ x := by omega
theorem sm_back2 {p : Program} {s : State} {m : MethodId} {args : Array Value} {meth : Method} {c : Code} {H : Heap} {locs : List Loc} {M : ev_M} {ad : Nat → Nat} {h : hp_H} {D : va_G} {cA : Nat → ClassId} {A : Nat → Prop} {L : Nat} {xs : Nat → Int32} {v : Option Value} {oc : Outcome} {b : Array Value} {h1 : hp_H} {st1 t : State} {locs2 : List Loc} (hF : sm_Fx p s m args meth c M D cA A) (hH : sm_Hx s D cA A L xs ad h H locs) (g1 : st1.heap = H) (g3 : sm_Qd D cA L xs ad h H.size v h1 b st1 oc t) (g4 : ∀ q ∈ locs2, va_A (sm_w cA ad h) H.size q.base) :
    sm_Hx s D cA A L xs ad h1 t.heap (locs ++ locs2) := by
  obtain ⟨-, ⟨e2, e3⟩, ⟨e4, e5⟩, e6, e7⟩ := g3
  have hf := sm_free hF hH
  obtain ⟨hP, hD, hS, ho, hsc, hSt⟩ := hH
  rw [g1] at e6 e7
  refine ⟨e2, e3.weaken (fun _ q _ z => hf q.1 z), ⟨Nat.le_trans hS.1 e6, fun q h1 h2 => ?_, fun q hq => ?_⟩, e4, e5, hSt⟩
  · rw [e7 q (Nat.lt_of_lt_of_le h1 hS.1) (fun z => h2 (hf q z))]
    exact hS.2.1 q h1 h2
  · rcases List.mem_append.mp hq with z | z
    · exact hS.2.2 q z
    · exact hf _ (g4 q z)
set_option maxHeartbeats 4000000 in
theorem sm_LKof {l : Launch} (hl : l.stackTraces = false) : sm_LK l := by
  intro call2 d hT p e R s m args below meth c H locs cells slots Q M D cA A L xs ad als ls h h1 h2 pc x o k a u rr v hF hL hH hfr hlo hrc hrs hd hpr hre ho1 hsh hcat hcall h11 hcase kk
  obtain ⟨hO, rfl⟩ := pr4 hpr
  obtain ⟨hx, hb, hml, hown, hts, hin, hK, hA⟩ := id hF
  have main : ∀ (mc ms : Nat), hp_dc h h2 = mc → hp_ds h h2 = ms → Met l yL_led wL_led (sm_rm (d + 1) mc ms) (sm_Pc D cA L xs ad h H.size [.ref k, .int a, .ref o]) (sm_Qd D cA L xs ad h H.size (some (.int u)) h2) mc ms (va_A (sm_w cA ad h) H.size) →
      W p l e R s m args below meth c H locs cells slots Q (F0 m pc als ((.ref o :: .int a :: .ref k :: rr).map (sm_cv ad))) := by
    intro mc ms hmc hms hMet
    rw [hmc] at hrc kk
    rw [hms] at hrs kk
    have hroom : (sm_rm (d + 1) mc ms).frames + 1 ≤ R.frames ∧ 8 + (4 + 11) + (sm_rm (d + 1) mc ms).locals ≤ R.locals := ⟨by show d + 1 + 10 + 1 ≤ _; omega, (lk_r1 hlo).1⟩
    have hcat2 : ((rr.map (sm_cv ad)).map fun v => v.category).sum ≤ 9 := by rw [sm_catr]; exact hcat
    rw [hO] at hown
    refine sm_call (sm_runSW (index := 220) (own := RL) (n := 3) (bytes := cL_led) (maxL := 4) (ret := some .int) (hh := [(0, 9, 12, 13)]) (As := [Value.ref k, .int a, .ref o].map (sm_cv ad)) (rest := rr.map (sm_cv ad)) (lk_r1 hlo).2 ⟨hx, hb, hml, hown, hts⟩ hMet (vx_cwSW 3 hts (wGI (fun w hw => ?_)) rfl rfl rfl ⟨by decide, by decide, by decide +kernel⟩ hroom) ⟨sm_blind, sm_pre hF hH _⟩ rfl rfl hL.1 rfl (sm_room9 hcat2) hd ⟨hrc, hrs⟩) (fun v2 st1 t L2 q1 q2 q3 q4 => ?_)
    · rcases List.mem_append.mp hw with z | z
      · rcases List.mem_cons.mp z with z | z
        · rw [z]; exact wG5 154 rfl rfl
        · rcases List.mem_cons.mp z with z | z
          · rw [z]; exact wG5 155 rfl rfl
          · rw [List.mem_singleton.mp z]; exact wG1 0 rfl rfl
      · rcases List.mem_cons.mp z with z | z
        · rw [z]; exact wG5 156 rfl rfl
        · exact z
    · have q5 := q3.1
      cases q5
      exact kk _ _ (sm_back2 hF hH q1 q3 q4)
  rcases hcase with ⟨z, rfl, rfl, rfl⟩ | ⟨rfl, rfl, rfl⟩
  · refine main 0 0 ?_ ?_ (sm_metL1 hT hcall h11 hre ho1 hsh hH.2.2.2.1 hH.2.2.2.2.1 D cA ad H.size)
    · show h1.1.2.1 - h.1.2.1 = 0
      rw [h11]; exact Nat.sub_self _
    · show h1.1.2.2 - h.1.2.2 = 0
      rw [h11]; exact Nat.sub_self _
  · refine main 1 6 ?_ ?_ (sm_metL2 hl hT hcall h11 hre hH.2.2.2.1 hH.2.2.2.2.1 D cA ad H.size)
    · show h1.1.2.1 + 1 - h.1.2.1 = 1
      rw [h11]; omega
    · show h1.1.2.2 + 6 - h.1.2.2 = 6
      rw [h11]; omega
