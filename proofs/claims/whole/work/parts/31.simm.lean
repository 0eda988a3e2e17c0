section
variable {p : Program} {l : Launch} {e : Env} {R : Room} {s : State} {m : MethodId} {args : Array Value} {below : List Frame} {meth : Method} {c : Code} {H : Heap} {locs : List Loc} {cells slots : Nat} {Q : State → Prop}
variable {M : ev_M} {ad : Nat → Nat} {als : Array Slot} {pc : Nat} {h : hp_H} {D : va_G} {cA : Nat → ClassId} {A : Nat → Prop} {L : Nat} {xs : Nat → Int32}
set_option maxHeartbeats 4000000 in
theorem sm_ciK {ls : List Value} (hF : sm_Fx p s m args meth c M D cA A) (hL : sm_L als (mX M) ad ls) (hH : sm_Hx s D cA A L xs ad h H locs) (hfr : 2 ≤ R.frames) (hlo : 100 ≤ R.locals) (hrc : cells ≤ R.cells) (hrs : slots ≤ R.slots) (a b : Int32) (h1 : ¬ a < 0) (h2 : a < b) (x : Nat) (hp : ev_prok (mO M) x yJ0_checkIndex_df160) (hd : decode (mC M) pc = .ok (.invokestatic x, 3)) (r : List Value) (hr : (r.map fun v => v.category).sum ≤ 9)
    (kk : W p l e R s m args below meth c H locs cells slots Q (F0 m (pc + 3) als (r.map (sm_cv ad)))) : W p l e R s m args below meth c H locs cells slots Q (F0 m pc als (.int b :: .int a :: r.map (sm_cv ad))) := by
  obtain ⟨hx, hb, hml, hown, hts, hin, hK, hA⟩ := id hF
  have hZ := hH.2.2.2.2.2.2.2.2.2.1
  have hS := hH.2.2.1
  refine sm_call (sm_runS (by show 9 + (2 + 11) + 40 ≤ R.locals; omega) (As := [.int a, .int b]) (rest := r.map (sm_cv ad)) ⟨hx, hb, hml, hown, hts⟩ (c_ci l a b h1 h2) (va_cwS 2 hts (wGI (fun w hw => ?_)) rfl rfl rfl ⟨by decide, by decide, by decide +kernel⟩ ⟨hfr, by show 8 + (2 + 11) + 40 ≤ _; omega⟩) ⟨fun _ U g mk q => ⟨q.1, (va_Zq.moved (u := U) (U := U.calling g mk _) (Vm.Alike.refl U.vm) q.2)⟩, fun U hU hW => ⟨rfl, ?_⟩⟩ rfl rfl hL.1 rfl (sm_room9 (by rw [sm_catr]; exact hr)) hd ⟨hrc, hrs⟩) (fun v2 st1 t L2 q1 q2 q3 q4 => ?_)
  · rcases List.mem_append.mp hw with z | z
    · rcases List.mem_cons.mp z with z | z
      · rw [z]; exact hp
      · rcases List.mem_cons.mp z with z | z
        · rw [z]; exact wG1 178 rfl rfl
        · rw [List.mem_singleton.mp z]; exact wG1 5 rfl rfl
    · exact wM_in (wG1 179 rfl rfl) w z
  · show va_Zq _ _ _ _ U U.heap
    rw [hU]
    exact ((hZ.moved hW.alike).kept hS.2.1).narrow (fun _ z => z.elim)
  · obtain ⟨q5, q6⟩ := q3
    cases q5
    have e2 : L2 = [] := by
      cases L2 with
      | nil => rfl
      | cons z zs => exact (q4 z List.mem_cons_self).elim
    rw [q6, q1, e2, List.append_nil]
    exact kk
theorem sm_stpK {i : Instr} {len pc1 : Nat} {ls st ls1 st1 : List Value} {h1 : hp_H} (hF : sm_Fx p s m args meth c M D cA A) (hL : sm_L als (mX M) ad ls) (hH : sm_Hx s D cA A L xs ad h H locs)
    (hfr : 2 ≤ R.frames) (hlo : 100 ≤ R.locals) (hrc : cells + hp_dc h h1 ≤ R.cells) (hrs : slots + hp_ds h h1 ≤ R.slots) (hd : decode (mC M) pc = .ok (i, len)) (hl : ev_lok i len = true) (he : ev_stp M i pc ls st h = some (pc1, ls1, st1, h1))
    (k : ∀ (ad' : Nat → Nat) (als' : Array Slot) (H' : Heap) (locs' : List Loc), sm_ex ad ad' h h1 → sm_L als' (mX M) ad' ls1 → sm_Hx s D cA A L xs ad' h1 H' locs' → W p l e R s m args below meth c H' locs' (cells + hp_dc h h1) (slots + hp_ds h h1) Q (F0 m pc1 als' (st1.map (sm_cv ad')))) :
    W p l e R s m args below meth c H locs cells slots Q (F0 m pc als (st.map (sm_cv ad))) := by
  obtain ⟨hx, hb, hml, hown, hts, hin, hK, hA⟩ := id hF
  unfold ev_stp at he
  rcases Option.or_eq_some_iff.mp he with q | ⟨-, q⟩
  · have e0 := ev_a_h q
    subst e0
    exact sm_a hx hb hL hown (fun x v z => hts _ (ki_ok z)) (fun x v z => hts _ (kl_ok z)) (fun x j z => hH.2.2.2.2.2.2.2.2.2.2.2.1 _ x j z) hd hl q (fun _ als' hL' => sm_cs rfl (k ad als' H locs sm_ex.rf hL' hH))
  · rcases Option.or_eq_some_iff.mp q with q | ⟨-, q⟩
    · have e0 := ev_b_h q
      subst e0
      exact sm_b hx hb hL hd hl q (fun _ als' hL' => sm_cs rfl (k ad als' H locs sm_ex.rf hL' hH))
    · exact sm_h hF hL hH (by omega) (by omega) hrc hrs (fun a b g1 g2 x g3 g4 r g5 g6 => sm_ciK hF hL hH hfr hlo (by omega) (by omega) a b g1 g2 x g3 g4 r g5 g6) hd hl q k
end
/-- the law's call of led -/
def sm_LK (l : Launch) : Prop := ∀ (call2 : ev_M → Nat → List Value → List Value → hp_H → ev_Re) (d : Nat), sm_T l call2 d → ∀ (p : Program) (e : Env) (R : Room) (s : State) (m : MethodId) (args : Array Value) (below : List Frame) (meth : Method) (c : Code) (H : Heap) (locs : List Loc) (cells slots : Nat) (Q : State → Prop) (M : ev_M) (D : va_G) (cA : Nat → ClassId) (A : Nat → Prop) (L : Nat) (xs : Nat → Int32) (ad : Nat → Nat) (als : Array Slot) (ls : List Value) (h h1 h2 : hp_H) (pc x o k : Nat) (a u : Int32) (rr : List Value) (v : Option Value),
    sm_Fx p s m args meth c M D cA A → sm_L als (mX M) ad ls → sm_Hx s D cA A L xs ad h H locs → d + 2 + 10 ≤ R.frames → 40 * (d + 2) + 200 ≤ R.locals → cells + hp_dc h h2 ≤ R.cells → slots + hp_ds h h2 ≤ R.slots → decode (mC M) pc = .ok (.invokestatic x, 3) → ev_pr (mO M) x = some 4 → ev_rc mX11_led h [.ref k, .int a] = true → o < 1000000 → (hp_sh h)[o]? = some (13, 1) → (rr.map fun v => v.category).sum ≤ 9 →
    call2 mX11_led 0 (ev_entry [.ref k, .int a] 3) [] h = some (v, h1) → h1.1 = h.1 → ((∃ z : Int32, v = some (.int z) ∧ u = 0 ∧ h2 = hp_sJ h1 o 0 z.toInt64) ∨ (v = some .null ∧ u = 1 ∧ h2 = ((h1.1.1, h1.1.2.1 + 1, h1.1.2.2 + 6), h1.2))) →
    (∀ (H1 : Heap) (locs1 : List Loc), sm_Hx s D cA A L xs ad h2 H1 locs1 → W p l e R s m args below meth c H1 locs1 (cells + hp_dc h h2) (slots + hp_ds h h2) Q (F0 m (pc + 3) als ((.int u :: rr).map (sm_cv ad)))) →
    W p l e R s m args below meth c H locs cells slots Q (F0 m pc als ((.ref o :: .int a :: .ref k :: rr).map (sm_cv ad)))
set_option maxHeartbeats 4000000 in
theorem sm_step {l : Launch} (hLK : sm_LK l) {call call2 rec : ev_M → Nat → List Value → List Value → hp_H → ev_Re} {d : Nat} (hc : ∀ M pc ls st h z, call M pc ls st h = some z → ∃ d', d = d' + 1 ∧ sm_T l call d') (hc2 : ∀ M pc ls st h z, call2 M pc ls st h = some z → ∃ d', d = d' + 2 ∧ sm_T l call2 d') (hr : sm_T l rec d)
    (lc : ∀ M pc ls st h r h', call M pc ls st h = some (r, h') → ev_Lq r h h') (lc2 : ∀ M pc ls st h r h', call2 M pc ls st h = some (r, h') → ev_Lq r h h') (lr : ∀ M pc ls st h r h', rec M pc ls st h = some (r, h') → ev_Lq r h h') : sm_T l (ev_step call call2 rec) d := by
  intro M pc ls st h r h' he p e R s m args below meth c H locs cells slots Q D cA A L xs ad als hF hL hH hfr hlo hrc hrs kk
  obtain ⟨i, len, hd, hl, q | q | q | q⟩ := ev_step_inv he
  · obtain ⟨pc1, ls1, st1, h1, q1, q2⟩ := q
    have l1 := ev_stp_h q1
    have l2 := (lr _ _ _ _ _ _ _ q2).1
    have b1 := l1.1; have b2 := l2.1; have b3 := l1.2.1; have b4 := l2.2.1
    refine sm_stpK hF hL hH (by omega) (by omega) (by simp only [hp_dc] at *; omega) (by simp only [hp_ds] at *; omega) hd hl q1 (fun ad1 als1 H1 locs1 e1 e2 e3 => ?_)
    refine hr M pc1 ls1 st1 h1 r h' q2 p e R s m args below meth c H1 locs1 _ _ Q D cA A L xs ad1 als1 hF e2 e3 hfr hlo (by simp only [hp_dc] at *; omega) (by simp only [hp_ds] at *; omega) (fun ad2 als2 H2 locs2 pc2 st2 f1 f2 f2b f3 => ?_)
    have q5 := kk ad2 als2 H2 locs2 pc2 st2 (sm_ex.tr l1 l2 e1 f1) f2 f2b f3
    rw [show cells + hp_dc h h1 + hp_dc h1 h' = cells + hp_dc h h' by simp only [hp_dc]; omega, show slots + hp_ds h h1 + hp_ds h1 h' = slots + hp_ds h h' by simp only [hp_ds]; omega]
    exact q5
  · obtain ⟨q1, rfl⟩ := q
    have q5 := kk ad als H locs pc st sm_ex.rf hH hL.1 q1
    rw [show cells + hp_dc h' h' = cells by simp only [hp_dc]; omega, show slots + hp_ds h' h' = slots by simp only [hp_ds]; omega] at q5
    rw [sm_end_map q1]
    exact q5
  · obtain ⟨x, k, M', a, rr, v, h1, g1, g2, g3, rfl, g5, g6, g7, g8, g9, g10, g11, g12⟩ := q
    obtain ⟨d', rfl, hT⟩ := hc _ _ _ _ _ _ g9
    have l1 := lc _ _ _ _ _ _ _ g9
    have l2 := (lr _ _ _ _ _ _ _ g12).1
    have b1 := l1.1.1; have b2 := l2.1; have b3 := l1.1.2.1; have b4 := l2.2.1
    have hl3 : len = 3 := by
      cases i <;> first | (simpa [ev_lok, ev_len] using hl) | (simp [ev_isC] at g1)
    subst hl3
    refine sm_callK hT hF hL hH hfr hlo (by simp only [hp_dc] at *; omega) (by simp only [hp_ds] at *; omega) hd g1 g2 g3 g5 g6 g7 g8 g9 g10 (fun ad1 H1 locs1 e1 e2 => ?_)
    have hv : v.toList.map (sm_cv ad1) = v.toList := by
      cases v with
      | none => rfl
      | some w =>
        cases w with
        | ref z => exact absurd rfl (l1.2 z)
        | _ => rfl
    have hL1 : sm_L als (mX M) ad1 ls ∧ rr.map (sm_cv ad1) = rr.map (sm_cv ad) := by
      rcases g11 with g11 | g11
      · rw [e1.2 g11]; exact ⟨hL, rfl⟩
      · obtain ⟨v1, v2⟩ := sm_vs2 e1.1 g11
        exact ⟨v1 _ _ hL, v2⟩
    have hstk : v.toList ++ rr.map (sm_cv ad) = (v.toList ++ rr).map (sm_cv ad1) := by rw [List.map_append, hv, hL1.2]
    rw [hstk]
    refine hr M (pc + 3) ls _ h1 r h' g12 p e R s m args below meth c H1 locs1 _ _ Q D cA A L xs ad1 als hF hL1.1 e2 hfr hlo (by simp only [hp_dc] at *; omega) (by simp only [hp_ds] at *; omega) (fun ad2 als2 H2 locs2 pc2 st2 f1 f2 f2b f3 => ?_)
    have q5 := kk ad2 als2 H2 locs2 pc2 st2 (sm_ex.tr l1.1 l2 e1 f1) f2 f2b f3
    rw [show cells + hp_dc h h1 + hp_dc h1 h' = cells + hp_dc h h' by simp only [hp_dc]; omega, show slots + hp_ds h h1 + hp_ds h1 h' = slots + hp_ds h h' by simp only [hp_ds]; omega]
    exact q5
  · obtain ⟨x, o, k, a, rr, h1, h2, u, v, rfl, g2, rfl, g4, g5, g6, g7, g8, g9, g10, g11⟩ := q
    obtain ⟨d', rfl, hT⟩ := hc2 _ _ _ _ _ _ g8
    have l2 := (lr _ _ _ _ _ _ _ g11).1
    have l1 : hp_le h h2 := by
      rcases g10 with ⟨z, -, -, rfl⟩ | ⟨-, -, rfl⟩
      · exact hp_le.eq g9
      · unfold hp_le
        rw [g9]
        exact ⟨Nat.le_succ _, Nat.le_add_right _ _, Nat.le_refl _⟩
    have b1 := l1.1; have b2 := l2.1; have b3 := l1.2.1; have b4 := l2.2.1
    have hl3 : len = 3 := by simpa [ev_lok, ev_len] using hl
    subst hl3
    refine hLK call2 d' hT p e R s m args below meth c H locs cells slots Q M D cA A L xs ad als ls h h1 h2 pc x o k a u rr v hF hL hH hfr hlo (by simp only [hp_dc] at *; omega) (by simp only [hp_ds] at *; omega) hd g2 g4 g5 g6 g7 g8 g9 g10 (fun H1 locs1 e2 => ?_)
    refine hr M (pc + 3) ls _ h2 r h' g11 p e R s m args below meth c H1 locs1 _ _ Q D cA A L xs ad als hF hL e2 hfr hlo (by simp only [hp_dc] at *; omega) (by simp only [hp_ds] at *; omega) (fun ad2 als2 H2 locs2 pc2 st2 f1 f2 f2b f3 => ?_)
    have q5 := kk ad2 als2 H2 locs2 pc2 st2 (sm_ex.tr l1 l2 sm_ex.rf f1) f2 f2b f3
    rw [show cells + hp_dc h h2 + hp_dc h2 h' = cells + hp_dc h h' by simp only [hp_dc]; omega, show slots + hp_ds h h2 + hp_ds h2 h' = slots + hp_ds h h' by simp only [hp_ds]; omega]
    exact q5
theorem sm_all {l : Launch} (hLK : sm_LK l) : ∀ n d, sm_T l (ev d n) d
  | 0, d => by
    intro M pc ls st h r h' he
    simp [ev] at he
  | n + 1, 0 => sm_step hLK (call := fun _ _ _ _ _ => none) (call2 := fun _ _ _ _ _ => none) (rec := ev 0 n) (fun _ _ _ _ _ _ q => by cases q) (fun _ _ _ _ _ _ q => by cases q) (sm_all hLK n 0) (fun _ _ _ _ _ _ _ q => by cases q) (fun _ _ _ _ _ _ _ q => by cases q) (ev_L n 0)
  | n + 1, 1 => sm_step hLK (call := ev 0 n) (call2 := fun _ _ _ _ _ => none) (rec := ev 1 n) (fun _ _ _ _ _ _ _ => ⟨0, rfl, sm_all hLK n 0⟩) (fun _ _ _ _ _ _ q => by cases q) (sm_all hLK n 1) (ev_L n 0) (fun _ _ _ _ _ _ _ q => by cases q) (ev_L n 1)
  | n + 1, d + 2 => sm_step hLK (call := ev (d + 1) n) (call2 := ev d n) (rec := ev (d + 2) n) (fun _ _ _ _ _ _ _ => ⟨d + 1, rfl, sm_all hLK n (d + 1)⟩) (fun _ _ _ _ _ _ _ => ⟨d, rfl, sm_all hLK n d⟩) (sm_all hLK n (d + 2)) (ev_L n (d + 1)) (ev_L n d) (ev_L n (d + 2))
