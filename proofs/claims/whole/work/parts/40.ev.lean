/-! Runs of the interpreter: how deep they go is a bound, how long they take is nobody's business. -/
abbrev ev_C : Type := ev_M → Nat → List Value → List Value → hp_H → ev_Re
def ev_sub (f g : ev_C) : Prop := ∀ M pc ls st h z, f M pc ls st h = some z → g M pc ls st h = some z
theorem ev_sub.rf {f : ev_C} : ev_sub f f := fun _ _ _ _ _ _ q => q
theorem ev_sub.no {f : ev_C} : ev_sub (fun _ _ _ _ _ => none) f := fun _ _ _ _ _ _ q => by cases q
theorem ev_led_mono {call2 call2' rec rec' : ev_C} (h2 : ev_sub call2 call2') (hr : ev_sub rec rec') {M : ev_M} {i : Instr} {x pc : Nat} {ls st : List Value} {h : hp_H} {z : Option Value × hp_H} (he : ev_led call2 rec M i x pc ls st h = some z) : ev_led call2' rec' M i x pc ls st h = some z := by
  unfold ev_led at he ⊢
  split at he
  · rename_i x2 o a k rr hp
    try simp only [hp]
    split at he
    · rename_i hn
      rw [if_pos hn]
      split at he
      · rename_i v h1 hc
        rw [h2 _ _ _ _ _ _ hc]
        dsimp only
        split at he
        · rename_i hz
          rw [if_pos hz]
          exact hr _ _ _ _ _ _ he
        · cases he
      · rename_i h1 hc
        rw [h2 _ _ _ _ _ _ hc]
        dsimp only
        split at he
        · rename_i hz
          rw [if_pos hz]
          exact hr _ _ _ _ _ _ he
        · cases he
      · cases he
    · cases he
  · cases he
theorem ev_cal_mono {call call' call2 call2' rec rec' : ev_C} (h1 : ev_sub call call') (h2 : ev_sub call2 call2') (hr : ev_sub rec rec') {M : ev_M} {i : Instr} {pc : Nat} {ls st : List Value} {h : hp_H} {z : Option Value × hp_H} (he : ev_cal call call2 rec M i pc ls st h = some z) : ev_cal call' call2' rec' M i pc ls st h = some z := by
  unfold ev_cal at he ⊢
  split at he
  · split at he
    · split at he
      · rename_i hn
        rw [if_pos hn]
        split at he
        · rename_i v h3 hc
          rw [h1 _ _ _ _ _ _ hc]
          dsimp only
          split at he
          · rename_i hz
            rw [if_pos hz]
            exact hr _ _ _ _ _ _ he
          · cases he
        · cases he
      · cases he
    · exact ev_led_mono h2 hr he
  · cases he
theorem ev_step_mono {call call' call2 call2' rec rec' : ev_C} (h1 : ev_sub call call') (h2 : ev_sub call2 call2') (hr : ev_sub rec rec') : ev_sub (ev_step call call2 rec) (ev_step call' call2' rec') := by
  intro M pc ls st h z he
  unfold ev_step at he ⊢
  split at he
  · cases he
  · split at he
    · rename_i hl
      rw [if_pos hl]
      split at he
      · exact hr _ _ _ _ _ _ he
      · split at he
        · exact he
        · exact ev_cal_mono h1 h2 hr he
    · cases he
theorem ev_n : ∀ n d, ev_sub (ev d n) (ev d (n + 1))
  | 0, d => fun _ _ _ _ _ _ q => by simp [ev] at q
  | n + 1, 0 => ev_step_mono (call := fun _ _ _ _ _ => none) (call2 := fun _ _ _ _ _ => none) (rec := ev 0 n) ev_sub.rf ev_sub.rf (ev_n n 0)
  | n + 1, 1 => ev_step_mono (call := ev 0 n) (call2 := fun _ _ _ _ _ => none) (rec := ev 1 n) (ev_n n 0) ev_sub.rf (ev_n n 1)
  | n + 1, d + 2 => ev_step_mono (call := ev (d + 1) n) (call2 := ev d n) (rec := ev (d + 2) n) (ev_n n (d + 1)) (ev_n n d) (ev_n n (d + 2))
theorem ev_nn {n n' d : Nat} (h : n ≤ n') : ev_sub (ev d n) (ev d n') := by
  induction h with
  | refl => exact ev_sub.rf
  | step _ ih => exact fun M pc ls st h z q => ev_n _ _ M pc ls st h z (ih M pc ls st h z q)
theorem ev_d : ∀ n d, ev_sub (ev d n) (ev (d + 1) n)
  | 0, d => fun _ _ _ _ _ _ q => by simp [ev] at q
  | n + 1, 0 => ev_step_mono (call := fun _ _ _ _ _ => none) (call2 := fun _ _ _ _ _ => none) (rec := ev 0 n) ev_sub.no ev_sub.rf (ev_d n 0)
  | n + 1, 1 => ev_step_mono (call := ev 0 n) (call2 := fun _ _ _ _ _ => none) (rec := ev 1 n) (ev_d n 0) ev_sub.no (ev_d n 1)
  | n + 1, d + 2 => ev_step_mono (call := ev (d + 1) n) (call2 := ev d n) (rec := ev (d + 2) n) (ev_d n (d + 1)) (ev_d n d) (ev_d n (d + 2))
theorem ev_dd {n d d' : Nat} (h : d ≤ d') : ev_sub (ev d n) (ev d' n) := by
  induction h with
  | refl => exact ev_sub.rf
  | step _ ih => exact fun M pc ls st h z q => ev_d _ _ M pc ls st h z (ih M pc ls st h z q)
def Ev (k : Nat) (M : ev_M) (pc : Nat) (ls st : List Value) (h : hp_H) (r : Option Value) (h' : hp_H) : Prop := ∃ n, ev k n M pc ls st h = some (r, h')
theorem ev_at (k n : Nat) : ∃ call call2, ev k (n + 1) = ev_step call call2 (ev k n) ∧ ∀ k', k' + 1 = k → call = ev k' n := by
  match k with
  | 0 => exact ⟨_, _, rfl, fun k' h => by omega⟩
  | 1 => exact ⟨_, _, rfl, fun k' h => by have : k' = 0 := by omega
                                          subst this; rfl⟩
  | k + 2 => exact ⟨_, _, rfl, fun k' h => by have : k' = k + 1 := by omega
                                              subst this; rfl⟩
theorem Ev.up {k k' : Nat} {M : ev_M} {pc : Nat} {ls st : List Value} {h h' : hp_H} {r : Option Value} (hk : k ≤ k') (q : Ev k M pc ls st h r h') : Ev k' M pc ls st h r h' := by
  obtain ⟨n, q⟩ := q
  exact ⟨n, ev_dd hk _ _ _ _ _ _ q⟩
/-- an instruction that stays in the frame -/
theorem Ev.stp {k : Nat} {M : ev_M} {pc pc1 len : Nat} {i : Instr} {ls st ls1 st1 : List Value} {h h1 h' : hp_H} {r : Option Value} (hd : decode (mC M) pc = .ok (i, len)) (hl : ev_lok i len = true) (hs : ev_stp M i pc ls st h = some (pc1, ls1, st1, h1)) (q : Ev k M pc1 ls1 st1 h1 r h') : Ev k M pc ls st h r h' := by
  obtain ⟨n, q⟩ := q
  obtain ⟨call, call2, e, -⟩ := ev_at k n
  refine ⟨n + 1, ?_⟩
  rw [e]
  unfold ev_step
  rw [hd]
  dsimp only
  rw [if_pos hl, hs]
  exact q
theorem Ev.ret {k : Nat} {M : ev_M} {pc len : Nat} {i : Instr} {ls st : List Value} {h : hp_H} {r : Option Value} (hd : decode (mC M) pc = .ok (i, len)) (hl : ev_lok i len = true) (hs : ev_stp M i pc ls st h = none) (hr : ev_ret M i st h = some (r, h)) : Ev k M pc ls st h r h := by
  obtain ⟨call, call2, e, -⟩ := ev_at k 0
  refine ⟨0 + 1, ?_⟩
  rw [e]
  unfold ev_step
  rw [hd]
  dsimp only
  rw [if_pos hl, hs]
  dsimp only
  rw [hr]
theorem Ev.cal {k k' kd x len : Nat} {M M' : ev_M} {pc : Nat} {i : Instr} {ls st a rr : List Value} {h h1 h' : hp_H} {r v : Option Value} (hd : decode (mC M) pc = .ok (i, len)) (hl : ev_lok i len = true) (hs : ev_stp M i pc ls st h = none) (hr : ev_ret M i st h = none) (hx : ev_isC i = some x) (hc : ev_ct (mO M) x = some (kd, M')) (hk : ev_ck i kd = true)
    (ha : (st.take (ev_na M')).reverse = a) (hrr : st.drop (ev_na M') = rr) (hn : a.length = ev_na M') (hrc : ev_rc M' h a = true) (hcat : (rr.map fun v => v.category).sum ≤ 9) (hmx : (ev_en a).length ≤ mX M') (hk' : k' + 1 ≤ k) (hcall : Ev k' M' 0 (ev_entry a (mX M')) [] h v h1) (hv : v ≠ some .null) (hvs : h1.1.2.1 = h.1.2.1 ∨ ev_vs (hp_sh h).length ls rr = true)
    (q : Ev k M (pc + 3) ls (v.toList ++ rr) h1 r h') : Ev k M pc ls st h r h' := by
  subst ha; subst hrr
  obtain ⟨n1, q1⟩ := hcall
  obtain ⟨n2, q2⟩ := q
  obtain ⟨call, call2, e, e2⟩ := ev_at k (max n1 n2)
  refine ⟨max n1 n2 + 1, ?_⟩
  rw [e]
  unfold ev_step
  rw [hd]
  dsimp only
  rw [if_pos hl, hs]
  dsimp only
  rw [hr]
  dsimp only
  unfold ev_cal
  rw [hx]
  dsimp only
  rw [hc]
  dsimp only
  rw [if_pos ⟨hk, hn, hrc, hcat, hmx⟩, e2 (k - 1) (by omega), ev_dd (show k' ≤ k - 1 by omega) _ _ _ _ _ _ (ev_nn (Nat.le_max_left n1 n2) _ _ _ _ _ _ q1)]
  dsimp only
  rw [if_pos ⟨hv, hvs⟩]
  exact ev_nn (Nat.le_max_right n1 n2) _ _ _ _ _ _ q2
