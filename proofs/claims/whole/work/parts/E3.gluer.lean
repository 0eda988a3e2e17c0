/-! The same, for whole runs. -/
def Ng (h : hp_H) : Prop := h = gl (fun _ => 0) (fun _ => none) h
theorem Ng.no {h : hp_H} (q : Ng h) : h.2.2.2 sp_X 0 = none := by
  unfold Ng at q
  rw [q]
  rfl
def GP (xs : Nat → Int32) (n : Nat → Option Nat) (f : ev_M → Nat → List Value → List Value → hp_H → ev_Re) : Prop := ∀ M pc ls st h r h', f M pc ls st h = some (r, h') → h'.1.1.length < 1000000 → Ng h → f M pc ls st (gl xs n h) = some (r, gl xs n h') ∧ Ng h'
section
variable {xs : Nat → Int32} {n : Nat → Option Nat} {M : ev_M} {i : Instr} {o pc : Nat} {ls st : List Value} {h h1 h' : hp_H} {k j c : Nat} {r : Option Value}
theorem Ng.stp (hl : h.1.1.length < 1000000) (q : Ng h) {z : ev_F} (e : ev_stp M i pc ls st h = some z) : Ng z.2.2.2 := by
  have e1 := ev_stp_s (xs := fun _ => 0) (n := fun _ => none) hl q.no e
  rw [← show h = gl (fun _ => 0) (fun _ => none) h from q, e] at e1
  have e2 := Option.some.inj e1
  exact congrArg (fun z => z.2.2.2) e2
theorem ev_ret_g : ev_ret M i st (gl xs n h) = (ev_ret M i st h).map (fun z => (z.1, gl xs n z.2)) := by
  unfold ev_ret
  repeat' (first | rfl | split)
theorem ev_ret_h {z : Option Value × hp_H} (e : ev_ret M i st h = some z) : z.2 = h := by
  unfold ev_ret at e
  split at e
  · split at e
    · split at e
      · cases e; rfl
      · cases e
    · cases e
  · split at e
    · cases e; rfl
    · cases e
  · split at e
    · cases e; rfl
    · cases e
  · split at e
    · cases e; rfl
    · cases e
  · cases e
theorem ev_led_gl {call2 rec : ev_C} {x : Nat} (h2 : GP xs n call2) (hr : GP xs n rec) (lr : ∀ M pc ls st h r h', rec M pc ls st h = some (r, h') → ev_Lq r h h') (he : ev_led call2 rec M i x pc ls st h = some (r, h')) (hl : h'.1.1.length < 1000000) (hN : Ng h) : ev_led call2 rec M i x pc ls st (gl xs n h) = some (r, gl xs n h') ∧ Ng h' := by
  unfold ev_led at he ⊢
  split at he
  · rename_i x2 o a k rr hp
    try simp only [hp]
    split at he
    · rename_i hn
      rw [if_pos (show ev_rc mX11_led (gl xs n h) [.ref k, .int a] = true ∧ o < 1000000 ∧ (hp_sh (gl xs n h))[o]? = some (13, 1) ∧ (List.map (fun v => v.category) rr).sum ≤ 9 from hn)]
      split at he
      · rename_i v h1 hc
        split at he
        · rename_i hz
          have l1 := (lr _ _ _ _ _ _ _ he).1.2.2
          have b1 : h1.1.1.length < 1000000 := Nat.lt_of_le_of_lt l1 hl
          obtain ⟨e1, e2⟩ := h2 _ _ _ _ _ _ _ hc b1 hN
          rw [e1]
          dsimp only
          rw [if_pos (show (hp_sh (gl xs n h1))[o]? = some (13, 1) ∧ (gl xs n h1).1 = (gl xs n h).1 from hz)]
          exact hr _ _ _ _ _ _ _ he hl (congrArg (fun z => hp_sJ z o 0 v.toInt64) e2)
        · cases he
      · rename_i h1 hc
        split at he
        · rename_i hz
          have l1 := (lr _ _ _ _ _ _ _ he).1.2.2
          have b1 : h1.1.1.length < 1000000 := Nat.lt_of_le_of_lt l1 hl
          obtain ⟨e1, e2⟩ := h2 _ _ _ _ _ _ _ hc b1 hN
          rw [e1]
          dsimp only
          rw [if_pos (show (gl xs n h1).1 = (gl xs n h).1 from hz)]
          exact hr _ _ _ _ _ _ _ he hl (Prod.ext rfl (show h1.2 = (gl (fun _ => 0) (fun _ => none) h1).2 from congrArg Prod.snd (show h1 = gl (fun _ => 0) (fun _ => none) h1 from e2)))
        · cases he
      · cases he
    · cases he
  · cases he
theorem ev_cal_gl {call call2 rec : ev_C} (h1 : GP xs n call) (h2 : GP xs n call2) (hr : GP xs n rec) (lr : ∀ M pc ls st h r h', rec M pc ls st h = some (r, h') → ev_Lq r h h') (he : ev_cal call call2 rec M i pc ls st h = some (r, h')) (hl : h'.1.1.length < 1000000) (hN : Ng h) : ev_cal call call2 rec M i pc ls st (gl xs n h) = some (r, gl xs n h') ∧ Ng h' := by
  unfold ev_cal at he ⊢
  split at he
  · split at he
    · rename_i x hx kd M' hct
      split at he
      · rename_i hn
        rw [if_pos (show ev_ck i kd = true ∧ (st.take (ev_na M')).reverse.length = ev_na M' ∧ ev_rc M' (gl xs n h) (st.take (ev_na M')).reverse = true ∧ ((st.drop (ev_na M')).map fun v => v.category).sum ≤ 9 ∧ (ev_en (st.take (ev_na M')).reverse).length ≤ mX M' from hn)]
        split at he
        · rename_i v h3 hc
          split at he
          · rename_i hz
            have l1 := (lr _ _ _ _ _ _ _ he).1.2.2
            have b1 : h3.1.1.length < 1000000 := Nat.lt_of_le_of_lt l1 hl
            obtain ⟨e1, e2⟩ := h1 _ _ _ _ _ _ _ hc b1 hN
            rw [e1]
            dsimp only
            rw [if_pos (show v ≠ some .null ∧ ((gl xs n h3).1.2.1 = (gl xs n h).1.2.1 ∨ ev_vs (hp_sh (gl xs n h)).length ls (st.drop (ev_na M')) = true) from hz)]
            exact hr _ _ _ _ _ _ _ he hl e2
          · cases he
        · cases he
      · cases he
    · exact ev_led_gl h2 hr lr he hl hN
  · cases he
theorem ev_gstep {call call2 rec : ev_C} (h1 : GP xs n call) (h2 : GP xs n call2) (hr : GP xs n rec) (lc : ∀ M pc ls st h r h', call M pc ls st h = some (r, h') → ev_Lq r h h') (lc2 : ∀ M pc ls st h r h', call2 M pc ls st h = some (r, h') → ev_Lq r h h') (lr : ∀ M pc ls st h r h', rec M pc ls st h = some (r, h') → ev_Lq r h h') : GP xs n (ev_step call call2 rec) := by
  intro M pc ls st h r h' he hl hN
  have l0 := (ev_Lstep lc lc2 lr _ _ _ _ _ _ _ he).1.2.2
  have b0 : h.1.1.length < 1000000 := Nat.lt_of_le_of_lt l0 hl
  unfold ev_step at he ⊢
  split at he
  · cases he
  · rename_i i len hd
    try simp only [hd]
    split at he
    · rename_i hlok
      rw [if_pos hlok]
      split at he
      · rename_i pc1 ls1 st1 h3 hs
        rw [ev_stp_s b0 hN.no hs]
        exact hr _ _ _ _ _ _ _ he hl (hN.stp b0 hs)
      · rename_i hs
        have hi : ¬ i = .iaload ∧ ¬ i = .arraylength := by
          constructor
          · intro z
            subst z
            simp [ev_ret, ev_cal, ev_isC] at he
          · intro z
            subst z
            simp [ev_ret, ev_cal, ev_isC] at he
        rw [ev_stp_g b0 hi.1 hi.2, hs]
        show (match ev_ret M i st (gl xs n h) with
          | some z => some z
          | none => ev_cal call call2 rec M i pc ls st (gl xs n h)) = _ ∧ _
        rw [ev_ret_g]
        split at he
        · rename_i z hz
          have e1 := ev_ret_h hz
          cases he
          rw [hz]
          exact ⟨rfl, by rw [show h' = h from e1]; exact hN⟩
        · rename_i hz
          rw [hz]
          exact ev_cal_gl h1 h2 hr lr he hl hN
    · cases he
theorem GP.none : GP xs n (fun _ _ _ _ _ => none) := fun _ _ _ _ _ _ _ q => by cases q
theorem ev_G : ∀ m d, GP xs n (ev d m)
  | 0, d => fun _ _ _ _ _ _ _ q => by simp [ev] at q
  | m + 1, 0 => ev_gstep (call := fun _ _ _ _ _ => none) (call2 := fun _ _ _ _ _ => none) (rec := ev 0 m) GP.none GP.none (ev_G m 0) (fun _ _ _ _ _ _ _ q => by cases q) (fun _ _ _ _ _ _ _ q => by cases q) (ev_L m 0)
  | m + 1, 1 => ev_gstep (call := ev 0 m) (call2 := fun _ _ _ _ _ => none) (rec := ev 1 m) (ev_G m 0) GP.none (ev_G m 1) (ev_L m 0) (fun _ _ _ _ _ _ _ q => by cases q) (ev_L m 1)
  | m + 1, d + 2 => ev_gstep (call := ev (d + 1) m) (call2 := ev d m) (rec := ev (d + 2) m) (ev_G m (d + 1)) (ev_G m d) (ev_G m (d + 2)) (ev_L m (d + 1)) (ev_L m d) (ev_L m (d + 2))
/-- beside any script -/
theorem Ev.gl {d : Nat} (q : Ev d M pc ls st h r h') (hl : h'.1.1.length < 1000000) (hN : Ng h) : Ev d M pc ls st (gl xs n h) r (gl xs n h') ∧ Ng h' := by
  obtain ⟨m, q⟩ := q
  obtain ⟨e1, e2⟩ := ev_G (xs := xs) (n := n) m d _ _ _ _ _ _ _ q hl hN
  exact ⟨⟨m, e1⟩, e2⟩
end
