/-! What is counted only grows. -/
def hp_le (h h' : hp_H) : Prop := h.1.2.1 ≤ h'.1.2.1 ∧ h.1.2.2 ≤ h'.1.2.2 ∧ h.1.1.length ≤ h'.1.1.length
theorem hp_le.rf {h : hp_H} : hp_le h h := ⟨Nat.le_refl _, Nat.le_refl _, Nat.le_refl _⟩
theorem hp_le.tr {h1 h2 h3 : hp_H} (a : hp_le h1 h2) (b : hp_le h2 h3) : hp_le h1 h3 := ⟨Nat.le_trans a.1 b.1, Nat.le_trans a.2.1 b.2.1, Nat.le_trans a.2.2 b.2.2⟩
theorem hp_le.eq {h h' : hp_H} (e : h'.1 = h.1) : hp_le h h' := by
  unfold hp_le
  rw [e]
  exact ⟨Nat.le_refl _, Nat.le_refl _, Nat.le_refl _⟩
theorem ev_a_h {o : Nat} {i : Instr} {pc pc' : Nat} {ls ls' st st' : List Value} {h h' : hp_H} (he : ev_a o i pc ls st h = some (pc', ls', st', h')) : h' = h := by
  unfold ev_a at he
  split at he
  all_goals (try split at he)
  all_goals (try split at he)
  all_goals first
    | (cases he; rfl)
    | (cases he; done)
    | (simp only [Option.map_eq_some_iff, Prod.mk.injEq] at he; obtain ⟨_, _, _, _, _, q⟩ := he; exact q.symm)
theorem ev_b_h {i : Instr} {pc pc' : Nat} {ls ls' st st' : List Value} {h h' : hp_H} (he : ev_b i pc ls st h = some (pc', ls', st', h')) : h' = h := by
  unfold ev_b at he
  split at he
  all_goals (try split at he)
  all_goals (try split at he)
  all_goals (try split at he)
  all_goals (try split at he)
  all_goals (try split at he)
  all_goals (try split at he)
  all_goals first
    | (cases he; rfl)
    | (cases he; done)
theorem hp_put_h {h h' : hp_H} {k c j : Nat} {v : Value} (hp : hp_put h k c j v = some h') : h'.1 = h.1 := by
  unfold hp_put at hp
  split at hp
  all_goals (try split at hp)
  all_goals first
    | (cases hp; rfl)
    | (cases hp; done)
theorem hp_le_new {h : hp_H} {c n : Nat} : hp_le h (hp_new h c n) := ⟨Nat.le_succ _, Nat.le_add_right _ _, by simp [hp_new]⟩
theorem hp_le_mna {h : hp_H} {co ci n k : Nat} : hp_le h (hp_mna h co ci n k) := by
  unfold hp_le
  rw [(hp_mna_f h co ci n k).1]
  dsimp only
  refine ⟨by omega, by omega, by simp⟩
set_option maxHeartbeats 4000000 in
theorem ev_h_h {M : ev_M} {i : Instr} {pc pc' : Nat} {ls ls' st st' : List Value} {h h' : hp_H} (he : ev_h M i pc ls st h = some (pc', ls', st', h')) : hp_le h h' := by
  unfold ev_h at he
  split at he
  all_goals (try split at he)
  all_goals (try split at he)
  all_goals (try split at he)
  all_goals (try split at he)
  all_goals (try split at he)
  all_goals (try split at he)
  all_goals (try split at he)
  all_goals (try split at he)
  all_goals (try split at he)
  all_goals first
    | (cases he; exact hp_le.rf)
    | (cases he; exact hp_le.eq rfl)
    | (cases he; exact hp_le_new)
    | (cases he; exact hp_le_mna)
    | (cases he; done)
    | (simp only [Option.map_eq_some_iff, Prod.mk.injEq] at he; obtain ⟨_, _, _, _, _, q⟩ := he; rw [← q]; exact hp_le.rf)
    | (simp only [Option.map_eq_some_iff, Prod.mk.injEq] at he; obtain ⟨_, q0, _, _, _, q⟩ := he; rw [← q]; exact hp_le.eq (hp_put_h q0))
theorem ev_stp_h {M : ev_M} {i : Instr} {pc pc' : Nat} {ls ls' st st' : List Value} {h h' : hp_H} (he : ev_stp M i pc ls st h = some (pc', ls', st', h')) : hp_le h h' := by
  unfold ev_stp at he
  rcases Option.or_eq_some_iff.mp he with q | ⟨-, q⟩
  · rw [ev_a_h q]; exact hp_le.rf
  · rcases Option.or_eq_some_iff.mp q with q | ⟨-, q⟩
    · rw [ev_b_h q]; exact hp_le.rf
    · exact ev_h_h q
