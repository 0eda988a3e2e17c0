/-! The same, for fields and arrays, and for whole runs. -/
section
variable {xs : Nat → Int32} {n : Nat → Option Nat} {M : ev_M} {i : Instr} {o pc : Nat} {ls st : List Value} {h h1 : hp_H} {k j c : Nat}
theorem gl_get (hk : k < 1000000) : hp_get (gl xs n h) k c j = hp_get h k c j := by
  unfold hp_get
  rw [gl_I hk, gl_R hk]
  rfl
theorem gl_put {v : Value} (hk : k < 1000000) : hp_put (gl xs n h) k c j v = (hp_put h k c j v).map (gl xs n) := by
  unfold hp_put
  split
  · rw [gl_sI hk]; rfl
  · rfl
  · show (if _ < (hp_sh h).length then _ else none) = _
    split
    · rw [gl_sR hk]; rfl
    · rfl
  · split
    · rw [gl_sI hk]; rfl
    · rfl
  · rfl
theorem ev_h_g (hl : h.1.1.length < 1000000) (h1 : ¬ i = .iaload) (h2 : ¬ i = .arraylength) : ev_h M i pc ls st (gl xs n h) = (ev_h M i pc ls st h).map (gq xs n) := by
  have hsh : hp_sh (gl xs n h) = hp_sh h := rfl
  have hJ : hp_J (gl xs n h) = hp_J h := rfl
  unfold ev_h
  split
  · split
    · split
      · rename_i hk
        rw [hsh]
        split
        · split
          · rw [gl_get hk, Option.map_map]; rfl
          · rfl
        · rfl
      · repeat' (first | rfl | split)
    · rfl
  · split
    · rw [hsh]
      split
      · split
        · rename_i hk
          rw [gl_put hk.2.2.1]
          rw [Option.map_map, Option.map_map]; rfl
        · rfl
      · rfl
    · rfl
  · exact absurd rfl h1
  · split
    · split
      · rename_i hk
        rw [hsh, gl_I hk]
        repeat' (first | rfl | split)
      · repeat' (first | rfl | split)
    · rfl
  · rw [hsh, hJ]
    repeat' (first | rfl | split)
  · split
    · rename_i a k r
      by_cases hk : k < 1000000
      · rw [hsh, gl_R hk]
        repeat' (first | rfl | split)
      · have e : (hp_sh h)[k]? = none := List.getElem?_eq_none (Nat.le_trans (Nat.le_of_lt hl) (Nat.le_of_not_lt hk))
        rw [hsh, e]
        rfl
    · rfl
  · split
    · rw [hsh]
      split
      · split
        · rename_i hk
          rw [gl_sI hk.2]; rfl
        · rfl
      · rfl
    · rfl
  · split
    · rw [hsh]
      split
      · split
        · rename_i hk
          rw [gl_sI hk.2]; rfl
        · rfl
      · rfl
    · rfl
  · split
    · rw [hsh]
      split
      · split
        · rfl
        · rfl
      · rfl
    · rfl
  · split
    · rw [hsh]
      split
      · split
        · rename_i hk
          rw [gl_sR hk.2]; rfl
        · rfl
      · rfl
    · rfl
  · exact absurd rfl h2
  · split
    · rw [hsh]
      split
      · rename_i hk
        have hl : h.1.1.length < 1000000 := Nat.lt_trans hk.2.2.1 (by decide)
        split
        · rw [gl_new hl]; rfl
        · rw [gl_new hl]; rfl
        · rw [gl_new hl]; rfl
        · rfl
      · rfl
    · rfl
  · split
    · rw [hsh]
      split
      · rename_i hk
        rw [gl_new (Nat.lt_trans hk.2.2.1 (by decide))]; rfl
      · rfl
    · rfl
  · split
    · rw [hsh]
      split
      · rename_i hk
        rw [gl_mna hk.2.2.2.2.1 hk.2.2.1, gl_mna hk.2.2.2.2.1 hk.2.2.1]
        repeat' (first | rfl | split)
      · rfl
    · rfl
  · split
    · rw [hsh]
      split
      · rename_i hk
        rw [gl_new (Nat.lt_trans hk.1 (by decide))]; rfl
      · rfl
    · rfl
  · repeat' (first | rfl | split)
  · repeat' (first | rfl | split)
  · repeat' (first | rfl | split)
  · rfl
theorem ev_h_i (hno : h.2.2.2 sp_X 0 = none) {q : ev_F} (e : ev_h M .iaload pc ls st h = some q) : ev_h M .iaload pc ls st (gl xs n h) = some (gq xs n q) := by
  have hsh : hp_sh (gl xs n h) = hp_sh h := rfl
  unfold ev_h at e ⊢
  dsimp only at e ⊢
  split at e
  · rename_i a k r
    try dsimp only
    by_cases hk : k < 1000000
    · rw [if_pos hk] at e ⊢
      rw [hsh, gl_I hk]
      split at e
      · rename_i hs
        try rw [hs]
        try dsimp only
        split at e
        · rename_i hz
          rw [if_pos hz]
          cases e
          rfl
        · cases e
      · cases e
    · rw [if_neg hk] at e ⊢
      by_cases hR : k = sp_R
      · rw [if_pos hR] at e ⊢
        split at e
        · rename_i hz
          rw [if_pos hz]
          cases e
          rfl
        · cases e
      · rw [if_neg hR] at e
        by_cases hX : k = sp_X
        · rw [if_pos hX, show hp_R h sp_X 0 = none from hno] at e
          cases e
        · rw [if_neg hX] at e
          cases e
  · cases e
theorem ev_h_l (hno : h.2.2.2 sp_X 0 = none) {q : ev_F} (e : ev_h M .arraylength pc ls st h = some q) : ev_h M .arraylength pc ls st (gl xs n h) = some (gq xs n q) := by
  have hsh : hp_sh (gl xs n h) = hp_sh h := rfl
  unfold ev_h at e ⊢
  dsimp only at e ⊢
  split at e
  · rename_i k r
    try dsimp only
    by_cases hk : k < 1000000
    · rw [if_pos hk] at e ⊢
      rw [hsh]
      split at e
      · rename_i hs
        try rw [hs]
        try dsimp only
        split at e
        · rename_i hz
          rw [if_pos hz]
          cases e
          rfl
        · cases e
      · cases e
    · rw [if_neg hk] at e ⊢
      by_cases hR : k = sp_R
      · rw [if_pos hR] at e ⊢
        cases e
        rfl
      · rw [if_neg hR] at e ⊢
        by_cases hX : k = sp_X
        · rw [if_pos hX, show hp_R h sp_X 0 = none from hno] at e
          cases e
        · rw [if_neg hX] at e ⊢
          split at e
          · rename_i hz
            rw [if_pos hz]
            cases e
            rfl
          · cases e
  · cases e
theorem ev_stp_g (hl : h.1.1.length < 1000000) (h1 : ¬ i = .iaload) (h2 : ¬ i = .arraylength) : ev_stp M i pc ls st (gl xs n h) = (ev_stp M i pc ls st h).map (gq xs n) := by
  unfold ev_stp
  rw [ev_a_g, ev_b_g, ev_h_g hl h1 h2]
  cases ev_a (mO M) i pc ls st h <;> cases ev_b i pc ls st h <;> cases ev_h M i pc ls st h <;> rfl
theorem ev_stp_s (hl : h.1.1.length < 1000000) (hno : h.2.2.2 sp_X 0 = none) {q : ev_F} (e : ev_stp M i pc ls st h = some q) : ev_stp M i pc ls st (gl xs n h) = some (gq xs n q) := by
  by_cases h1 : i = .iaload
  · subst h1
    exact ev_h_i (M := M) hno e
  · by_cases h2 : i = .arraylength
    · subst h2
      exact ev_h_l (M := M) hno e
    · rw [ev_stp_g hl h1 h2, e]
      rfl
end
