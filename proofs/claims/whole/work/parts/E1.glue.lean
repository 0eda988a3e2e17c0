/-! A run that doesn't read the script does the same beside any script. -/
def gl (xs : Nat → Int32) (n : Nat → Option Nat) (h : hp_H) : hp_H := (h.1, (fun k => if k = sp_X then xs else h.2.1 k), h.2.2.1, fun k => if k = sp_X then n else h.2.2.2 k)
def gq (xs : Nat → Int32) (n : Nat → Option Nat) (q : ev_F) : ev_F := (q.1, q.2.1, q.2.2.1, gl xs n q.2.2.2)
section
variable {xs : Nat → Int32} {n : Nat → Option Nat} {M : ev_M} {i : Instr} {o pc : Nat} {ls st : List Value} {h h1 : hp_H} {k j : Nat}
theorem ev_a_g : ev_a o i pc ls st (gl xs n h) = (ev_a o i pc ls st h).map (gq xs n) := by
  unfold ev_a
  split
  all_goals first
    | rfl
    | (split <;> first
        | rfl
        | (simp only [Option.map_map]; rfl)
        | (split <;> rfl))
theorem ev_b_g : ev_b i pc ls st (gl xs n h) = (ev_b i pc ls st h).map (gq xs n) := by
  unfold ev_b
  split
  all_goals first
    | rfl
    | (split <;> first
        | rfl
        | (split <;> first
            | rfl
            | (split <;> first
                | rfl
                | (split <;> rfl))))
theorem gl_I (hk : k < 1000000) : hp_I (gl xs n h) k = hp_I h k := if_neg (by show ¬ k = 1000001; omega)
theorem gl_R (hk : k < 1000000) : hp_R (gl xs n h) k = hp_R h k := if_neg (by show ¬ k = 1000001; omega)
theorem gl_sI {v : Int32} (hk : k < 1000000) : hp_sI (gl xs n h) k j v = gl xs n (hp_sI h k j v) := by
  unfold hp_sI gl
  refine Prod.ext rfl (Prod.ext ?_ rfl)
  funext a b
  show hp_u _ k j v a b = _
  by_cases c : a = sp_X
  · subst c
    have : ¬ sp_X = k := by show ¬ 1000001 = k; omega
    simp only [hp_u, this, ↓reduceIte]
  · simp only [hp_u, c, ↓reduceIte]
theorem gl_sR {v : Option Nat} (hk : k < 1000000) : hp_sR (gl xs n h) k j v = gl xs n (hp_sR h k j v) := by
  unfold hp_sR gl
  refine Prod.ext rfl (Prod.ext rfl (Prod.ext rfl ?_))
  funext a b
  show hp_u _ k j v a b = _
  by_cases c : a = sp_X
  · subst c
    have : ¬ sp_X = k := by show ¬ 1000001 = k; omega
    simp only [hp_u, this, ↓reduceIte]
  · simp only [hp_u, c, ↓reduceIte]
theorem gl_sJ {v : Int64} : hp_sJ (gl xs n h) k j v = gl xs n (hp_sJ h k j v) := rfl
theorem gl_new {c m : Nat} (hk : h.1.1.length < 1000000) : hp_new (gl xs n h) c m = gl xs n (hp_new h c m) := by
  unfold hp_new gl
  refine Prod.ext rfl (Prod.ext ?_ (Prod.ext rfl ?_))
  · funext a
    show hp_z _ h.1.1.length 0 a = _
    by_cases e : a = sp_X
    · subst e
      have : ¬ sp_X = h.1.1.length := by show ¬ 1000001 = _; omega
      funext b
      simp only [hp_z, this, ↓reduceIte]
    · funext b
      simp only [hp_z, e, ↓reduceIte]
  · funext a
    show hp_z _ h.1.1.length none a = _
    by_cases e : a = sp_X
    · subst e
      have : ¬ sp_X = h.1.1.length := by show ¬ 1000001 = _; omega
      funext b
      simp only [hp_z, this, ↓reduceIte]
    · funext b
      simp only [hp_z, e, ↓reduceIte]
theorem gl_news {c m : Nat} : ∀ q, h.1.1.length + q < 1000000 → hp_news (gl xs n h) c m q = gl xs n (hp_news h c m q) ∧ (hp_news h c m q).1.1.length = h.1.1.length + q
  | 0, _ => ⟨rfl, rfl⟩
  | q + 1, hq => by
    obtain ⟨e1, e2⟩ := gl_news (c := c) (m := m) q (by omega)
    refine ⟨?_, ?_⟩
    · show hp_new (hp_news (gl xs n h) c m q) c m = gl xs n (hp_new (hp_news h c m q) c m)
      rw [e1, gl_new (by omega)]
    · show ((hp_news h c m q).1.1 ++ [(c, m)]).length = _
      rw [List.length_append, e2]
      rfl
theorem gl_mna {co ci m q : Nat} (hk : h.1.1.length < 900000) (hq : q ≤ 100) : hp_mna (gl xs n h) co ci q m = gl xs n (hp_mna h co ci q m) := by
  have e := gl_news (xs := xs) (n := n) (h := hp_new h co q) (c := ci) (m := m) q (by show (h.1.1 ++ [(co, q)]).length + q < _; rw [List.length_append]; show h.1.1.length + 1 + q < _; omega)
  unfold hp_mna
  rw [gl_new (by omega), e.1]
  refine Prod.ext rfl (Prod.ext rfl (Prod.ext rfl ?_))
  funext a b
  show (if a = h.1.1.length then _ else (gl xs n (hp_news (hp_new h co q) ci m q)).2.2.2 a b) = (if a = sp_X then _ else fun b => if a = h.1.1.length then _ else (hp_news (hp_new h co q) ci m q).2.2.2 a b) b
  by_cases c : a = sp_X
  · subst c
    have : ¬ sp_X = h.1.1.length := by show ¬ 1000001 = _; omega
    simp only [gl, this, ↓reduceIte]
  · simp only [gl, c, ↓reduceIte]
end
