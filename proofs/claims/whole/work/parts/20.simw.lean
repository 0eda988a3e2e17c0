/-! The heap by places, as cells of the machine: ad gives each place its address. -/
def sm_cv (ad : Nat → Nat) : Value → Value
  | .ref k => .ref (ad k)
  | v => v
def sm_fv (ad : Nat → Nat) (h : hp_H) (k c j : Nat) : Value := match ev_fk c j with
  | 1 => .long (hp_J h k j)
  | 2 => va_rf ((hp_R h k j).map ad)
  | _ => .int (hp_I h k j)
def sm_cell (cA : Nat → ClassId) (ad : Nat → Nat) (h : hp_H) (k : Nat) (q : Nat × Nat) : va_E :=
  if q.1 < 12 then .inr (q.1, (List.range q.2).map (sm_fv ad h k q.1))
  else if q.1 = 13 then .inl (cA 13, q.2, .inr (.inl (hp_J h k)))
  else if q.1 = 12 ∨ q.1 = 14 then .inl (cA q.1, q.2, .inl (hp_I h k))
  else .inl (cA q.1, q.2, .inr (.inr (.inr (.inr (fun i => (hp_R h k i).map ad)))))
def sm_w (cA : Nat → ClassId) (ad : Nat → Nat) (h : hp_H) : va_W := (List.range (hp_sh h).length).map (fun k => (ad k, sm_cell cA ad h k ((hp_sh h).getD k (0, 0))))
/-- references in the heap are to places that there are -/
def hp_ok (h : hp_H) : Prop := ∀ k j q, k < (hp_sh h).length → hp_R h k j = some q → q < (hp_sh h).length
theorem sm_w_len (cA : Nat → ClassId) (ad : Nat → Nat) (h : hp_H) : (sm_w cA ad h).length = (hp_sh h).length := by simp [sm_w]
theorem sm_w_get {cA : Nat → ClassId} {ad : Nat → Nat} {h : hp_H} {k : Nat} {q : Nat × Nat} (hk : (hp_sh h)[k]? = some q) : (sm_w cA ad h)[k]? = some (ad k, sm_cell cA ad h k q) := by
  obtain ⟨hl, he⟩ := List.getElem?_eq_some_iff.mp hk
  unfold sm_w
  rw [List.getElem?_map, List.getElem?_range hl, Option.map_some, List.getD_eq_getElem?_getD, hk]
  rfl
theorem sm_w_set {cA : Nat → ClassId} {ad : Nat → Nat} {h h' : hp_H} {k : Nat} {q : Nat × Nat} (hs : hp_sh h' = hp_sh h) (hk : (hp_sh h)[k]? = some q)
    (hne : ∀ a, a ≠ k → sm_cell cA ad h' a = sm_cell cA ad h a) : sm_w cA ad h' = (sm_w cA ad h).set k (ad k, sm_cell cA ad h' k q) := by
  obtain ⟨hl, he⟩ := List.getElem?_eq_some_iff.mp hk
  apply List.ext_getElem?
  intro i
  by_cases hi : i = k
  · subst hi
    rw [List.getElem?_set_self (by rw [sm_w_len]; exact hl), sm_w_get (by rw [hs]; exact hk)]
  · rw [List.getElem?_set_ne (Ne.symm hi)]
    cases hq : (hp_sh h)[i]? with
    | none =>
      have h1 : (hp_sh h).length ≤ i := by simpa using hq
      rw [List.getElem?_eq_none (by rw [sm_w_len, hs]; exact h1), List.getElem?_eq_none (by rw [sm_w_len]; exact h1)]
    | some z => rw [sm_w_get hq, sm_w_get (by rw [hs]; exact hq), hne i hi]
theorem sm_cell_sI {cA : Nat → ClassId} {ad : Nat → Nat} {h : hp_H} {k j : Nat} {v : Int32} : ∀ a, a ≠ k → sm_cell cA ad (hp_sI h k j v) a = sm_cell cA ad h a := by
  intro a ha
  have h1 : hp_I (hp_sI h k j v) a = hp_I h a := by funext b; simp [hp_sI, hp_u, hp_I, ha]
  funext q
  have h2 : sm_fv ad (hp_sI h k j v) a q.1 = sm_fv ad h a q.1 := by
    funext b
    unfold sm_fv
    rw [show hp_I (hp_sI h k j v) a b = hp_I h a b from congrFun h1 b]
    rfl
  unfold sm_cell
  rw [h1, h2]
  rfl
theorem sm_cell_sJ {cA : Nat → ClassId} {ad : Nat → Nat} {h : hp_H} {k j : Nat} {v : Int64} : ∀ a, a ≠ k → sm_cell cA ad (hp_sJ h k j v) a = sm_cell cA ad h a := by
  intro a ha
  have h1 : hp_J (hp_sJ h k j v) a = hp_J h a := by funext b; simp [hp_sJ, hp_u, hp_J, ha]
  funext q
  have h2 : sm_fv ad (hp_sJ h k j v) a q.1 = sm_fv ad h a q.1 := by
    funext b
    unfold sm_fv
    rw [show hp_J (hp_sJ h k j v) a b = hp_J h a b from congrFun h1 b]
    rfl
  unfold sm_cell
  rw [h1, h2]
  rfl
theorem sm_cell_sR {cA : Nat → ClassId} {ad : Nat → Nat} {h : hp_H} {k j : Nat} {v : Option Nat} : ∀ a, a ≠ k → sm_cell cA ad (hp_sR h k j v) a = sm_cell cA ad h a := by
  intro a ha
  have h1 : hp_R (hp_sR h k j v) a = hp_R h a := by funext b; simp [hp_sR, hp_u, hp_R, ha]
  funext q
  have h2 : sm_fv ad (hp_sR h k j v) a q.1 = sm_fv ad h a q.1 := by
    funext b
    unfold sm_fv
    rw [show hp_R (hp_sR h k j v) a b = hp_R h a b from congrFun h1 b]
    rfl
  unfold sm_cell
  rw [h1, h2]
  rfl
/-- an object's fields behind a put -/
theorem sm_fs_set {ad : Nat → Nat} {h h' : hp_H} {k c j n : Nat} {v : Value} (hj : j < n) (hv : sm_fv ad h' k c j = v) (hne : ∀ b, b ≠ j → sm_fv ad h' k c b = sm_fv ad h k c b) : (List.range n).map (sm_fv ad h' k c) = ((List.range n).map (sm_fv ad h k c)).set j v := by
  apply List.ext_getElem?
  intro i
  by_cases hi : i = j
  · subst hi
    rw [List.getElem?_set_self (by simpa using hj), List.getElem?_map, List.getElem?_range hj, Option.map_some, hv]
  · rw [List.getElem?_set_ne (Ne.symm hi), List.getElem?_map, List.getElem?_map]
    by_cases hl : i < n
    · rw [List.getElem?_range hl, Option.map_some, Option.map_some, hne i hi]
    · rw [List.getElem?_eq_none (by simpa using hl)]
      rfl
theorem sm_fs_get {ad : Nat → Nat} {h : hp_H} {k c j n : Nat} (hj : j < n) : ((List.range n).map (sm_fv ad h k c))[j]? = some (sm_fv ad h k c j) := by
  rw [List.getElem?_map, List.getElem?_range hj, Option.map_some]
/-- a new cell -/
def hp_0 : hp_H := (([], 0, 0), fun _ _ => 0, fun _ _ => 0, fun _ _ => none)
theorem sm_w_new {cA : Nat → ClassId} {ad : Nat → Nat} {h : hp_H} {c n a : Nat} (ho : hp_ok h) :
    sm_w cA (va_up ad (hp_sh h).length a) (hp_new h c n) = sm_w cA ad h ++ [(a, sm_cell cA ad hp_0 0 (c, n))] := by
  have hlen : (hp_sh (hp_new h c n)).length = (hp_sh h).length + 1 := by simp [hp_new, hp_sh]
  unfold sm_w
  rw [hlen, List.range_succ, List.map_append, List.map_singleton]
  congr 1
  · apply List.map_congr_left
    intro k hk
    have hk : k < (hp_sh h).length := by simpa using hk
    have hne : k ≠ (hp_sh h).length := by omega
    have e1 : (hp_sh (hp_new h c n)).getD k (0, 0) = (hp_sh h).getD k (0, 0) := by
      simp only [hp_sh, hp_new] at hk ⊢; simp [List.getD_eq_getElem?_getD, List.getElem?_append_left hk]
    have eI : hp_I (hp_new h c n) k = hp_I h k := by funext b; simp only [hp_sh] at hne; simp [hp_new, hp_z, hp_I, hp_J, hp_R, hne]
    have eJ : hp_J (hp_new h c n) k = hp_J h k := by funext b; simp only [hp_sh] at hne; simp [hp_new, hp_z, hp_I, hp_J, hp_R, hne]
    have eR : ∀ b, hp_R (hp_new h c n) k b = hp_R h k b := by intro b; simp only [hp_sh] at hne; simp [hp_new, hp_z, hp_I, hp_J, hp_R, hne]
    have eM : ∀ b, (hp_R h k b).map (va_up ad (hp_sh h).length a) = (hp_R h k b).map ad := by
      intro b
      cases hq : hp_R h k b with
      | none => rfl
      | some q =>
        have := ho k b q hk hq
        simp only [Option.map_some]
        rw [va_up_ne _ _ (by omega)]
    have eF : ∀ c', sm_fv (va_up ad (hp_sh h).length a) (hp_new h c n) k c' = sm_fv ad h k c' := by
      intro c'
      funext b
      unfold sm_fv
      rw [eR b, eM b, show hp_I (hp_new h c n) k b = hp_I h k b from congrFun eI b, show hp_J (hp_new h c n) k b = hp_J h k b from congrFun eJ b]
    rw [e1, va_up_ne _ _ hne]
    congr 1
    unfold sm_cell
    rw [eI, eJ, eF]
    simp only [eR, eM]
  · have e1 : (hp_sh (hp_new h c n)).getD (hp_sh h).length (0, 0) = (c, n) := by
      simp [hp_new, hp_sh, List.getD_eq_getElem?_getD]
    rw [e1, va_up_self]
    congr 2
    have eI : hp_I (hp_new h c n) (hp_sh h).length = fun _ => 0 := by funext b; simp [hp_new, hp_z, hp_I, hp_J, hp_R, hp_sh]
    have eJ : hp_J (hp_new h c n) (hp_sh h).length = fun _ => 0 := by funext b; simp [hp_new, hp_z, hp_I, hp_J, hp_R, hp_sh]
    have eR : ∀ b, hp_R (hp_new h c n) (hp_sh h).length b = none := by intro b; simp [hp_new, hp_z, hp_I, hp_J, hp_R, hp_sh]
    unfold sm_cell
    rw [eI, eJ]
    have eF : sm_fv (va_up ad (hp_sh h).length a) (hp_new h c n) (hp_sh h).length (c, n).1 = sm_fv ad hp_0 0 (c, n).1 := by
      funext b
      unfold sm_fv
      rw [eR b, show hp_I (hp_new h c n) (hp_sh h).length b = 0 from congrFun eI b, show hp_J (hp_new h c n) (hp_sh h).length b = 0 from congrFun eJ b]
      rfl
    rw [eF]
    simp only [eR]
    rfl
/-- locals -/
def sm_L (als : Array Slot) (nL : Nat) (ad : Nat → Nat) (ls : List Value) : Prop := als.size = nL ∧ lv_wf als ∧ ls.length = nL ∧ ∀ (i : Nat) (v : Value), ls[i]? = some v → v ≠ Value.null → als[i]? = some (.val (sm_cv ad v))
def sm_l (ad : Nat → Nat) (ls : List Value) : List (Nat × Value) := (List.range ls.length).filterMap (fun j => match ls[j]? with
  | some v => if v = .null then none else some (j, sm_cv ad v)
  | none => none)
theorem sm_l_mem {ad : Nat → Nat} {ls : List Value} {i : Nat} {v : Value} (h : ls[i]? = some v) (hv : v ≠ .null) : (i, sm_cv ad v) ∈ sm_l ad ls := by
  obtain ⟨hl, -⟩ := List.getElem?_eq_some_iff.mp h
  exact List.mem_filterMap.mpr ⟨i, List.mem_range.mpr hl, by rw [h]; simp [hv]⟩
theorem sm_l_of {ad : Nat → Nat} {ls : List Value} {q : Nat × Value} (h : q ∈ sm_l ad ls) : ∃ v, ls[q.1]? = some v ∧ v ≠ .null ∧ q.2 = sm_cv ad v := by
  obtain ⟨j, hj, he⟩ := List.mem_filterMap.mp h
  cases hv : ls[j]? with
  | none => rw [hv] at he; simp at he
  | some v =>
    rw [hv] at he
    by_cases hn : v = .null
    · simp [hn] at he
    · simp [hn] at he
      subst he
      exact ⟨v, hv, hn, rfl⟩
theorem sm_L.has {als : Array Slot} {nL : Nat} {ad : Nat → Nat} {ls : List Value} (h : sm_L als nL ad ls) : lv_has als nL (sm_l ad ls) :=
  ⟨h.1, h.2.1, fun q hq => by
    obtain ⟨v, h1, h2, h3⟩ := sm_l_of hq
    rw [h3]
    exact h.2.2.2 _ _ h1 h2⟩
theorem sm_cv_cat (ad : Nat → Nat) (v : Value) : (sm_cv ad v).category = v.category := by cases v <;> rfl
theorem sm_L.s1 {als als' : Array Slot} {nL i : Nat} {ad : Nat → Nat} {ls ls' : List Value} {v : Value} (h : sm_L als nL ad ls) (hs : ev_s1 ls i v = some ls')
    (hh : lv_has als' nL ((i, sm_cv ad v) :: (sm_l ad ls).filter (fun q => !(q.1 == i) && !(q.1 + 1 == i && q.2.category == 2)))) : sm_L als' nL ad ls' := by
  unfold ev_s1 at hs
  split at hs
  · rename_i hc
    cases hs
    refine ⟨hh.1, hh.2.1, by rw [List.length_set]; exact h.2.2.1, fun j w hw hn => ?_⟩
    by_cases hj : j = i
    · subst hj
      rw [List.getElem?_set_self hc.1] at hw
      cases hw
      exact hh.2.2 (j, sm_cv ad v) List.mem_cons_self
    · rw [List.getElem?_set_ne (Ne.symm hj)] at hw
      refine hh.2.2 (j, sm_cv ad w) (List.mem_cons_of_mem _ (List.mem_filter.mpr ⟨sm_l_mem hw hn, ?_⟩))
      have h1 : ¬ (j + 1 = i ∧ w.category = 2) := by
        rintro ⟨rfl, h2⟩
        have h3 := hc.2
        simp only [ev_ll, hw] at h3
        rw [h2] at h3
        cases h3
      simp only [sm_cv_cat, Bool.and_eq_true, Bool.not_eq_true', beq_eq_false_iff_ne, ne_eq, hj, not_false_eq_true, Bool.and_eq_false_iff, true_and, and_true]
      rcases Nat.decEq (j + 1) i with h2 | h2
      · exact Or.inl h2
      · exact Or.inr (fun h4 => h1 ⟨h2, h4⟩)
  · cases hs
theorem sm_L.s2 {als als' : Array Slot} {nL i : Nat} {ad : Nat → Nat} {ls ls' : List Value} {v : Value} (h : sm_L als nL ad ls) (hs : ev_s2 ls i v = some ls')
    (hh : lv_has als' nL ((i, sm_cv ad v) :: (sm_l ad ls).filter (fun q => !(q.1 == i) && (!(q.1 == i + 1) && !(q.1 + 1 == i && q.2.category == 2))))) : sm_L als' nL ad ls' := by
  unfold ev_s2 at hs
  split at hs
  · rename_i hc
    cases hs
    refine ⟨hh.1, hh.2.1, by rw [List.length_set, List.length_set]; exact h.2.2.1, fun j w hw hn => ?_⟩
    by_cases hj1 : j = i + 1
    · subst hj1
      rw [List.getElem?_set_self (by rw [List.length_set]; exact hc.1)] at hw
      cases hw
      exact absurd rfl hn
    · rw [List.getElem?_set_ne (Ne.symm hj1)] at hw
      by_cases hj : j = i
      · subst hj
        rw [List.getElem?_set_self (by omega)] at hw
        cases hw
        exact hh.2.2 (j, sm_cv ad v) List.mem_cons_self
      · rw [List.getElem?_set_ne (Ne.symm hj)] at hw
        refine hh.2.2 (j, sm_cv ad w) (List.mem_cons_of_mem _ (List.mem_filter.mpr ⟨sm_l_mem hw hn, ?_⟩))
        have h1 : ¬ (j + 1 = i ∧ w.category = 2) := by
          rintro ⟨rfl, h2⟩
          have h3 := hc.2
          simp only [ev_ll, hw] at h3
          rw [h2] at h3
          cases h3
        simp only [sm_cv_cat, Bool.and_eq_true, Bool.not_eq_true', beq_eq_false_iff_ne, ne_eq, hj, hj1, not_false_eq_true, Bool.and_eq_false_iff, true_and, and_true]
        rcases Nat.decEq (j + 1) i with h2 | h2
        · exact Or.inl h2
        · exact Or.inr (fun h4 => h1 ⟨h2, h4⟩)
  · cases hs
