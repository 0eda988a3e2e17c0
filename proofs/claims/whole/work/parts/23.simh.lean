/-! Each instruction of the interpreter is the machine's: fields, arrays, what is made. -/
def sm_ex (ad ad' : Nat → Nat) (h h' : hp_H) : Prop := (∀ k, (k < (hp_sh h).length ∨ 1000000 ≤ k) → ad' k = ad k) ∧ (h'.1.2.1 = h.1.2.1 → ad' = ad)
def sm_sc (h : hp_H) (L : Nat) (xs : Nat → Int32) : Prop := hp_R h sp_X 0 = some L ∧ ∀ j, j < L → hp_I h sp_X j = xs j
theorem sm_ex.rf {ad : Nat → Nat} {h h' : hp_H} : sm_ex ad ad h h' := ⟨fun _ _ => rfl, fun _ => rfl⟩
theorem sm_up_ne {ad : Nat → Nat} {n a q : Nat} (hn : n < 1000000) (h : q < n ∨ 1000000 ≤ q) : va_up ad n a q = ad q := va_up_ne _ _ (by omega)
theorem sm_cv_up {ad : Nat → Nat} {n a : Nat} {v : Value} (hn : n < 1000000) (h : ev_vok n v = true) : sm_cv (va_up ad n a) v = sm_cv ad v := by
  cases v with
  | ref q =>
    have h1 : q < n ∨ 1000000 ≤ q := by simpa [ev_vok] using h
    show Value.ref (va_up ad n a q) = Value.ref (ad q)
    rw [sm_up_ne hn h1]
  | _ => rfl
theorem sm_vs {ad : Nat → Nat} {n a : Nat} {ls st : List Value} (hn : n < 1000000) (h : ev_vs n ls st = true) : (∀ als nL, sm_L als nL ad ls → sm_L als nL (va_up ad n a) ls) ∧ st.map (sm_cv (va_up ad n a)) = st.map (sm_cv ad) := by
  simp only [ev_vs, Bool.and_eq_true, List.all_eq_true] at h
  refine ⟨fun als nL hL => ⟨hL.1, hL.2.1, hL.2.2.1, fun i v hv hne => ?_⟩, List.map_congr_left fun v hv => sm_cv_up hn (h.2 v hv)⟩
  rw [sm_cv_up hn (h.1 v (List.mem_of_getElem? hv))]
  exact hL.2.2.2 i v hv hne
/-- addresses that agree where a frame looks -/
theorem sm_vs2 {ad ad' : Nat → Nat} {n : Nat} {ls st : List Value} (he : ∀ k, (k < n ∨ 1000000 ≤ k) → ad' k = ad k) (h : ev_vs n ls st = true) : (∀ als nL, sm_L als nL ad ls → sm_L als nL ad' ls) ∧ st.map (sm_cv ad') = st.map (sm_cv ad) := by
  simp only [ev_vs, Bool.and_eq_true, List.all_eq_true] at h
  have key : ∀ v : Value, ev_vok n v = true → sm_cv ad' v = sm_cv ad v := by
    intro v hv
    cases v with
    | ref q =>
      have h1 : q < n ∨ 1000000 ≤ q := by simpa [ev_vok] using hv
      show Value.ref (ad' q) = Value.ref (ad q)
      rw [he q h1]
    | _ => rfl
  refine ⟨fun als nL hL => ⟨hL.1, hL.2.1, hL.2.2.1, fun i v hv hne => ?_⟩, List.map_congr_left fun v hv => key v (h.2 v hv)⟩
  rw [key v (h.1 v (List.mem_of_getElem? hv))]
  exact hL.2.2.2 i v hv hne
theorem sm_hget {ad : Nat → Nat} {h : hp_H} {k c j : Nat} {v : Value} (hv : hp_get h k c j = some v) : sm_fv ad h k c j = sm_cv ad v := by
  unfold hp_get at hv
  unfold sm_fv
  split at hv
  · rename_i hk; cases hv; rw [hk]; rfl
  · rename_i hk; cases hv; rw [hk]; rfl
  · rename_i hk
    split at hv
    · rename_i q hq; cases hv; rw [hk, hq]; rfl
    · cases hv
  · rename_i hk; cases hv; rw [hk]; rfl
  · cases hv
theorem sm_cell_o {cA : Nat → ClassId} {ad : Nat → Nat} {h : hp_H} {k c n : Nat} (hc : c < 12) : sm_cell cA ad h k (c, n) = .inr (c, (List.range n).map (sm_fv ad h k c)) := if_pos hc
theorem sm_cell_12 {cA : Nat → ClassId} {ad : Nat → Nat} {h : hp_H} {k n : Nat} : sm_cell cA ad h k (12, n) = .inl (cA 12, n, .inl (hp_I h k)) := by simp [sm_cell]
theorem sm_cell_14 {cA : Nat → ClassId} {ad : Nat → Nat} {h : hp_H} {k n : Nat} : sm_cell cA ad h k (14, n) = .inl (cA 14, n, .inl (hp_I h k)) := by simp [sm_cell]
theorem sm_cell_13 {cA : Nat → ClassId} {ad : Nat → Nat} {h : hp_H} {k n : Nat} : sm_cell cA ad h k (13, n) = .inl (cA 13, n, .inr (.inl (hp_J h k))) := by simp [sm_cell]
theorem sm_cell_r {cA : Nat → ClassId} {ad : Nat → Nat} {h : hp_H} {k c n : Nat} (hc : 14 < c) : sm_cell cA ad h k (c, n) = .inl (cA c, n, .inr (.inr (.inr (.inr (fun i => (hp_R h k i).map ad))))) := by
  unfold sm_cell
  rw [if_neg (by show ¬ c < 12; omega), if_neg (by show ¬ c = 13; omega), if_neg (by show ¬ (c = 12 ∨ c = 14); omega)]
theorem hp_ok_I {h : hp_H} {k j : Nat} {v : Int32} (ho : hp_ok h) : hp_ok (hp_sI h k j v) := ho
theorem hp_ok_J {h : hp_H} {k j : Nat} {v : Int64} (ho : hp_ok h) : hp_ok (hp_sJ h k j v) := ho
theorem hp_ok_R {h : hp_H} {k j q : Nat} (ho : hp_ok h) (hq : q < (hp_sh h).length) : hp_ok (hp_sR h k j (some q)) := by
  intro a b x ha hx
  simp only [hp_R, hp_sR, hp_u] at hx
  split at hx
  · split at hx
    · cases hx; exact hq
    · exact ho a b x ha hx
  · exact ho a b x ha hx
theorem hp_ok_new {h : hp_H} {c n : Nat} (ho : hp_ok h) : hp_ok (hp_new h c n) := by
  intro a b x ha hx
  have hl : (hp_sh (hp_new h c n)).length = (hp_sh h).length + 1 := by simp [hp_new, hp_sh]
  simp only [hp_R, hp_new, hp_z] at hx
  split at hx
  · cases hx
  · rename_i hne
    have := ho a b x (by rw [hl] at ha; simp only [hp_sh] at ha ⊢; omega) hx
    omega
theorem sm_sc_I {h : hp_H} {L k j : Nat} {xs : Nat → Int32} {v : Int32} (hk : k < 1000000) (hs : sm_sc h L xs) : sm_sc (hp_sI h k j v) L xs := by
  refine ⟨hs.1, fun i hi => ?_⟩
  rw [← hs.2 i hi]
  simp only [hp_I, hp_sI, hp_u]
  rw [if_neg (by show ¬ 1000001 = k; omega)]
theorem sm_sc_R {h : hp_H} {L k j : Nat} {xs : Nat → Int32} {v : Option Nat} (hk : k < 1000000) (hs : sm_sc h L xs) : sm_sc (hp_sR h k j v) L xs := by
  refine ⟨?_, hs.2⟩
  rw [← hs.1]
  simp only [hp_R, hp_sR, hp_u]
  rw [if_neg (by show ¬ 1000001 = k; omega)]
theorem sm_sc_new {h : hp_H} {L c n : Nat} {xs : Nat → Int32} (hk : (hp_sh h).length < 1000000) (hs : sm_sc h L xs) : sm_sc (hp_new h c n) L xs := by
  have hne : ¬ 1000001 = h.1.1.length := by simp only [hp_sh] at hk; omega
  refine ⟨?_, fun i hi => ?_⟩
  · rw [← hs.1]
    simp only [hp_R, hp_new, hp_z]
    rw [if_neg hne]
  · rw [← hs.2 i hi]
    simp only [hp_I, hp_new, hp_z]
    rw [if_neg hne]
theorem sm_in {a : Int32} {n : Nat} (h : ev_in a n = true) : vp_in a n := by
  have q : ¬ (a < 0 ∨ n ≤ a.toNatClampNeg) := of_decide_eq_true h
  exact q
theorem sm_inlt {a : Int32} {n : Nat} (h : ev_in a n = true) : a.toNatClampNeg < n := Nat.not_le.mp fun q => (of_decide_eq_true h) (Or.inr q)
