section
variable {p : Program} {l : Launch} {e : Env} {R : Room} {s : State} {m : MethodId} {args : Array Value} {below : List Frame} {meth : Method} {c : Code} {H : Heap} {locs : List Loc} {cells slots : Nat} {Q : State → Prop}
variable {M : ev_M} {ad : Nat → Nat} {nL : Nat} {als : Array Slot} {pc : Nat} {ls r : List Value} {h : hp_H} {D : va_G} {cA : Nat → ClassId} {A : Nat → Prop}
theorem sm_nr {t : FieldType} {a : Nat} (h : t.isReference = true) : narrow t (.ref a) = .ref a ∧ fits t (.ref a) = true := by
  cases t <;> first | exact ⟨rfl, rfl⟩ | cases h
/-- what a frame of the interpreter has of the machine -/
def sm_Fx (p : Program) (s : State) (m : MethodId) (args : Array Value) (meth : Method) (c : Code) (M : ev_M) (D : va_G) (cA : Nat → ClassId) (A : Nat → Prop) : Prop :=
  p.tables.exec = Jvm.exec ∧ c.code = mC M ∧ c.maxLocals = mX M ∧ s.vm.findClass (ev_on (mO M)) = some m.cls ∧ (∀ w ∈ wG, w.before args s = true) ∧ meth.name = (mY M).name ∧ va_K D vwCl (sm_tys cA) s ∧ ∀ q, s.heap.size ≤ q → A q
/-- .. and of its heap -/
def sm_Hx (s : State) (D : va_G) (cA : Nat → ClassId) (A : Nat → Prop) (L : Nat) (xs : Nat → Int32) (ad : Nat → Nat) (h : hp_H) (H : Heap) (locs : List Loc) : Prop :=
  va_P D vwCl (sm_w cA ad h) H ∧ va_D A (sm_w cA ad h) ∧ va_S A s.heap H locs ∧ hp_ok h ∧ sm_sc h L xs ∧ sm_St ad L xs A s s.heap
theorem sm_putD {x k c' j n : Nat} {v : Value} {h' : hp_H} {L : Nat} {xs : Nat → Int32} (hF : sm_Fx p s m args meth c M D cA A) (hH : sm_Hx s D cA A L xs ad h H locs)
    (hf : ev_ft (mO M) x = some (c', j)) (hk : (hp_sh h)[k]? = some (c', n)) (hj : j < n) (hk1 : k < 1000000) (hfin : ev_fn c' j = true → (mY M).name = "<init>" ∧ mO M = c') (hp : hp_put h k c' j v = some h') (hd : decode (mC M) pc = .ok (.putfield x, 3))
    (kk : ∀ H' locs', sm_Hx s D cA A L xs ad h' H' locs' → hp_sh h' = hp_sh h → h'.1 = h.1 → W p l e R s m args below meth c H' locs' cells slots Q (F0 m (pc + 3) als (r.map (sm_cv ad)))) : W p l e R s m args below meth c H locs cells slots Q (F0 m pc als ((v :: .ref k :: r).map (sm_cv ad))) := by
  obtain ⟨hx, hb, hml, hown, hts, hin, hK, hA⟩ := hF
  obtain ⟨hP, hD, hS, ho, hsc, hSt⟩ := hH
  obtain ⟨hc, hft⟩ := ft_ok hf
  obtain ⟨T, N, ty, hcl⟩ := cs_all c' hc
  obtain ⟨hjN, hlk⟩ := hft T N ty hcl
  obtain ⟨h1, h2, h3, h4, h5, h6, h7⟩ := hcl
  obtain ⟨g1, g2, g3⟩ := h7 j hjN
  have hw : (sm_w cA ad h)[k]? = some (ad k, .inr (c', (List.range n).map (sm_fv ad h k c'))) := by rw [sm_w_get hk, sm_cell_o hc]
  have key : ∃ (w : Value), sm_cv ad v = w ∧ narrow (ty j) w = w ∧ fits (ty j) w = true ∧ sm_w cA ad h' = (sm_w cA ad h).set k (ad k, .inr (c', ((List.range n).map (sm_fv ad h k c')).set j w)) ∧ h'.1 = h.1 ∧ hp_ok h' ∧ sm_sc h' L xs := by
    unfold hp_put at hp
    split at hp
    · rename_i y hfk
      cases hp
      rw [hfk] at g3
      have e : ty j = .int := by simpa [ev_tyok] using g3
      refine ⟨_, rfl, by rw [e]; rfl, by rw [e]; rfl, ?_, rfl, ho, sm_sc_I hk1 hsc⟩
      rw [sm_w_set (h := h) (h' := hp_sI h k j y) rfl hk sm_cell_sI, sm_cell_o hc, sm_fs_set (h := h) (v := .int y) hj (by unfold sm_fv; rw [hfk]; simp [hp_I, hp_sI, hp_u]) (fun b hbj => by unfold sm_fv; simp [hp_I, hp_J, hp_R, hp_sI, hp_u, hbj])]
      rfl
    · rename_i y hfk
      cases hp
      rw [hfk] at g3
      have e : ty j = .long := by simpa [ev_tyok] using g3
      refine ⟨_, rfl, by rw [e]; rfl, by rw [e]; rfl, ?_, rfl, ho, hsc⟩
      rw [sm_w_set (h := h) (h' := hp_sJ h k j y) rfl hk sm_cell_sJ, sm_cell_o hc, sm_fs_set (h := h) (v := .long y) hj (by unfold sm_fv; rw [hfk]; simp [hp_J, hp_sJ, hp_u]) (fun b hbj => by unfold sm_fv; simp [hp_I, hp_J, hp_R, hp_sJ, hp_u, hbj])]
      rfl
    · rename_i y hfk
      split at hp
      · rename_i hy
        cases hp
        rw [hfk] at g3
        have e : (ty j).isReference = true := by simpa [ev_tyok] using g3
        refine ⟨_, rfl, (sm_nr e).1, (sm_nr e).2, ?_, rfl, hp_ok_R ho hy, sm_sc_R hk1 hsc⟩
        rw [sm_w_set (h := h) (h' := hp_sR h k j (some y)) rfl hk sm_cell_sR, sm_cell_o hc, sm_fs_set (h := h) (v := .ref (ad y)) hj (by unfold sm_fv; rw [hfk]; simp [hp_R, hp_sR, hp_u, va_rf]) (fun b hbj => by unfold sm_fv; simp [hp_I, hp_J, hp_R, hp_sR, hp_u, hbj])]
        rfl
      · cases hp
    · rename_i y hfk
      split at hp
      · rename_i hy
        cases hp
        rw [hfk] at g3
        have e : ty j = .boolean := by simpa [ev_tyok] using g3
        refine ⟨_, rfl, by rw [e]; exact hy.2, by rw [e]; exact hy.1, ?_, rfl, ho, sm_sc_I hk1 hsc⟩
        rw [sm_w_set (h := h) (h' := hp_sI h k j y) rfl hk sm_cell_sI, sm_cell_o hc, sm_fs_set (h := h) (v := .int y) hj (by unfold sm_fv; rw [hfk]; simp [hp_I, hp_sI, hp_u]) (fun b hbj => by unfold sm_fv; simp [hp_I, hp_J, hp_R, hp_sI, hp_u, hbj])]
        rfl
      · cases hp
    · cases hp
  obtain ⟨w, e1, e2, e3, e4, e5, e6, e7⟩ := key
  rw [List.map_cons, List.map_cons, e1]
  cases hfb : ev_fn c' j with
  | false =>
    refine va_put hx hb hts h4 ty h5 h6 hown hK hP hD hS k hw h1 j hjN (hts _ hlk) (fun x h => by rw [g1] at h; exact h) (by rw [g2, hfb]) (h5 j hjN) e2 e3 (by simpa using hj) hd (fun H1 locs1 q1 q2 q3 => ?_)
    rw [← e4] at q1 q2
    exact kk H1 locs1 ⟨q1, q2, q3, e6, e7, hSt⟩ (by simp only [hp_sh]; rw [e5]) e5
  | true =>
    obtain ⟨f1, f2⟩ := hfin hfb
    refine va_putF hx hb hts h4 ty h5 h6 hown hK hP hD hS k hw h1 j hjN (hts _ hlk) (fun x h => by rw [g1] at h; exact h) (by rw [g2, hfb]) (hin.trans f1) (by rw [g1, f2]) (h5 j hjN) e2 e3 (by simpa using hj) hd (fun H1 locs1 q1 q2 q3 => ?_)
    rw [← e4] at q1 q2
    exact kk H1 locs1 ⟨q1, q2, q3, e6, e7, hSt⟩ (by simp only [hp_sh]; rw [e5]) e5
end
