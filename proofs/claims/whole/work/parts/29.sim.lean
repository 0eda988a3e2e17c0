/-! What the interpreter says, the machine does. -/
def sm_rm (d mc ms : Nat) : Room := { frames := d + 10, cells := mc, slots := ms, locals := 40 * d + 200 }
abbrev hp_dc (h h' : hp_H) : Nat := h'.1.2.1 - h.1.2.1
abbrev hp_ds (h h' : hp_H) : Nat := h'.1.2.2 - h.1.2.2
def sm_Pc (D : va_G) (cA : Nat → ClassId) (L : Nat) (xs : Nat → Int32) (ad : Nat → Nat) (h : hp_H) (sz : Nat) (a : List Value) : Array Value → State → Prop := va_Pc (a.map (sm_cv ad)) (fun U => U.heap.size = sz ∧ va_P D vwCl (sm_w cA ad h) U.heap ∧ va_K D vwCl (sm_tys cA) U ∧ va_D (fun _ => True) (sm_w cA ad h) ∧ sm_St ad L xs (va_A (sm_w cA ad h) sz) U U.heap)
def sm_Qb (D : va_G) (cA : Nat → ClassId) (L : Nat) (xs : Nat → Int32) (ad : Nat → Nat) (h : hp_H) (sz : Nat) (h' : hp_H) (st t : State) : Prop := (∃ ad' : Nat → Nat, sm_ex ad ad' h h' ∧ va_P D vwCl (sm_w cA ad' h') t.heap ∧ va_D (va_A (sm_w cA ad h) sz) (sm_w cA ad' h')) ∧ (hp_ok h' ∧ sm_sc h' L xs) ∧ va_F (va_A (sm_w cA ad h) sz) st t
def sm_Qc (D : va_G) (cA : Nat → ClassId) (L : Nat) (xs : Nat → Int32) (ad : Nat → Nat) (h : hp_H) (sz : Nat) (v : Option Value) (h' : hp_H) : Array Value → State → Outcome → State → Prop := fun _ st oc t => oc = .returned v ∧ sm_Qb D cA L xs ad h sz h' st t
def sm_T (l : Launch) (f : ev_M → Nat → List Value → List Value → hp_H → ev_Re) (d : Nat) : Prop :=
  ∀ (M : ev_M) (pc : Nat) (ls st : List Value) (h : hp_H) (r : Option Value) (h' : hp_H), f M pc ls st h = some (r, h') → ∀ (p : Program) (e : Env) (R : Room) (s : State) (m : MethodId) (args : Array Value) (below : List Frame) (meth : Method) (c : Code) (H : Heap) (locs : List Loc) (cells slots : Nat) (Q : State → Prop) (D : va_G) (cA : Nat → ClassId) (A : Nat → Prop) (L : Nat) (xs : Nat → Int32) (ad : Nat → Nat) (als : Array Slot),
    sm_Fx p s m args meth c M D cA A → sm_L als (mX M) ad ls → sm_Hx s D cA A L xs ad h H locs → d + 10 ≤ R.frames → 40 * d + 200 ≤ R.locals → cells + hp_dc h h' ≤ R.cells → slots + hp_ds h h' ≤ R.slots →
    (∀ (ad' : Nat → Nat) (als' : Array Slot) (H' : Heap) (locs' : List Loc) (pc' : Nat) (st' : List Value), sm_ex ad ad' h h' → sm_Hx s D cA A L xs ad' h' H' locs' → als'.size = mX M → sm_end M r pc' st' → W p l e R s m args below meth c H' locs' (cells + hp_dc h h') (slots + hp_ds h h') Q (F0 m pc' als' st')) →
    W p l e R s m args below meth c H locs cells slots Q (F0 m pc als (st.map (sm_cv ad)))
theorem sm_ex.tr {ad ad1 ad2 : Nat → Nat} {h h1 h2 : hp_H} (l1 : hp_le h h1) (l2 : hp_le h1 h2) (a : sm_ex ad ad1 h h1) (b : sm_ex ad1 ad2 h1 h2) : sm_ex ad ad2 h h2 := by
  refine ⟨fun k hk => ?_, fun q => ?_⟩
  · rw [b.1 k (hk.elim (fun z => Or.inl (Nat.lt_of_lt_of_le z l1.2.2)) Or.inr), a.1 k hk]
  · have h1 := l1.1
    have h2 := l2.1
    rw [b.2 (by omega), a.2 (by omega)]
theorem sm_end_map {M : ev_M} {r : Option Value} {pc : Nat} {st : List Value} {ad : Nat → Nat} (h : sm_end M r pc st) : st.map (sm_cv ad) = st := by
  unfold sm_end at h
  split at h
  · rw [h.2.1]; rfl
  · rw [h.2.1]; rfl
  · rw [h.2.1]; rfl
  · rw [h.2.1]; rfl
  · exact h.elim
theorem sm_St_ad {ad ad' : Nat → Nat} {L : Nat} {xs : Nat → Int32} {A : Nat → Prop} {U : State} {H : Heap} (hu : ∀ z, 1000000 ≤ z → ad' z = ad z) (h : sm_St ad L xs A U H) : sm_St ad' L xs A U H := by
  have e1 := hu sp_R (by decide)
  have e2 := hu sp_X (by decide)
  have e3 : ∀ j, ad' (sp_S + j) = ad (sp_S + j) := fun j => hu _ (by show 1000000 ≤ 1000100 + j; omega)
  have e4 : ∀ j, ad' (sp_V + j) = ad (sp_V + j) := fun j => hu _ (by show 1000000 ≤ 1000200 + j; omega)
  unfold sm_St at h ⊢
  simp only [sm_StrJ, sm_Wd, e1, e2, e3, e4] at h ⊢
  exact h
/-- the locals at a method's entry -/
theorem sm_en_get {ad : Nat → Nat} : ∀ (a : List Value), (lg_sl (a.map (sm_cv ad))).length = (ev_en a).length ∧ ∀ (i : Nat) (v : Value), (ev_en a)[i]? = some v → v ≠ .null → (lg_sl (a.map (sm_cv ad)))[i]? = some (.val (sm_cv ad v))
  | [] => ⟨rfl, fun i v h => by simp [ev_en] at h⟩
  | w :: a => by
    obtain ⟨i1, i2⟩ := sm_en_get (ad := ad) a
    have e0 : lg_sl ((w :: a).map (sm_cv ad)) = (if w.category = 2 then [.val (sm_cv ad w), .second] else [.val (sm_cv ad w)]) ++ lg_sl (a.map (sm_cv ad)) := by
      simp only [lg_sl, List.map_cons, List.flatMap_cons, sm_cv_cat]
    by_cases hw : w.category = 2
    · have e1 : ev_en (w :: a) = w :: .null :: ev_en a := by simp [ev_en, hw]
      rw [e0, if_pos hw, e1]
      refine ⟨by simp [i1], fun i v hv hn => ?_⟩
      match i, hv with
      | 0, hv => cases hv; rfl
      | 1, hv => cases hv; exact absurd rfl hn
      | i + 2, hv => exact i2 i v hv hn
    · have e1 : ev_en (w :: a) = w :: ev_en a := by simp [ev_en, hw]
      rw [e0, if_neg hw, e1]
      refine ⟨by simp [i1], fun i v hv hn => ?_⟩
      match i, hv with
      | 0, hv => cases hv; rfl
      | i + 1, hv => exact i2 i v hv hn
theorem sm_L_entry {ad : Nat → Nat} {a : List Value} {n : Nat} (h : (ev_en a).length ≤ n) : sm_L ((lg_sl (a.map (sm_cv ad)) ++ List.replicate (n - (lg_sl (a.map (sm_cv ad))).length) Slot.unset).toArray) n ad (ev_entry a n) := by
  obtain ⟨i1, i2⟩ := sm_en_get (ad := ad) a
  have he := lv_entry (a.map (sm_cv ad)) (n := n) (by rw [i1]; exact h)
  refine ⟨he.1, he.2.1, ?_, fun i v hv hn => ?_⟩
  · simp only [ev_entry, List.length_append, List.length_replicate]
    omega
  · unfold ev_entry at hv
    by_cases hi : i < (ev_en a).length
    · rw [List.getElem?_append_left hi] at hv
      rw [List.getElem?_toArray, List.getElem?_append_left (by rw [i1]; exact hi)]
      exact i2 i v hv hn
    · rw [List.getElem?_append_right (by omega), List.getElem?_replicate] at hv
      split at hv
      · cases hv; exact absurd rfl hn
      · cases hv
set_option maxHeartbeats 4000000 in
/-- a method's contract, out of a run of the interpreter -/
theorem sm_met {l : Launch} {d : Nat} {f : ev_M → Nat → List Value → List Value → hp_H → ev_Re} (hT : sm_T l f d) {M : ev_M} {a : List Value} {h h1 : hp_H} {v : Option Value} {L : Nat} {xs : Nat → Int32} (hev : f M 0 (ev_entry a (mX M)) [] h = some (v, h1)) (hM : ev_mok M) (hv : v ≠ some .null) (ha : (ev_en a).length ≤ mX M) (ho : hp_ok h) (hsc : sm_sc h L xs) (D : va_G) (cA : Nat → ClassId) (ad : Nat → Nat) (sz : Nat) :
    Met l (mY M) (wM (mY M) (mC M) (mX M) (mR M)) (sm_rm d (hp_dc h h1) (hp_ds h h1)) (sm_Pc D cA L xs ad h sz a) (sm_Qc D cA L xs ad h sz v h1) (hp_dc h h1) (hp_ds h h1) (va_A (sm_w cA ad h) sz) := by
  obtain ⟨m1, m2, m3, m4, m5, m6, m7, m8⟩ := hM
  refine Met.ofW (cc := mC M) (maxL := mX M) (ret := mR M) m3 rfl ?_
  intro p e s m args below meth c s₁ B hml hpc
  obtain ⟨rfl, hsz, hP, hK, hD0, hSt⟩ := hpc
  subst hsz
  have hx := B.exec
  have hb := B.bytes
  have hr := B.returns
  have hts0 := atoms_spec (ws := wM (mY M) (mC M) (mX M) (mR M)) B.pre
  have hown : s.vm.findClass (ev_on (mO M)) = some m.cls := by rw [← m7]; exact findClass_of_methodNamed B.named
  have hlocks := B.notSynchronized
  have hin : meth.name = (mY M).name := (name_of_methodNamed B.named B.method).1
  rw [lg_entry_eq]
  have hF : sm_Fx p s m ((a.map (sm_cv ad)).toArray) meth c M D cA (va_A (sm_w cA ad h) s.heap.size) := ⟨hx, hb, hml, hown, fun w hw => hts0 w (List.mem_cons_of_mem _ hw), hin, hK, fun q hq => Or.inr hq⟩
  have hH : sm_Hx s D cA (va_A (sm_w cA ad h) s.heap.size) L xs ad h s.heap [] := ⟨hP, hD0.self, va_S.rf, ho, hsc, hSt⟩
  refine hT M 0 _ [] h v h1 hev p e _ s m _ below meth c s.heap [] 0 0 _ D cA _ L xs ad _ hF (sm_L_entry ha) hH (Nat.le_refl _) (Nat.le_refl _) (by rw [Nat.zero_add]; exact Nat.le_refl _) (by rw [Nat.zero_add]; exact Nat.le_refl _) (fun ad' als' H' locs' pc' st' e1 e2 e2b e3 => ?_)
  rw [Nat.zero_add, Nat.zero_add]
  obtain ⟨p1, p2, p3, p4, p5, p6⟩ := e2
  have hq : ∀ t : State, t.heap = H' → sm_Qb D cA L xs ad h s.heap.size h1 s t := fun t ht => ⟨⟨ad', e1, by rw [ht]; exact p1, p2⟩, ⟨p4, p5⟩, p3.F ht⟩
  unfold sm_end at e3
  split at e3
  · obtain ⟨q1, rfl, q3⟩ := e3
    exact W.vret hx hb (hr.trans q3) (fun t ht _ => ⟨rfl, hq t ht⟩) (fun q hq => p3.2.2 q hq) q1
  · obtain ⟨q1, rfl, ty, q3, q4⟩ := e3
    exact W.zret hx hb (hr.trans q3) q4 (fun t ht _ => ⟨rfl, hq t ht⟩) (fun q hq => p3.2.2 q hq) q1
  · obtain ⟨q1, rfl, q3⟩ := e3
    exact W.lret hx hb (hr.trans q3) (fun t ht _ => ⟨rfl, hq t ht⟩) (fun q hq => p3.2.2 q hq) q1
  · exact absurd rfl hv
  · exact e3.elim
