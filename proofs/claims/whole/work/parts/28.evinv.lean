/-! The interpreter's step, taken apart. -/
def sm_end (M : ev_M) (r : Option Value) (pc : Nat) (st : List Value) : Prop := match r with
  | none => decode (mC M) pc = .ok (.return_, 1) ∧ st = [] ∧ mR M = none
  | some (.int v) => decode (mC M) pc = .ok (.ireturn, 1) ∧ st = [.int v] ∧ ∃ ty, mR M = some ty ∧ narrow ty (.int v) = .int v
  | some (.long v) => decode (mC M) pc = .ok (.lreturn, 1) ∧ st = [.long v] ∧ mR M = some .long
  | some .null => decode (mC M) pc = .ok (.new 379, 3) ∧ st = [] ∧ mO M = 10
  | _ => False
def ev_cL (call rec : ev_M → Nat → List Value → List Value → hp_H → ev_Re) (M : ev_M) (i : Instr) (pc : Nat) (ls st : List Value) (h : hp_H) (r : Option Value) (h' : hp_H) : Prop :=
  ∃ (x k : Nat) (M' : ev_M) (a rr : List Value) (v : Option Value) (h1 : hp_H), ev_isC i = some x ∧ ev_ct (mO M) x = some (k, M') ∧ ev_ck i k = true ∧ st = a.reverse ++ rr ∧ a.length = ev_na M' ∧ ev_rc M' h a = true ∧ (rr.map fun v => v.category).sum ≤ 9 ∧ (ev_en a).length ≤ mX M' ∧
    call M' 0 (ev_entry a (mX M')) [] h = some (v, h1) ∧ v ≠ some .null ∧ (h1.1.2.1 = h.1.2.1 ∨ ev_vs (hp_sh h).length ls rr = true) ∧ rec M (pc + 3) ls (v.toList ++ rr) h1 = some (r, h')
def ev_lL (call2 rec : ev_M → Nat → List Value → List Value → hp_H → ev_Re) (M : ev_M) (i : Instr) (pc : Nat) (ls st : List Value) (h : hp_H) (r : Option Value) (h' : hp_H) : Prop :=
  ∃ (x o k : Nat) (a : Int32) (rr : List Value) (h1 h2 : hp_H) (u : Int32) (v : Option Value), i = .invokestatic x ∧ ev_pr (mO M) x = some 4 ∧ st = .ref o :: .int a :: .ref k :: rr ∧ ev_rc mX11_led h [.ref k, .int a] = true ∧ o < 1000000 ∧ (hp_sh h)[o]? = some (13, 1) ∧ (rr.map fun v => v.category).sum ≤ 9 ∧
    call2 mX11_led 0 (ev_entry [.ref k, .int a] 3) [] h = some (v, h1) ∧ h1.1 = h.1 ∧ ((∃ z : Int32, v = some (.int z) ∧ u = 0 ∧ h2 = hp_sJ h1 o 0 z.toInt64) ∨ (v = some .null ∧ u = 1 ∧ h2 = ((h1.1.1, h1.1.2.1 + 1, h1.1.2.2 + 6), h1.2))) ∧ rec M (pc + 3) ls (.int u :: rr) h2 = some (r, h')
theorem ev_step_inv {call call2 rec : ev_M → Nat → List Value → List Value → hp_H → ev_Re} {M : ev_M} {pc : Nat} {ls st : List Value} {h h' : hp_H} {r : Option Value} (he : ev_step call call2 rec M pc ls st h = some (r, h')) :
    ∃ i len, decode (mC M) pc = .ok (i, len) ∧ ev_lok i len = true ∧ ((∃ pc1 ls1 st1 h1, ev_stp M i pc ls st h = some (pc1, ls1, st1, h1) ∧ rec M pc1 ls1 st1 h1 = some (r, h')) ∨ (sm_end M r pc st ∧ h' = h) ∨ ev_cL call rec M i pc ls st h r h' ∨ ev_lL call2 rec M i pc ls st h r h') := by
  unfold ev_step at he
  split at he
  · cases he
  · rename_i i len hd
    split at he
    · rename_i hl
      refine ⟨i, len, hd, hl, ?_⟩
      split at he
      · rename_i pc1 ls1 st1 h1 hs
        exact Or.inl ⟨_, _, _, _, hs, he⟩
      · refine Or.inr ?_
        split at he
        · rename_i z hz
          cases he
          refine Or.inl ?_
          unfold ev_ret at hz
          split at hz
          · split at hz
            · rename_i ty hty
              split at hz
              · rename_i hn
                cases hz
                have hl1 : len = 1 := by simpa [ev_lok, ev_len] using hl
                subst hl1
                exact ⟨⟨hd, rfl, ty, hty, hn.1⟩, rfl⟩
              · cases hz
            · cases hz
          · split at hz
            · rename_i hn
              cases hz
              have hl1 : len = 1 := by simpa [ev_lok, ev_len] using hl
              subst hl1
              exact ⟨⟨hd, rfl, hn⟩, rfl⟩
            · cases hz
          · split at hz
            · rename_i hn
              cases hz
              have hl1 : len = 1 := by simpa [ev_lok, ev_len] using hl
              subst hl1
              exact ⟨⟨hd, rfl, hn⟩, rfl⟩
            · cases hz
          · rename_i x
            split at hz
            · rename_i hn
              cases hz
              obtain ⟨h1, rfl⟩ := hn
              have hl1 : len = 3 := by simpa [ev_lok, ev_len] using hl
              subst hl1
              exact ⟨⟨hd, rfl, h1⟩, rfl⟩
            · cases hz
          · cases hz
        · refine Or.inr ?_
          unfold ev_cal at he
          split at he
          · rename_i x hx
            split at he
            · rename_i k M' hc
              split at he
              · rename_i hn
                obtain ⟨g1, g2, g3, g4, g5⟩ := hn
                split at he
                · rename_i v h1 hcall
                  split at he
                  · rename_i hv
                    exact Or.inl ⟨x, k, M', (st.take (ev_na M')).reverse, st.drop (ev_na M'), v, h1, hx, hc, g1, by rw [List.reverse_reverse, List.take_append_drop], g2, g3, g4, g5, hcall, hv.1, hv.2, he⟩
                  · cases he
                · cases he
              · cases he
            · refine Or.inr ?_
              unfold ev_led at he
              split at he
              · rename_i x2 o a k rr hp z1 z2
                split at he
                · rename_i hn
                  obtain ⟨g1, g2, g3, g4⟩ := hn
                  have hxx : x2 = x := by simpa [ev_isC] using hx
                  subst hxx
                  split at he
                  · rename_i z h1 hcall
                    split at he
                    · rename_i hz
                      exact ⟨_, o, k, a, rr, h1, _, 0, _, rfl, hp, rfl, g1, g2, g3, g4, hcall, hz.2, Or.inl ⟨z, rfl, rfl, rfl⟩, he⟩
                    · cases he
                  · rename_i h1 hcall
                    split at he
                    · rename_i hz
                      exact ⟨_, o, k, a, rr, h1, _, 1, _, rfl, hp, rfl, g1, g2, g3, g4, hcall, hz, Or.inr ⟨rfl, rfl, rfl⟩, he⟩
                    · cases he
                  · cases he
                · cases he
              · cases he
          · cases he
    · cases he
/-- of the results, and of what is counted -/
def ev_Lq (r : Option Value) (h h' : hp_H) : Prop := hp_le h h' ∧ ∀ q, r ≠ some (.ref q)
theorem sm_end_q {M : ev_M} {r : Option Value} {pc : Nat} {st : List Value} (h : sm_end M r pc st) : ∀ q, r ≠ some (.ref q) := by
  intro q e
  subst e
  exact h
theorem ev_Lstep {call call2 rec : ev_M → Nat → List Value → List Value → hp_H → ev_Re} (hc : ∀ M pc ls st h r h', call M pc ls st h = some (r, h') → ev_Lq r h h') (hc2 : ∀ M pc ls st h r h', call2 M pc ls st h = some (r, h') → ev_Lq r h h') (hr : ∀ M pc ls st h r h', rec M pc ls st h = some (r, h') → ev_Lq r h h') :
    ∀ M pc ls st h r h', ev_step call call2 rec M pc ls st h = some (r, h') → ev_Lq r h h' := by
  intro M pc ls st h r h' he
  obtain ⟨i, len, hd, hl, q | q | q | q⟩ := ev_step_inv he
  · obtain ⟨pc1, ls1, st1, h1, q1, q2⟩ := q
    have q3 := hr _ _ _ _ _ _ _ q2
    exact ⟨(ev_stp_h q1).tr q3.1, q3.2⟩
  · obtain ⟨q1, rfl⟩ := q
    exact ⟨hp_le.rf, sm_end_q q1⟩
  · obtain ⟨x, k, M', a, rr, v, h1, -, -, -, -, -, -, -, -, q1, -, -, q2⟩ := q
    have q3 := hr _ _ _ _ _ _ _ q2
    exact ⟨(hc _ _ _ _ _ _ _ q1).1.tr q3.1, q3.2⟩
  · obtain ⟨x, o, k, a, rr, h1, h2, u, v, -, -, -, -, -, -, -, q1, q0, q2, q4⟩ := q
    have q3 := hr _ _ _ _ _ _ _ q4
    refine ⟨((hc2 _ _ _ _ _ _ _ q1).1.tr ?_).tr q3.1, q3.2⟩
    rcases q2 with ⟨z, -, -, rfl⟩ | ⟨-, -, rfl⟩
    · exact hp_le.eq rfl
    · exact ⟨Nat.le_succ _, Nat.le_add_right _ _, Nat.le_refl _⟩
theorem ev_L : ∀ n d M pc ls st h r h', ev d n M pc ls st h = some (r, h') → ev_Lq r h h'
  | 0, d, _, _, _, _, _, _, _, he => by simp [ev] at he
  | n + 1, 0, M, pc, ls, st, h, r, h', he => ev_Lstep (call := fun _ _ _ _ _ => none) (call2 := fun _ _ _ _ _ => none) (rec := ev 0 n) (fun _ _ _ _ _ _ _ q => by cases q) (fun _ _ _ _ _ _ _ q => by cases q) (ev_L n 0) M pc ls st h r h' he
  | n + 1, 1, M, pc, ls, st, h, r, h', he => ev_Lstep (call := ev 0 n) (call2 := fun _ _ _ _ _ => none) (rec := ev 1 n) (ev_L n 0) (fun _ _ _ _ _ _ _ q => by cases q) (ev_L n 1) M pc ls st h r h' he
  | n + 1, d + 2, M, pc, ls, st, h, r, h', he => ev_Lstep (call := ev (d + 1) n) (call2 := ev d n) (rec := ev (d + 2) n) (ev_L n (d + 1)) (ev_L n d) (ev_L n (d + 2)) M pc ls st h r h' he
