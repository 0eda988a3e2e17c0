/-! Routes: what both come to. -/
def rQ (n : Nat) (a b : rA) : Prop := a.1 = b.1 ∧ (a.1 = 0 ∨ (a.2.1 = b.2.1 ∧ ∀ i, i < n → a.2.2 i = b.2.2 i))
theorem setR_Q {n : Nat} {a b : rA} {row : Nat → Nat} {miss : Int64} (h : rQ n a b) : rQ n (setR n row miss a) (setR n row miss b) := by
  obtain ⟨h1, h2⟩ := h
  unfold setR
  by_cases c : a.1 = 0
  · rw [if_pos (Or.inl c), if_pos (Or.inl (h1.symm.trans c))]
    exact ⟨by rw [h1], Or.inr ⟨rfl, fun i hi => by simp only [hi, ↓reduceIte]⟩⟩
  · have h2 := h2.resolve_left c
    have c' : ¬ b.1 = 0 := fun z => c (h1.trans z)
    by_cases e : miss < a.2.1
    · rw [if_pos (Or.inr e), if_pos (Or.inr (by rw [← h2.1]; exact e))]
      exact ⟨by rw [h1], Or.inr ⟨rfl, fun i hi => by simp only [hi, ↓reduceIte]⟩⟩
    · rw [if_neg (fun z => z.elim c e), if_neg (fun z => z.elim c' (by rw [← h2.1]; exact e))]
      exact ⟨by simp only [h1], Or.inr h2⟩
theorem rt_Q {D : oD} {s : Nat → Int32} {n : Nat} : ∀ d k u h miss (row : Nat → Nat) (a b : rA), rQ n a b → rQ n (rtS D s n d k u h miss row a) (rtS D s n d k u h miss row b)
  | 0, _, _, _, _, _, _, _, q => setR_Q q
  | d + 1, k, u, h, miss, row, a, b, q => by
    rw [rtS, rtS]
    have : ∀ m j a b, rQ n a b → rQ n (gN (fun w a => if rcB D s k u h w = true then rtS D s n d (k + 1) (u ||| bit w) (hN D w) (miss * (powS D 100 - chS D s k w)) (upN row k w) a else a) j m a) (gN (fun w a => if rcB D s k u h w = true then rtS D s n d (k + 1) (u ||| bit w) (hN D w) (miss * (powS D 100 - chS D s k w)) (upN row k w) a else a) j m b) := by
      intro m
      induction m with
      | zero => intro j a b q; exact q
      | succ m ih =>
        intro j a b q
        rw [gN, gN]
        refine ih (j + 1) _ _ ?_
        split
        · exact rt_Q d _ _ _ _ _ _ _ q
        · exact q
    exact this _ _ _ _ q
theorem rout_Q {D : oD} {s : Nat → Int32} {n : Nat} (l l' : Int64) (f f' : Nat → Int32) : rQ n (rout0 D s n l f) (rout0 D s n l' f') := rt_Q _ _ _ _ _ _ _ _ ⟨rfl, Or.inl rfl⟩
def rOK (D : oD) (s : Nat → Int32) (n B : Nat) (a : rA) : Prop := ∃ c, c ≤ B ∧ a.1 = nI c ∧ (c = 0 ∨ ((∃ m, m ≤ wN D n ∧ a.2.1 = lN m) ∧ ∀ i, i < n → ∃ w, w < dN D 2 ∧ triB s (nI w) = 0 ∧ a.2.2 i = nI w))
theorem setR_OK {D : oD} {s : Nat → Int32} {n B m : Nat} {row : Nat → Nat} {a : rA} (hm : m ≤ wN D n) (hr : ∀ i, i < n → row i < dN D 2 ∧ triB s (nI (row i)) = 0) (h : rOK D s n B a) : rOK D s n (B + 1) (setR n row (lN m) a) := by
  obtain ⟨c, hc, e, q⟩ := h
  unfold setR
  by_cases z : a.1 = 0 ∨ lN m < a.2.1
  · rw [if_pos z]
    refine ⟨c + 1, by omega, by simp only [e, nI_1], Or.inr ⟨⟨m, hm, rfl⟩, fun i hi => ⟨row i, (hr i hi).1, (hr i hi).2, by simp only [hi, ↓reduceIte]⟩⟩⟩
  · rw [if_neg z]
    refine ⟨c + 1, by omega, by simp only [e, nI_1], Or.inr ?_⟩
    refine q.resolve_left (fun c0 => z (Or.inl ?_))
    rw [e, c0]
    rfl
theorem rc_t {D : oD} {s : Nat → Int32} {k h w : Nat} {u : Int32} (z : rcB D s k u h w = true) : triB s (nI w) = 0 := by
  simp [rcB] at z
  exact z.1.1.1
theorem rt_OK {D : oD} {s : Nat → Int32} {n : Nat} (hW : WF D) : ∀ d k u h m (row : Nat → Nat) (a : rA) B, k + d = n → m ≤ wN D k → (∀ i, i < k → row i < dN D 2 ∧ triB s (nI (row i)) = 0) → rOK D s n B a → rOK D s n (B + 8 ^ d) (rtS D s n d k u h (lN m) row a)
  | 0, k, u, h, m, row, a, B, hk, hm, hr, q => setR_OK (by rw [← hk]; exact hm) (fun i hi => hr i (by omega)) q
  | d + 1, k, u, h, m, row, a, B, hk, hm, hr, q => by
    rw [rtS]
    have b2 := hW.c.2.2.2.1
    have : ∀ m' j (a : rA) B, j + m' ≤ dN D 2 → rOK D s n B a → rOK D s n (B + m' * 8 ^ d) (gN (fun w a => if rcB D s k u h w = true then rtS D s n d (k + 1) (u ||| bit w) (hN D w) (lN m * (powS D 100 - chS D s k w)) (upN row k w) a else a) j m' a) := by
      intro m'
      induction m' with
      | zero => intro j a B _ q; rw [Nat.zero_mul]; exact q
      | succ m' ih =>
        intro j a B hj q
        rw [gN, Nat.succ_mul, Nat.add_comm (m' * 8 ^ d), ← Nat.add_assoc]
        refine ih (j + 1) _ (B + 8 ^ d) (by omega) ?_
        split
        · rename_i z
          have t0 := rc_t z
          have l9 : loveN D j (lan s k * D 0 0) ≤ 100 := by
            have := (love_n hW (show j < dN D 2 by omega) (lan s k * D 0 0)).2
            omega
          rw [ch_eq t0, pow_love hW (by omega), pow_100' hW, lN_sub (Nat.pow_le_pow_left l9 _), lN_mul]
          refine rt_OK hW d (k + 1) _ _ _ _ _ _ (by omega) ?_ ?_ q
          · unfold wN at hm ⊢
            rw [Nat.pow_succ]
            exact Nat.mul_le_mul hm (Nat.sub_le _ _)
          · intro i hi
            unfold upN
            split
            · exact ⟨by omega, t0⟩
            · exact hr i (by omega)
        · obtain ⟨c, hc, e⟩ := q
          exact ⟨c, Nat.le_trans hc (Nat.le_add_right _ _), e⟩
    have h8 := this (dN D 2) 0 a B (by omega) q
    obtain ⟨c, hc, e⟩ := h8
    refine ⟨c, Nat.le_trans hc (Nat.add_le_add_left ?_ _), e⟩
    rw [Nat.pow_succ, Nat.mul_comm (8 ^ d)]
    exact Nat.mul_le_mul_right _ b2
theorem rout_OK {D : oD} {s : Nat → Int32} {n : Nat} (hW : WF D) (hn : n ≤ 3) (l : Int64) (f : Nat → Int32) : rOK D s n 512 (rout0 D s n l f) := by
  have h := rt_OK (s := s) (n := n) hW n 0 0 (s 1).toNatClampNeg 1 (fun _ => 0) (0, l, f) 0 (by omega) (by unfold wN; simp) (fun i hi => absurd hi (by omega)) ⟨0, Nat.le_refl _, rfl, Or.inl rfl⟩
  obtain ⟨c, hc, e⟩ := h
  refine ⟨c, Nat.le_trans hc ?_, e⟩
  rw [Nat.zero_add]
  exact Nat.le_trans (Nat.pow_le_pow_right (by omega) hn) (by decide)
theorem rout_z {D : oD} {s : Nat → Int32} {n : Nat} (hW : WF D) (hn : n ≤ 3) (l : Int64) (f : Nat → Int32) : (rout0 D s n l f).1 = 0 ↔ (rout0 D s n l f).1 ≤ 0 := by
  obtain ⟨c, hc, e, -⟩ := rout_OK (s := s) hW hn l f
  rw [e]
  constructor
  · intro z
    rw [z]
    decide
  · intro z
    by_cases c0 : c = 0
    · rw [c0]
      rfl
    · exact absurd z (nI_nle (by omega) (by omega))
theorem rout_b {D : oD} {s : Nat → Int32} {n : Nat} (hW : WF D) (hn : n ≤ 3) {l : Int64} {f : Nat → Int32} (hz : ¬ (rout0 D s n l f).1 = 0) : (∃ m, m ≤ wN D n ∧ (rout0 D s n l f).2.1 = lN m) ∧ ∀ i, i < n → ∃ w, w < dN D 2 ∧ triB s (nI w) = 0 ∧ (rout0 D s n l f).2.2 i = nI w := by
  obtain ⟨c, hc, e, q⟩ := rout_OK (s := s) hW hn l f
  refine q.resolve_left (fun c0 => hz ?_)
  rw [e, c0]
  rfl
theorem low_0 {d : Nat} {b : Int32} (h : 0 < d) : lowS 0 d b = lowS 0 1 b := by
  unfold lowS lowV
  rw [Nat.gcd_zero_right, Nat.gcd_zero_right]
  by_cases c : b = 0
  · simp [c]
  · simp [c, Nat.div_self h]
theorem sum_eq {D : oD} {s : Nat → Int32} {n : Nat} {b b' : Nat → Int32} (hW : WF D) (hb : ∀ i, i < n → ∃ w, w < dN D 2 ∧ triB s (nI w) = 0 ∧ b i = nI w) (he : ∀ i, i < n → b i = b' i) (hn : n ≤ 3) : gN (sumM D s b') 0 n 0 = gN (sumF D s b) 0 n 0 ∧ ∃ u, gN (sumF D s b) 0 n 0 = lN u ∧ u < 2 ^ 63 := by
  have b2 := hW.c.2.2.2.1
  have hs : ∀ i, i < n → ∃ w, w < dN D 2 ∧ triB s (nI w) = 0 ∧ (b i).toNatClampNeg = w := by
    intro i hi
    obtain ⟨w, h1, h2, h3⟩ := hb i hi
    exact ⟨w, h1, h2, by rw [h3, nI_cl (by omega)]⟩
  constructor
  · refine gN_c (fun k a _ h2 => ?_)
    obtain ⟨w, h1, h3, h4⟩ := hs k (by omega)
    unfold sumM sumF
    rw [← he k (by omega), h4, ch_eq h3]
  · have : ∀ m j x, j + m = n → ∃ u, gN (sumF D s b) j m (lN x) = lN u ∧ u ≤ x + m * 1000000 := by
      intro m
      induction m with
      | zero => intro j x _; exact ⟨x, rfl, by omega⟩
      | succ m ih =>
        intro j x hj
        obtain ⟨w, h1, h3, h4⟩ := hs j (by omega)
        have l9 := (love_n hW h1 (lan s j * D 0 0)).2
        have := pow_lt hW.t (show loveN D w (lan s j * D 0 0) ≤ 100 by omega)
        rw [gN]
        unfold sumF
        rw [h4, ch_eq h3, pow_love hW h1, lN_add]
        obtain ⟨u, hu, hu2⟩ := ih (j + 1) (x + loveN D w (lan s j * D 0 0) ^ tN D) (by omega)
        exact ⟨u, hu, by omega⟩
    obtain ⟨u, hu, hu2⟩ := this n 0 0 (by omega)
    exact ⟨u, hu, by omega⟩
