/-! How far harbours are apart. -/
def canS (D : oD) (a : Nat) (b : Int32) : Int32 := if (reachS D a >>> (b &&& 31)) &&& 1 = 0 then 0 else 1
theorem can01 {D : oD} {a : Nat} {b : Int32} : canS D a b = 0 ∨ canS D a b = 1 := if01 z0 z1
theorem tb_reach {D : oD} {a j : Nat} (ha : a < 32) (hj : j < 32) : tb (reachS D a) j = (tb (D 5 a) j || decide (a = j)) := by
  unfold reachS
  rw [tb_or, tb_bit ha hj]
theorem can_eq {D : oD} {a b : Nat} (ha : a < 32) (hb : b < 32) : canS D a (nI b) = if nI a = nI b then 1 else hbS (D 5 a) (nI b) := by
  unfold canS
  rw [hb_tb hb, tb_at hb, tb_reach ha hb]
  by_cases c : a = b
  · subst c
    simp
  · have : ¬ nI a = nI b := fun e => c ((nI_eq (by omega) (by omega)).mp e)
    simp only [this, c, decide_false, Bool.or_false, ↓reduceIte]
    cases tb (D 5 a) b <;> decide
def stepM (D : oD) (s : Int32) : Int32 := gN (fun k a => a ||| (if hbS s (nI k) = 0 then 0 else D 5 k)) 0 (dN D 0) s
def inH (D : oD) (s : Int32) : Prop := ∀ j, dN D 0 ≤ j → j < 32 → tb s j = false
theorem any_r {p : Nat → Bool} {n : Nat} : (List.range' 0 n).any p = true ↔ ∃ k, k < n ∧ p k = true := by
  rw [List.any_eq_true]
  constructor
  · rintro ⟨k, h1, h2⟩
    rw [List.mem_range'_1] at h1
    exact ⟨k, by omega, h2⟩
  · rintro ⟨k, h1, h2⟩
    exact ⟨k, by rw [List.mem_range'_1]; omega, h2⟩
theorem tb_all {D : oD} {s : Int32} {i : Nat} (hD : WFc D) (hi : i < 32) : tb (reachAllS D s) i = true ↔ ∃ k, k < dN D 0 ∧ tb s k = true ∧ (tb (D 5 k) i = true ∨ k = i) := by
  have b0 := hD.2.1
  have e : ∀ m j x, j + m ≤ 6 → tb (gN (fun h a => if (s >>> (nI h &&& 31)) &&& 1 = 0 then a else a ||| reachS D h) j m x) i = (tb x i || (List.range' j m).any (fun k => tb s k && (tb (D 5 k) i || decide (k = i)))) := by
    intro m
    induction m with
    | zero => intro j x _; simp [gN]
    | succ m ih =>
      intro j x hj
      rw [gN, ih (j + 1) _ (by omega), List.range'_succ, List.any_cons, ← Bool.or_assoc]
      congr 1
      by_cases c : tb s j = false
      · rw [if_pos ((tb_0 (by omega)).mpr c), c]
        simp
      · rw [if_neg (fun z => c ((tb_0 (by omega)).mp z)), tb_or, tb_reach (by omega) hi]
        simp [show tb s j = true by simpa using c]
  unfold reachAllS
  rw [e _ _ _ (by omega), tb_z, Bool.false_or, any_r]
  simp [and_assoc]
theorem tb_step {D : oD} {s : Int32} {i : Nat} (hD : WFc D) (hi : i < 32) : tb (stepM D s) i = true ↔ tb s i = true ∨ ∃ k, k < dN D 0 ∧ tb s k = true ∧ tb (D 5 k) i = true := by
  have b0 := hD.2.1
  have e : ∀ m j x, j + m ≤ 6 → tb (gN (fun k a => a ||| (if hbS s (nI k) = 0 then 0 else D 5 k)) j m x) i = (tb x i || (List.range' j m).any (fun k => tb s k && tb (D 5 k) i)) := by
    intro m
    induction m with
    | zero => intro j x _; simp [gN]
    | succ m ih =>
      intro j x hj
      rw [gN, ih (j + 1) _ (by omega), List.range'_succ, List.any_cons, ← Bool.or_assoc]
      congr 1
      rw [hb_tb (by omega), tb_or]
      cases tb s j
      · simp [tb_z]
      · simp
  unfold stepM
  rw [e _ _ _ (by omega), Bool.or_eq_true, any_r]
  simp
theorem step_eq {D : oD} {s : Int32} (hD : WFc D) (hs : inH D s) : stepM D s = reachAllS D s := by
  apply tb_ext
  intro i hi
  have : tb (stepM D s) i = true ↔ tb (reachAllS D s) i = true := by
    rw [tb_step hD hi, tb_all hD hi]
    constructor
    · rintro (h | ⟨k, h1, h2, h3⟩)
      · refine ⟨i, ?_, h, Or.inr rfl⟩
        by_cases c : i < dN D 0
        · exact c
        · rw [hs i (by omega) hi] at h
          cases h
      · exact ⟨k, h1, h2, Or.inl h3⟩
    · rintro ⟨k, h1, h2, h3 | rfl⟩
      · exact Or.inr ⟨k, h1, h2, h3⟩
      · exact Or.inl h2
  cases h1 : tb (stepM D s) i <;> cases h2 : tb (reachAllS D s) i <;> simp_all
theorem shores_in {D : oD} (hW : WF D) {k : Nat} (hk : k < 6) : inH D (D 5 k) := by
  intro j h1 h2
  obtain ⟨n, hn, e⟩ := hW.q.2.1 k hk
  rw [e]
  exact tb_lt hn h1 h2
theorem all_in {D : oD} {s : Int32} (hW : WF D) : inH D (reachAllS D s) := by
  intro j h1 h2
  have b0 := hW.c.2.1
  by_cases c : tb (reachAllS D s) j = true
  · rw [tb_all hW.c h2] at c
    obtain ⟨k, h3, h4, h5 | rfl⟩ := c
    · rw [shores_in hW (by omega) j h1 h2] at h5
      cases h5
    · omega
  · simpa using c
theorem all_up {D : oD} {s : Int32} (hD : WFc D) (hs : inH D s) {i : Nat} (hi : i < 32) (h : tb s i = true) : tb (reachAllS D s) i = true := by
  rw [tb_all hD hi]
  refine ⟨i, ?_, h, Or.inr rfl⟩
  by_cases c : i < dN D 0
  · exact c
  · rw [hs i (by omega) hi] at h
    cases h
def cnt (s : Int32) : Nat := (tb s 0).toNat + (tb s 1).toNat + (tb s 2).toNat + (tb s 3).toNat + (tb s 4).toNat + (tb s 5).toNat
theorem cnt_lt {D : oD} {s : Int32} (hW : WF D) (hs : inH D s) (hn : reachAllS D s ≠ s) : cnt s < cnt (reachAllS D s) := by
  have b0 := hW.c.2.1
  have u : ∀ i, i < 32 → (tb s i).toNat ≤ (tb (reachAllS D s) i).toNat := by
    intro i hi
    cases h : tb s i
    · simp
    · rw [all_up hW.c hs hi h]
      simp
  by_cases c : cnt s < cnt (reachAllS D s)
  · exact c
  · exfalso
    apply hn
    apply tb_ext
    have e : ∀ i, i < 6 → (tb (reachAllS D s) i).toNat = (tb s i).toNat := by
      have u0 := u 0 (by omega)
      have u1 := u 1 (by omega)
      have u2 := u 2 (by omega)
      have u3 := u 3 (by omega)
      have u4 := u 4 (by omega)
      have u5 := u 5 (by omega)
      unfold cnt at c
      intro i hi
      rcases (show i = 0 ∨ i = 1 ∨ i = 2 ∨ i = 3 ∨ i = 4 ∨ i = 5 by omega) with rfl | rfl | rfl | rfl | rfl | rfl <;> omega
    intro j hj
    by_cases c6 : j < 6
    · have := e j c6
      cases h1 : tb s j <;> cases h2 : tb (reachAllS D s) j <;> simp_all
    · rw [hs j (by omega) hj, all_in hW j (by omega) hj]
theorem cnt_le {D : oD} {s : Int32} (hD : WFc D) (hs : inH D s) : cnt s ≤ dN D 0 := by
  have b0 := hD.2.1
  have u : ∀ i, i < 32 → (tb s i).toNat ≤ 1 := fun i _ => by cases tb s i <;> simp
  have v : ∀ i, dN D 0 ≤ i → i < 32 → (tb s i).toNat = 0 := fun i h1 h2 => by rw [hs i h1 h2]; rfl
  have u0 := u 0 (by omega)
  have u1 := u 1 (by omega)
  have u2 := u 2 (by omega)
  have u3 := u 3 (by omega)
  have u4 := u 4 (by omega)
  have u5 := u 5 (by omega)
  unfold cnt
  rcases (show dN D 0 = 0 ∨ dN D 0 = 1 ∨ dN D 0 = 2 ∨ dN D 0 = 3 ∨ dN D 0 = 4 ∨ dN D 0 = 5 ∨ dN D 0 = 6 by omega) with e | e | e | e | e | e | e
  · rw [v 0 (by omega) (by omega), v 1 (by omega) (by omega), v 2 (by omega) (by omega), v 3 (by omega) (by omega), v 4 (by omega) (by omega), v 5 (by omega) (by omega)]; omega
  · rw [v 1 (by omega) (by omega), v 2 (by omega) (by omega), v 3 (by omega) (by omega), v 4 (by omega) (by omega), v 5 (by omega) (by omega)]; omega
  · rw [v 2 (by omega) (by omega), v 3 (by omega) (by omega), v 4 (by omega) (by omega), v 5 (by omega) (by omega)]; omega
  · rw [v 3 (by omega) (by omega), v 4 (by omega) (by omega), v 5 (by omega) (by omega)]; omega
  · rw [v 4 (by omega) (by omega), v 5 (by omega) (by omega)]; omega
  · rw [v 5 (by omega) (by omega)]; omega
  · omega
theorem apart_stay {D : oD} {b : Int32} {s : Int32} (hs : reachAllS D s = s) (h : (s >>> (b &&& 31)) &&& 1 = 0) : ∀ m j, apartG D b j m s = -2
  | 0, _ => rfl
  | m + 1, j => by
    rw [apartG, if_pos h, hs]
    exact apart_stay hs h m (j + 1)
theorem nI_m2 {j : Nat} (h : j < 1000) : ¬ nI j = -2 := by
  intro e
  have := congrArg Int32.toInt e
  rw [nI_toInt (by omega)] at this
  have e2 : (-2 : Int32).toInt = -2 := by decide
  omega
theorem apart_end {D : oD} {b : Int32} (hW : WF D) : ∀ m j s, inH D s → dN D 0 + 1 ≤ cnt s + m → j + m < 100 → apartG D b j m s = -2 → ∀ m' j', apartG D b j' m' s = -2
  | 0, j, s, hs, hm, _, _ => by
    have := cnt_le hW.c hs
    omega
  | m + 1, j, s, hs, hm, hj, h => by
    intro m' j'
    rw [apartG] at h
    by_cases c : (s >>> (b &&& 31)) &&& 1 = 0
    · rw [if_pos c] at h
      by_cases e : reachAllS D s = s
      · exact apart_stay e c m' j'
      · have := cnt_lt hW hs e
        have ih := apart_end hW m (j + 1) (reachAllS D s) (all_in hW) (by omega) (by omega) h
        cases m' with
        | zero => rfl
        | succ m' =>
          rw [apartG, if_pos c]
          exact ih m' (j' + 1)
    · rw [if_neg c] at h
      exact absurd h (nI_m2 (by omega))
theorem apart_ext {D : oD} {b : Int32} : ∀ m d j s, apartG D b j m s = -2 ∨ apartG D b j (m + d) s = apartG D b j m s
  | 0, _, _, _ => Or.inl rfl
  | m + 1, d, j, s => by
    rw [show m + 1 + d = (m + d) + 1 by omega, apartG, apartG]
    by_cases c : (s >>> (b &&& 31)) &&& 1 = 0
    · rw [if_pos c, if_pos c]
      exact apart_ext m d (j + 1) _
    · rw [if_neg c, if_neg c]
      exact Or.inr rfl
theorem cnt_bit : ∀ a, a < 6 → cnt (bit a) = 1 := by decide +kernel
theorem bit_in {D : oD} {a : Nat} (ha : a < dN D 0) (hD : WFc D) : inH D (bit a) := by
  intro j h1 h2
  have b0 := hD.2.1
  rw [tb_bit (by omega) h2, decide_eq_false_iff_not]
  omega
theorem apart_6 {D : oD} {a : Nat} {b : Int32} (hW : WF D) (ha : a < dN D 0) : apartG D b 0 6 (bit a) = apartS D a b := by
  have b0 := hW.c.2.1
  unfold apartS
  rcases apart_ext (D := D) (b := b) (dN D 0) (6 - dN D 0) 0 (bit a) with h | h
  · rw [h]
    exact apart_end hW (dN D 0) 0 (bit a) (bit_in ha hW.c) (by rw [cnt_bit a (by omega)]; omega) (by omega) h 6 0
  · rw [← h, show dN D 0 + (6 - dN D 0) = 6 by omega]
def apartM (D : oD) (b : Int32) : Nat → Nat → Int32 → Int32
  | _, 0, _ => -2
  | j, m + 1, s => if hbS s b = 0 then apartM D b (j + 1) m (stepM D s) else nI j
theorem apartM_eq {D : oD} {b : Nat} (hW : WF D) (hb : b < 32) : ∀ m j s, inH D s → apartM D (nI b) j m s = apartG D (nI b) j m s
  | 0, _, _, _ => rfl
  | m + 1, j, s, hs => by
    rw [apartM, apartG, hb_tb hb, tb_at hb]
    cases tb s b
    · simp only [Bool.false_eq_true, ↓reduceIte]
      rw [step_eq hW.c hs]
      exact apartM_eq hW hb m (j + 1) _ (all_in hW)
    · simp
theorem apart_eq {D : oD} {a b : Nat} (hW : WF D) (ha : a < dN D 0) (hb : b < 32) : apartM D (nI b) 0 6 (bit a) = apartS D a (nI b) := (apartM_eq hW hb 6 0 _ (bit_in ha hW.c)).trans (apart_6 hW ha)
/-- apart or not at all -/
theorem apartG_of {D : oD} {b : Int32} : ∀ m j s, apartG D b j m s = -2 ∨ ∃ n, j ≤ n ∧ n < j + m ∧ apartG D b j m s = nI n
  | 0, _, _ => Or.inl rfl
  | m + 1, j, s => by
    rw [apartG]
    by_cases c : (s >>> (b &&& 31)) &&& 1 = 0
    · rw [if_pos c]
      rcases apartG_of m (j + 1) (reachAllS D s) with h | ⟨n, h1, h2, h3⟩
      · exact Or.inl h
      · exact Or.inr ⟨n, by omega, by omega, h3⟩
    · rw [if_neg c]
      exact Or.inr ⟨j, by omega, by omega, rfl⟩
