/-! What a reading keeps. -/
theorem tk_of {T : Nat → Nat} {n w lo hi : Nat} {S : pZ} (h : zF (pTk T n w lo hi S) = 0) : ∃ v, lo ≤ v ∧ v ≤ hi ∧ pTk T n w lo hi S = pVl v (pAv T n (pAv T n S)) := by
  unfold pTk at h ⊢
  split at h
  · rename_i h1
    rw [if_pos h1]
    split at h
    · rename_i h2
      rw [if_pos h2]
      split at h
      · rename_i h3
        rw [if_pos h3]
        exact ⟨_, h3.1, h3.2, rfl⟩
      · exact absurd h (by show ¬ (4 : Nat) = 0; decide)
    · exact absurd h (by show ¬ (1 : Nat) = 0; decide)
  · exact absurd h (by show ¬ (1 : Nat) = 0; decide)
theorem nw_of {T : Nat → Nat} {n so row : Nat} {S : pZ} (h : zF (pNw T n so row S) = 0) : isNm T n (zP S) ∧ zK T n S = none ∧ pNw T n so row S = pAv T n (pAd T n so row S) := by
  unfold pNw at h ⊢
  split at h
  · rename_i h1
    rw [if_pos h1]
    split at h
    · exact absurd h (by show ¬ (3 : Nat) = 0; decide)
    · rename_i h2
      rw [h2]
      exact ⟨h1, rfl, rfl⟩
  · exact absurd h (by show ¬ (1 : Nat) = 0; decide)
theorem fn_of {T : Nat → Nat} {n so : Nat} {S : pZ} (h : zF (pFn T n so S) = 0) : isNm T n (zP S) ∧ ∃ i, zK T n S = some i ∧ i < zC S ∧ (zN S i).2.2.1 = so ∧ pFn T n so S = pVl (zN S i).2.2.2 S := by
  unfold pFn at h ⊢
  split at h
  · rename_i h1
    rw [if_pos h1]
    split at h
    · rename_i i h2
      split at h
      · rename_i h3
        rw [h2]
        refine ⟨h1, i, rfl, ?_, h3, by simp only [h3, ↓reduceIte]⟩
        have := (fnd_lt _ _ _ h2).2.1
        omega
      · exact absurd h (by show ¬ (2 : Nat) = 0; decide)
    · exact absurd h (by show ¬ (2 : Nat) = 0; decide)
  · exact absurd h (by show ¬ (1 : Nat) = 0; decide)
theorem fnd_none {T : Nat → Nat} {nm : Nat → Nat × Nat × Nat × Nat} {x : Nat} : ∀ m j, fnd T nm x m j = none → ∀ i, j ≤ i → i < j + m → ¬ pkw T (nm i).1 (nm i).2.1 = x
  | 0, j, _, i, h1, h2 => by omega
  | m + 1, j, h, i, h1, h2 => by
    rw [fnd] at h
    split at h
    · cases h
    · rename_i q
      by_cases c : i = j
      · rw [c]
        exact q
      · exact fnd_none m (j + 1) h i (by omega) (by omega)
theorem tK_1 {T : Nat → Nat} {n p : Nat} (h : tK T n p = 1) : tS T n p < n ∧ isLt (T (tS T n p)) = true ∧ rn isLt T n (tS T n p) - tS T n p ≤ 8 ∧ tS T n p < rn isLt T n (tS T n p) ∧ rn isLt T n (tS T n p) ≤ n ∧ tE T n p = rn isLt T n (tS T n p) := by
  by_cases hs : tS T n p < n
  · by_cases hf : isLt (T (tS T n p)) = true
    · have h2 := h
      rw [(tE_L hs hf).2] at h2
      refine ⟨hs, hf, Decidable.byContradiction (fun z => by rw [if_neg z] at h2; cases h2), ?_, rn_le (by omega), (tE_L hs hf).1⟩
      rw [rn_y hs hf]
      exact Nat.lt_of_lt_of_le (Nat.lt_succ_self _) rn_ge
    · by_cases hg : isDg (T (tS T n p)) = true
      · rw [(tE_D hs hf hg).2] at h
        split at h <;> cases h
      · rw [(tE_O hs hf hg).2] at h
        split at h <;> cases h
  · rw [(tE_E hs).2] at h
    cases h
/-- one name -/
def nmI (T : Nat → Nat) (n : Nat) (D : oD) (q : Nat × Nat × Nat × Nat) : Prop := q.1 < q.2.1 ∧ q.2.1 - q.1 ≤ 8 ∧ q.2.1 ≤ n ∧ (∀ i, q.1 ≤ i → i < q.2.1 → isLt (T i) = true) ∧ (q.2.2.1 = 0 ∨ q.2.2.1 = 2 ∨ q.2.2.1 = 5) ∧ q.2.2.2 < dN D q.2.2.1
def nmsI (T : Nat → Nat) (n : Nat) (S : pZ) : Prop := zC S = dN (zD S) 0 + dN (zD S) 2 + dN (zD S) 5 ∧ (∀ i, i < zC S → nmI T n (zD S) (zN S i)) ∧ ∀ i j, i < zC S → j < zC S → i ≠ j → ¬ pkw T (zN S i).1 (zN S i).2.1 = pkw T (zN S j).1 (zN S j).2.1 ∧ ¬ ((zN S i).2.2.1 = (zN S j).2.2.1 ∧ (zN S i).2.2.2 = (zN S j).2.2.2)
def yrI (D : oD) : Prop := (D 0 0 = 0 ∧ ∀ i, i < 7 → dN D i = 0) ∨ ((∃ y, 5 ≤ y ∧ y ≤ 9 ∧ D 0 0 = nI y) ∧ 0 < tN D)
def zI (T : Nat → Nat) (n : Nat) (S : pZ) : Prop := zP S ≤ n ∧ WFc (zD S) ∧ WFh (zD S) ∧ WFt (zD S) ∧ yrI (zD S) ∧ WFr (zD S) ∧ nmsI T n S
def pIn (k : Nat) (S : pZ) : pZ := pSt 2 k (zD S 2 k + 1) S
theorem dN_in {D : oD} {k i : Nat} (hk : k < 7) (hi : i < 7) (hD : WFc D) : dN (hp_u D 2 k (D 2 k + 1)) i = if i = k then dN D k + 1 else dN D i := by
  have hb : dN D k ≤ 10 := by
    obtain ⟨-, b0, b1, b2, b3, b4, b5, b6⟩ := hD
    rcases (by omega : k = 0 ∨ k = 1 ∨ k = 2 ∨ k = 3 ∨ k = 4 ∨ k = 5 ∨ k = 6) with rfl | rfl | rfl | rfl | rfl | rfl | rfl <;> omega
  show (hp_u D 2 k (D 2 k + 1) 2 i).toNatClampNeg = _
  rw [hu_if]
  by_cases c : i = k
  · rw [if_pos c, if_pos c, hD.1 k hk, nI_1, nI_cl (by omega)]
  · rw [if_neg c, if_neg c]
    rfl
theorem wf_in {D : oD} {k : Nat} (hk : k < 7) (hD : WFc D) (hr : dN D k < rmN k) : WFc (hp_u D 2 k (D 2 k + 1)) := by
  have hd : ∀ i, i < 7 → dN (hp_u D 2 k (D 2 k + 1)) i = if i = k then dN D k + 1 else dN D i := fun i hi => dN_in hk hi hD
  obtain ⟨h0, b0, b1, b2, b3, b4, b5, b6⟩ := id hD
  refine ⟨fun i hi => ?_, ?_, ?_, ?_, ?_, ?_, ?_, ?_⟩
  · rw [hd i hi, hu_if]
    by_cases c : i = k
    · rw [if_pos c, if_pos c, hD.1 k hk, nI_1]
    · rw [if_neg c, if_neg c]
      exact h0 i hi
  all_goals
    rw [hd _ (by decide)]
    split
    · rename_i c
      subst c
      exact hr
    · assumption
/-- what stands at rows below the counts is the same, or grows by one good row -/
theorem dN_same {D D' : oD} (h : D' 2 = D 2) (i : Nat) : dN D' i = dN D i := by
  unfold dN
  rw [h]
theorem wr_0 {D : oD} {row : Nat} {v w : Int32} (hD : WFc D) (hH : WFh D) (hR : WFr D) (hr : row = dN D 0) (hm : row < 6) (hv : inR v 0 100) (hw : inR w 0 99) : WFh (hp_u (hp_u (hp_u D 3 row v) 4 row w) 2 0 (D 2 0 + 1)) ∧ WFr (hp_u (hp_u (hp_u D 3 row v) 4 row w) 2 0 (D 2 0 + 1)) := by
  have e2 : (hp_u (hp_u D 3 row v) 4 row w) 2 = D 2 := by rw [hu_ne (by decide), hu_ne (by decide)]
  have hc : WFc (hp_u (hp_u D 3 row v) 4 row w) := by
    unfold WFc
    simp only [dN_same e2, e2]
    exact hD
  have hd : ∀ i, i < 7 → dN (hp_u (hp_u (hp_u D 3 row v) 4 row w) 2 0 (D 2 0 + 1)) i = if i = 0 then dN D 0 + 1 else dN D i := by
    intro i hi
    have := dN_in (k := 0) (by decide) hi hc
    rw [e2, dN_same e2, dN_same e2] at this
    exact this
  generalize hX : hp_u (hp_u (hp_u D 3 row v) 4 row w) 2 0 (D 2 0 + 1) = X at *
  have x3 : ∀ i, X 3 i = if i = row then v else D 3 i := fun i => by rw [← hX]; simp [hp_u]
  have x4 : ∀ i, X 4 i = if i = row then w else D 4 i := fun i => by rw [← hX]; simp [hp_u]
  have xx : ∀ j, j ≠ 2 → j ≠ 3 → j ≠ 4 → X j = D j := fun j a b c => by rw [← hX, hu_ne a, hu_ne c, hu_ne b]
  obtain ⟨r1, r2, r3, r4, r5, r6, r7⟩ := hR
  unfold WFh WFr
  simp only [hd 0 (by decide), hd 2 (by decide), hd 3 (by decide), hd 4 (by decide), hd 5 (by decide), hd 6 (by decide), ↓reduceIte, show ¬ (2 : Nat) = 0 by decide, show ¬ (3 : Nat) = 0 by decide, show ¬ (4 : Nat) = 0 by decide, show ¬ (5 : Nat) = 0 by decide, show ¬ (6 : Nat) = 0 by decide, xx 5 (by decide) (by decide) (by decide), xx 6 (by decide) (by decide) (by decide), xx 7 (by decide) (by decide) (by decide), xx 8 (by decide) (by decide) (by decide), xx 9 (by decide) (by decide) (by decide), xx 10 (by decide) (by decide) (by decide), xx 11 (by decide) (by decide) (by decide), xx 12 (by decide) (by decide) (by decide), xx 13 (by decide) (by decide) (by decide), xx 14 (by decide) (by decide) (by decide), xx 15 (by decide) (by decide) (by decide), xx 16 (by decide) (by decide) (by decide), xx 17 (by decide) (by decide) (by decide)]
  refine ⟨fun q hq => ?_, fun i hi => ?_, fun i hi => ?_, r3, r4, fun i hi => ?_, r6, r7⟩
  · obtain ⟨z, h1, h2⟩ := hH q hq
    exact ⟨z, by omega, h2⟩
  · rw [x3, x4]
    by_cases c : i = row
    · rw [if_pos c, if_pos c]
      exact ⟨hv, hw⟩
    · rw [if_neg c, if_neg c]
      exact r1 i (by omega)
  · obtain ⟨z, h1, h2⟩ := r2 i hi
    exact ⟨z, Nat.lt_of_lt_of_le h1 (Nat.pow_le_pow_right (by omega) (by omega)), h2⟩
  · obtain ⟨⟨z, h1, h2⟩, h3⟩ := r5 i hi
    exact ⟨⟨z, by omega, h2⟩, h3⟩
theorem wr_2 {D : oD} {row : Nat} {u h v w : Int32} (hD : WFc D) (hH : WFh D) (hR : WFr D) (hr : row = dN D 2) (hu : inR u 0 3) (hh : ∃ q, q < dN D 0 ∧ h = nI q) (hv : inR v 0 99) (hw : inR w 0 60) : WFh (hp_u (hp_u (hp_u (hp_u (hp_u D 6 row u) 7 row h) 8 row v) 9 row w) 2 2 (D 2 2 + 1)) ∧ WFr (hp_u (hp_u (hp_u (hp_u (hp_u D 6 row u) 7 row h) 8 row v) 9 row w) 2 2 (D 2 2 + 1)) := by
  have e2 : (hp_u (hp_u (hp_u (hp_u D 6 row u) 7 row h) 8 row v) 9 row w) 2 = D 2 := by rw [hu_ne (by decide), hu_ne (by decide), hu_ne (by decide), hu_ne (by decide)]
  have hc : WFc (hp_u (hp_u (hp_u (hp_u D 6 row u) 7 row h) 8 row v) 9 row w) := by
    unfold WFc
    simp only [dN_same e2, e2]
    exact hD
  have hd : ∀ i, i < 7 → dN (hp_u (hp_u (hp_u (hp_u (hp_u D 6 row u) 7 row h) 8 row v) 9 row w) 2 2 (D 2 2 + 1)) i = if i = 2 then dN D 2 + 1 else dN D i := by
    intro i hi
    have := dN_in (k := 2) (by decide) hi hc
    rw [e2, dN_same e2, dN_same e2] at this
    exact this
  generalize hX : hp_u (hp_u (hp_u (hp_u (hp_u D 6 row u) 7 row h) 8 row v) 9 row w) 2 2 (D 2 2 + 1) = X at *
  have x6 : ∀ i, X 6 i = if i = row then u else D 6 i := fun i => by rw [← hX]; simp [hp_u]
  have x7 : ∀ i, X 7 i = if i = row then h else D 7 i := fun i => by rw [← hX]; simp [hp_u]
  have x8 : ∀ i, X 8 i = if i = row then v else D 8 i := fun i => by rw [← hX]; simp [hp_u]
  have x9 : ∀ i, X 9 i = if i = row then w else D 9 i := fun i => by rw [← hX]; simp [hp_u]
  have xx : ∀ j, j ≠ 2 → j ≠ 6 → j ≠ 7 → j ≠ 8 → j ≠ 9 → X j = D j := fun j a b c d e => by rw [← hX, hu_ne a, hu_ne e, hu_ne d, hu_ne c, hu_ne b]
  obtain ⟨r1, r2, r3, r4, r5, r6, r7⟩ := hR
  unfold WFh WFr
  simp only [hd 0 (by decide), hd 2 (by decide), hd 3 (by decide), hd 4 (by decide), hd 5 (by decide), hd 6 (by decide), ↓reduceIte, show ¬ (0 : Nat) = 2 by decide, show ¬ (3 : Nat) = 2 by decide, show ¬ (4 : Nat) = 2 by decide, show ¬ (5 : Nat) = 2 by decide, show ¬ (6 : Nat) = 2 by decide, xx 3 (by decide) (by decide) (by decide) (by decide) (by decide), xx 4 (by decide) (by decide) (by decide) (by decide) (by decide), xx 5 (by decide) (by decide) (by decide) (by decide) (by decide), xx 10 (by decide) (by decide) (by decide) (by decide) (by decide), xx 11 (by decide) (by decide) (by decide) (by decide) (by decide), xx 12 (by decide) (by decide) (by decide) (by decide) (by decide), xx 13 (by decide) (by decide) (by decide) (by decide) (by decide), xx 14 (by decide) (by decide) (by decide) (by decide) (by decide), xx 15 (by decide) (by decide) (by decide) (by decide) (by decide), xx 16 (by decide) (by decide) (by decide) (by decide) (by decide), xx 17 (by decide) (by decide) (by decide) (by decide) (by decide)]
  refine ⟨fun q hq => ?_, r1, r2, fun i hi => ?_, fun i hi => ?_, r5, r6, r7⟩
  · rw [x7]
    by_cases c : q = row
    · rw [if_pos c]
      exact hh
    · rw [if_neg c]
      exact hH q (by omega)
  · rw [x6, x8, x9]
    by_cases c : i = row
    · rw [if_pos c, if_pos c, if_pos c]
      exact ⟨hu, hv, hw⟩
    · rw [if_neg c, if_neg c, if_neg c]
      exact r3 i (by omega)
  · obtain ⟨⟨z, h1, h2⟩, h3⟩ := r4 i hi
    exact ⟨⟨z, by omega, h2⟩, h3⟩
theorem wr_3 {D : oD} {row : Nat} {v w : Int32} (hD : WFc D) (hH : WFh D) (hR : WFr D) (hr : row = dN D 3) (hv : ∃ q, q < dN D 2 ∧ v = nI q) (hw : inR w 0 99) : WFh (hp_u (hp_u (hp_u D 10 row v) 11 row w) 2 3 (D 2 3 + 1)) ∧ WFr (hp_u (hp_u (hp_u D 10 row v) 11 row w) 2 3 (D 2 3 + 1)) := by
  have e2 : (hp_u (hp_u D 10 row v) 11 row w) 2 = D 2 := by rw [hu_ne (by decide), hu_ne (by decide)]
  have hc : WFc (hp_u (hp_u D 10 row v) 11 row w) := by
    unfold WFc
    simp only [dN_same e2, e2]
    exact hD
  have hd : ∀ i, i < 7 → dN (hp_u (hp_u (hp_u D 10 row v) 11 row w) 2 3 (D 2 3 + 1)) i = if i = 3 then dN D 3 + 1 else dN D i := by
    intro i hi
    have := dN_in (k := 3) (by decide) hi hc
    rw [e2, dN_same e2, dN_same e2] at this
    exact this
  generalize hX : hp_u (hp_u (hp_u D 10 row v) 11 row w) 2 3 (D 2 3 + 1) = X at *
  have x10 : ∀ i, X 10 i = if i = row then v else D 10 i := fun i => by rw [← hX]; simp [hp_u]
  have x11 : ∀ i, X 11 i = if i = row then w else D 11 i := fun i => by rw [← hX]; simp [hp_u]
  have xx : ∀ j, j ≠ 2 → j ≠ 10 → j ≠ 11 → X j = D j := fun j a b c => by rw [← hX, hu_ne a, hu_ne c, hu_ne b]
  obtain ⟨r1, r2, r3, r4, r5, r6, r7⟩ := hR
  unfold WFh WFr
  simp only [hd 0 (by decide), hd 2 (by decide), hd 3 (by decide), hd 4 (by decide), hd 5 (by decide), hd 6 (by decide), ↓reduceIte, show ¬ (0 : Nat) = 3 by decide, show ¬ (2 : Nat) = 3 by decide, show ¬ (4 : Nat) = 3 by decide, show ¬ (5 : Nat) = 3 by decide, show ¬ (6 : Nat) = 3 by decide, xx 3 (by decide) (by decide) (by decide), xx 4 (by decide) (by decide) (by decide), xx 5 (by decide) (by decide) (by decide), xx 6 (by decide) (by decide) (by decide), xx 7 (by decide) (by decide) (by decide), xx 8 (by decide) (by decide) (by decide), xx 9 (by decide) (by decide) (by decide), xx 12 (by decide) (by decide) (by decide), xx 13 (by decide) (by decide) (by decide), xx 14 (by decide) (by decide) (by decide), xx 15 (by decide) (by decide) (by decide), xx 16 (by decide) (by decide) (by decide), xx 17 (by decide) (by decide) (by decide)]
  refine ⟨hH, r1, r2, r3, fun i hi => ?_, r5, r6, r7⟩
  · rw [x10, x11]
    by_cases c : i = row
    · rw [if_pos c, if_pos c]
      exact ⟨hv, hw⟩
    · rw [if_neg c, if_neg c]
      exact r4 i (by omega)
theorem wr_4 {D : oD} {row : Nat} {v w : Int32} (hD : WFc D) (hH : WFh D) (hR : WFr D) (hr : row = dN D 4) (hv : ∃ q, q < dN D 0 ∧ v = nI q) (hw : inR w 1 5) : WFh (hp_u (hp_u (hp_u D 12 row v) 13 row w) 2 4 (D 2 4 + 1)) ∧ WFr (hp_u (hp_u (hp_u D 12 row v) 13 row w) 2 4 (D 2 4 + 1)) := by
  have e2 : (hp_u (hp_u D 12 row v) 13 row w) 2 = D 2 := by rw [hu_ne (by decide), hu_ne (by decide)]
  have hc : WFc (hp_u (hp_u D 12 row v) 13 row w) := by
    unfold WFc
    simp only [dN_same e2, e2]
    exact hD
  have hd : ∀ i, i < 7 → dN (hp_u (hp_u (hp_u D 12 row v) 13 row w) 2 4 (D 2 4 + 1)) i = if i = 4 then dN D 4 + 1 else dN D i := by
    intro i hi
    have := dN_in (k := 4) (by decide) hi hc
    rw [e2, dN_same e2, dN_same e2] at this
    exact this
  generalize hX : hp_u (hp_u (hp_u D 12 row v) 13 row w) 2 4 (D 2 4 + 1) = X at *
  have x12 : ∀ i, X 12 i = if i = row then v else D 12 i := fun i => by rw [← hX]; simp [hp_u]
  have x13 : ∀ i, X 13 i = if i = row then w else D 13 i := fun i => by rw [← hX]; simp [hp_u]
  have xx : ∀ j, j ≠ 2 → j ≠ 12 → j ≠ 13 → X j = D j := fun j a b c => by rw [← hX, hu_ne a, hu_ne c, hu_ne b]
  obtain ⟨r1, r2, r3, r4, r5, r6, r7⟩ := hR
  unfold WFh WFr
  simp only [hd 0 (by decide), hd 2 (by decide), hd 3 (by decide), hd 4 (by decide), hd 5 (by decide), hd 6 (by decide), ↓reduceIte, show ¬ (0 : Nat) = 4 by decide, show ¬ (2 : Nat) = 4 by decide, show ¬ (3 : Nat) = 4 by decide, show ¬ (5 : Nat) = 4 by decide, show ¬ (6 : Nat) = 4 by decide, xx 3 (by decide) (by decide) (by decide), xx 4 (by decide) (by decide) (by decide), xx 5 (by decide) (by decide) (by decide), xx 6 (by decide) (by decide) (by decide), xx 7 (by decide) (by decide) (by decide), xx 8 (by decide) (by decide) (by decide), xx 9 (by decide) (by decide) (by decide), xx 10 (by decide) (by decide) (by decide), xx 11 (by decide) (by decide) (by decide), xx 14 (by decide) (by decide) (by decide), xx 15 (by decide) (by decide) (by decide), xx 16 (by decide) (by decide) (by decide), xx 17 (by decide) (by decide) (by decide)]
  refine ⟨hH, r1, r2, r3, r4, fun i hi => ?_, r6, r7⟩
  · rw [x12, x13]
    by_cases c : i = row
    · rw [if_pos c, if_pos c]
      exact ⟨hv, hw⟩
    · rw [if_neg c, if_neg c]
      exact r5 i (by omega)
theorem wr_5 {D : oD} {row : Nat} {v w : Int32} (hD : WFc D) (hH : WFh D) (hR : WFr D) (hr : row = dN D 5) (hv : inR v 0 60) (hw : inR w 1 9) : WFh (hp_u (hp_u (hp_u D 14 row v) 15 row w) 2 5 (D 2 5 + 1)) ∧ WFr (hp_u (hp_u (hp_u D 14 row v) 15 row w) 2 5 (D 2 5 + 1)) := by
  have e2 : (hp_u (hp_u D 14 row v) 15 row w) 2 = D 2 := by rw [hu_ne (by decide), hu_ne (by decide)]
  have hc : WFc (hp_u (hp_u D 14 row v) 15 row w) := by
    unfold WFc
    simp only [dN_same e2, e2]
    exact hD
  have hd : ∀ i, i < 7 → dN (hp_u (hp_u (hp_u D 14 row v) 15 row w) 2 5 (D 2 5 + 1)) i = if i = 5 then dN D 5 + 1 else dN D i := by
    intro i hi
    have := dN_in (k := 5) (by decide) hi hc
    rw [e2, dN_same e2, dN_same e2] at this
    exact this
  generalize hX : hp_u (hp_u (hp_u D 14 row v) 15 row w) 2 5 (D 2 5 + 1) = X at *
  have x14 : ∀ i, X 14 i = if i = row then v else D 14 i := fun i => by rw [← hX]; simp [hp_u]
  have x15 : ∀ i, X 15 i = if i = row then w else D 15 i := fun i => by rw [← hX]; simp [hp_u]
  have xx : ∀ j, j ≠ 2 → j ≠ 14 → j ≠ 15 → X j = D j := fun j a b c => by rw [← hX, hu_ne a, hu_ne c, hu_ne b]
  obtain ⟨r1, r2, r3, r4, r5, r6, r7⟩ := hR
  unfold WFh WFr
  simp only [hd 0 (by decide), hd 2 (by decide), hd 3 (by decide), hd 4 (by decide), hd 5 (by decide), hd 6 (by decide), ↓reduceIte, show ¬ (0 : Nat) = 5 by decide, show ¬ (2 : Nat) = 5 by decide, show ¬ (3 : Nat) = 5 by decide, show ¬ (4 : Nat) = 5 by decide, show ¬ (6 : Nat) = 5 by decide, xx 3 (by decide) (by decide) (by decide), xx 4 (by decide) (by decide) (by decide), xx 5 (by decide) (by decide) (by decide), xx 6 (by decide) (by decide) (by decide), xx 7 (by decide) (by decide) (by decide), xx 8 (by decide) (by decide) (by decide), xx 9 (by decide) (by decide) (by decide), xx 10 (by decide) (by decide) (by decide), xx 11 (by decide) (by decide) (by decide), xx 12 (by decide) (by decide) (by decide), xx 13 (by decide) (by decide) (by decide), xx 16 (by decide) (by decide) (by decide), xx 17 (by decide) (by decide) (by decide)]
  refine ⟨hH, r1, r2, r3, r4, r5, fun i hi => ?_, r7⟩
  · rw [x14, x15]
    by_cases c : i = row
    · rw [if_pos c, if_pos c]
      exact ⟨hv, hw⟩
    · rw [if_neg c, if_neg c]
      exact r6 i (by omega)
theorem wr_6 {D : oD} {row : Nat} {v w : Int32} (hD : WFc D) (hH : WFh D) (hR : WFr D) (hr : row = dN D 6) (hv : inR v 0 8) (hw : inR w 16 40) : WFh (hp_u (hp_u (hp_u D 16 row v) 17 row w) 2 6 (D 2 6 + 1)) ∧ WFr (hp_u (hp_u (hp_u D 16 row v) 17 row w) 2 6 (D 2 6 + 1)) := by
  have e2 : (hp_u (hp_u D 16 row v) 17 row w) 2 = D 2 := by rw [hu_ne (by decide), hu_ne (by decide)]
  have hc : WFc (hp_u (hp_u D 16 row v) 17 row w) := by
    unfold WFc
    simp only [dN_same e2, e2]
    exact hD
  have hd : ∀ i, i < 7 → dN (hp_u (hp_u (hp_u D 16 row v) 17 row w) 2 6 (D 2 6 + 1)) i = if i = 6 then dN D 6 + 1 else dN D i := by
    intro i hi
    have := dN_in (k := 6) (by decide) hi hc
    rw [e2, dN_same e2, dN_same e2] at this
    exact this
  generalize hX : hp_u (hp_u (hp_u D 16 row v) 17 row w) 2 6 (D 2 6 + 1) = X at *
  have x16 : ∀ i, X 16 i = if i = row then v else D 16 i := fun i => by rw [← hX]; simp [hp_u]
  have x17 : ∀ i, X 17 i = if i = row then w else D 17 i := fun i => by rw [← hX]; simp [hp_u]
  have xx : ∀ j, j ≠ 2 → j ≠ 16 → j ≠ 17 → X j = D j := fun j a b c => by rw [← hX, hu_ne a, hu_ne c, hu_ne b]
  obtain ⟨r1, r2, r3, r4, r5, r6, r7⟩ := hR
  unfold WFh WFr
  simp only [hd 0 (by decide), hd 2 (by decide), hd 3 (by decide), hd 4 (by decide), hd 5 (by decide), hd 6 (by decide), ↓reduceIte, show ¬ (0 : Nat) = 6 by decide, show ¬ (2 : Nat) = 6 by decide, show ¬ (3 : Nat) = 6 by decide, show ¬ (4 : Nat) = 6 by decide, show ¬ (5 : Nat) = 6 by decide, xx 3 (by decide) (by decide) (by decide), xx 4 (by decide) (by decide) (by decide), xx 5 (by decide) (by decide) (by decide), xx 6 (by decide) (by decide) (by decide), xx 7 (by decide) (by decide) (by decide), xx 8 (by decide) (by decide) (by decide), xx 9 (by decide) (by decide) (by decide), xx 10 (by decide) (by decide) (by decide), xx 11 (by decide) (by decide) (by decide), xx 12 (by decide) (by decide) (by decide), xx 13 (by decide) (by decide) (by decide), xx 14 (by decide) (by decide) (by decide), xx 15 (by decide) (by decide) (by decide)]
  refine ⟨hH, r1, r2, r3, r4, r5, r6, fun i hi => ?_⟩
  · rw [x16, x17]
    by_cases c : i = row
    · rw [if_pos c, if_pos c]
      exact ⟨hv, hw⟩
    · rw [if_neg c, if_neg c]
      exact r7 i (by omega)
