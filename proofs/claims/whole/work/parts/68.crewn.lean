/-! The crew's parts: numbers. -/
def sumN (f : Nat → Nat) : Nat → Nat
  | 0 => 0
  | n + 1 => sumN f n + f n
theorem sumN_le {f : Nat → Nat} {b : Nat} : ∀ n, (∀ i, i < n → f i ≤ b) → sumN f n ≤ n * b
  | 0, _ => by rw [sumN]; omega
  | n + 1, h => by
    have := sumN_le n (fun i hi => h i (by omega))
    have h2 := h n (by omega)
    rw [sumN, Nat.succ_mul]
    omega
theorem sumN_mono {f : Nat → Nat} : ∀ n k, sumN f n ≤ sumN f (n + k)
  | n, 0 => Nat.le_refl _
  | n, k + 1 => Nat.le_trans (sumN_mono n k) (Nat.le_add_right _ _)
theorem sumN_pt {f : Nat → Nat} : ∀ n i, i < n → f i ≤ sumN f n
  | n + 1, i, h => by
    rw [sumN]
    by_cases c : i = n
    · subst c
      omega
    · have := sumN_pt (f := f) n i (by omega)
      omega
def svN (D : oD) (y : Int32) (k : Nat) : Nat := (servedS D k y).toNatClampNeg
theorem sv_n {D : oD} {y : Int32} (hW : WF D) (hy : inR y 0 270) {k : Nat} (hk : k < dN D 5) : servedS D k y = nI (svN D y k) ∧ svN D y k ≤ 2430 := by
  obtain ⟨a, -, ha, rfl⟩ := hy
  obtain ⟨⟨b, -, hb, e1⟩, ⟨c, hc0, hc, e2⟩⟩ := hW.q.2.2.2.2.2.1 k hk
  have e : servedS D k (nI a) = nI (c * (a - b)) := by
    unfold servedS
    rw [e1, e2]
    by_cases h : b < a
    · rw [pk_sub (by omega), if_pos (show (0 : Int32) < nI (a - b) from nI_lt (a := 0) (b := a - b) (by omega) (by omega)), pk_mul]
    · rw [if_neg, show a - b = 0 by omega]
      · exact pk_mul c 0
      · by_cases h2 : a = b
        · subst h2
          rw [pk_sub (by omega), Nat.sub_self]
          decide
        · exact fun z => absurd (Int32.lt_iff_toInt_lt.mp z) (by
            have := Int32.lt_iff_toInt_lt.mp (pk_sneg (a := a) (b := b) (by omega) (by omega))
            omega)
  have h2 : c * (a - b) ≤ 9 * 270 := Nat.mul_le_mul hc (by omega)
  unfold svN
  rw [e, nI_clamp (by omega)]
  exact ⟨rfl, by omega⟩
def allN (D : oD) (y : Int32) : Nat := sumN (svN D y) (dN D 5)
theorem all_n {D : oD} {y : Int32} (hW : WF D) (hy : inR y 0 270) : ∀ j, j ≤ dN D 5 → sumN (svN D y) j ≤ 12150 := by
  intro j hj
  have b5 := hW.c.2.2.2.2.2.2.1
  have := sumN_le (f := svN D y) (b := 2430) j (fun i hi => (sv_n hW hy (by omega)).2)
  have h2 : j * 2430 ≤ 5 * 2430 := Nat.mul_le_mul_right _ (by omega)
  omega
def qN (D : oD) (v : Nat) (y : Int32) (i : Nat) : Nat := v * svN D y i / allN D y
def rN (D : oD) (v : Nat) (y : Int32) (i : Nat) : Nat := v * svN D y i % allN D y
theorem qr_sum {D : oD} {v : Nat} {y : Int32} : ∀ n, sumN (qN D v y) n * allN D y + sumN (rN D v y) n = v * sumN (svN D y) n
  | 0 => by simp [sumN]
  | n + 1 => by
    have ih := qr_sum (D := D) (v := v) (y := y) n
    have e : allN D y * qN D v y n + rN D v y n = v * svN D y n := Nat.div_add_mod _ _
    have e2 : qN D v y n * allN D y = allN D y * qN D v y n := Nat.mul_comm _ _
    rw [sumN, sumN, sumN, Nat.add_mul, Nat.mul_add]
    omega
theorem q_le {D : oD} {v : Nat} {y : Int32} (h0 : 0 < allN D y) (j : Nat) (hj : j ≤ dN D 5) : sumN (qN D v y) j ≤ v := by
  have h1 := qr_sum (D := D) (v := v) (y := y) (dN D 5)
  have h2 : v * sumN (svN D y) (dN D 5) = v * allN D y := rfl
  have h3 : sumN (qN D v y) j ≤ sumN (qN D v y) (dN D 5) := by
    have := sumN_mono (f := qN D v y) j (dN D 5 - j)
    rwa [show j + (dN D 5 - j) = dN D 5 by omega] at this
  have h4 : sumN (qN D v y) (dN D 5) * allN D y ≤ v * allN D y := by omega
  have := Nat.le_of_mul_le_mul_right h4 h0
  omega
def leftN (D : oD) (v : Nat) (y : Int32) : Nat := v - sumN (qN D v y) (dN D 5)
theorem left_lt {D : oD} {v : Nat} {y : Int32} (h0 : 0 < allN D y) : leftN D v y < dN D 5 := by
  have h1 := qr_sum (D := D) (v := v) (y := y) (dN D 5)
  have h2 : v * sumN (svN D y) (dN D 5) = v * allN D y := rfl
  have hn : 0 < dN D 5 := by
    by_cases c : dN D 5 = 0
    · unfold allN at h0
      rw [c] at h0
      exact absurd h0 (by rw [sumN]; omega)
    · omega
  have h3 : sumN (rN D v y) (dN D 5) ≤ dN D 5 * (allN D y - 1) := sumN_le _ (fun i _ => by
    have : rN D v y i < allN D y := Nat.mod_lt _ h0
    omega)
  have h4 : dN D 5 * (allN D y - 1) < dN D 5 * allN D y := Nat.mul_lt_mul_of_pos_left (by omega) hn
  have h5 : leftN D v y * allN D y = v * allN D y - sumN (qN D v y) (dN D 5) * allN D y := Nat.sub_mul _ _ _
  have h6 : leftN D v y * allN D y < dN D 5 * allN D y := by omega
  exact Nat.lt_of_mul_lt_mul_right h6
-- one of the greatest rest
def rho (f : Nat → Int32) (g : Int32) (i : Nat) : Int32 := if tb g i then -1 else f i
def pickS (p : Nat → Int32) (n : Nat) : Nat := gN (fun i x => if p i ≤ p x then x else i) 1 (n - 1) 0
def hoS (f : Nat → Int32) (n : Nat) : Nat → Int32 → (Nat → Int32) → (Nat → Int32)
  | 0, _, q => q
  | m + 1, g, q => hoS f n m (g ||| bit (pickS (rho f g) n)) (fun i => if i = pickS (rho f g) n then q i + 1 else q i)
theorem pick_lt {p : Nat → Int32} {n : Nat} (h : 0 < n) : pickS p n < n := by
  unfold pickS
  refine gN_inv (fun x => x < n) _ _ _ h ?_
  intro k a h1 h2 ha
  split
  · exact ha
  · omega
def pkF (f : Nat → Int32) (g : Int32) (k : Nat) (b : Int32) : Int32 := if hbS g (nI k) = 0 then (if b < 0 then nI k else if f k ≤ f b.toNatClampNeg then b else nI k) else b
def pkM (f : Nat → Int32) (g : Int32) (n : Nat) : Int32 := gN (pkF f g) 0 n (-1)
theorem le_tr {a b c : Int32} (h1 : a ≤ b) (h2 : b ≤ c) : a ≤ c := Int32.le_trans h1 h2
/-- both searches go along together -/
theorem pk_go {f : Nat → Int32} {g : Int32} {N : Nat} (hf : ∀ i, i < N → 0 ≤ f i) (hN : N ≤ 31) : ∀ m j b x, 1 ≤ j → j + m ≤ N → x < j → ((b = -1 ∧ x = 0 ∧ tb g 0 = true) ∨ (b = nI x ∧ tb g x = false)) →
    ((gN (pkF f g) j m b = -1 ∧ gN (fun i x => if rho f g i ≤ rho f g x then x else i) j m x = 0 ∧ tb g 0 = true ∧ ∀ i, j ≤ i → i < j + m → tb g i = true) ∨ (gN (pkF f g) j m b = nI (gN (fun i x => if rho f g i ≤ rho f g x then x else i) j m x) ∧ tb g (gN (fun i x => if rho f g i ≤ rho f g x then x else i) j m x) = false))
  | 0, j, b, x, _, _, _, h => by
    rcases h with ⟨h1, h2, h3⟩ | h
    · exact Or.inl ⟨h1, h2, h3, fun i h4 h5 => absurd h4 (by omega)⟩
    · exact Or.inr h
  | m + 1, j, b, x, hj, hm, hx, h => by
    have m1 : ¬ (0 : Int32) ≤ -1 := by decide
    rw [gN, gN]
    have hstep : (pkF f g j b = -1 ∧ (if rho f g j ≤ rho f g x then x else j) = 0 ∧ tb g 0 = true ∧ tb g j = true) ∨ (pkF f g j b = nI (if rho f g j ≤ rho f g x then x else j) ∧ tb g (if rho f g j ≤ rho f g x then x else j) = false) := by
      unfold pkF
      rw [hb_tb (by omega)]
      cases hg : tb g j
      · rw [if_pos (by simp)]
        have rj : rho f g j = f j := by unfold rho; rw [hg]; simp
        rcases h with ⟨h1, h2, h3⟩ | ⟨h1, h2⟩
        · right
          have r0 : rho f g x = -1 := by unfold rho; rw [h2, h3]; simp
          have hn : ¬ rho f g j ≤ rho f g x := by
            rw [rj, r0]
            exact fun z => m1 (le_tr (hf j (by omega)) z)
          rw [if_neg hn, h1]
          exact ⟨if_pos (by decide), hg⟩
        · right
          have rx : rho f g x = f x := by unfold rho; rw [h2]; simp
          rw [h1, if_neg (nI_pos (by omega)), nI_cl (by omega), rj, rx]
          by_cases c : f j ≤ f x
          · rw [if_pos c, if_pos c]
            exact ⟨rfl, h2⟩
          · rw [if_neg c, if_neg c]
            exact ⟨rfl, hg⟩
      · rw [if_neg (by simp)]
        have rj : rho f g j = -1 := by unfold rho; rw [hg]; simp
        have hle : rho f g j ≤ rho f g x := by
          rw [rj]
          unfold rho
          split
          · decide
          · have := hf x (by omega)
            exact le_tr (by decide) this
        rw [if_pos hle]
        rcases h with ⟨h1, h2, h3⟩ | ⟨h1, h2⟩
        · exact Or.inl ⟨h1, h2, h3, rfl⟩
        · exact Or.inr ⟨h1, h2⟩
    rcases hstep with ⟨h1, h2, h3, h4⟩ | ⟨h1, h2⟩
    · rw [h1, h2]
      rcases pk_go hf hN m (j + 1) (-1) 0 (by omega) (by omega) (by omega) (Or.inl ⟨rfl, rfl, h3⟩) with ⟨e1, e2, e3, e4⟩ | e
      · refine Or.inl ⟨e1, e2, e3, fun i i1 i2 => ?_⟩
        by_cases c : i = j
        · subst c
          exact h4
        · exact e4 i (by omega) (by omega)
      · exact Or.inr e
    · rw [h1]
      have hx2 : (if rho f g j ≤ rho f g x then x else j) < j + 1 := by split <;> omega
      rcases pk_go hf hN m (j + 1) _ _ (by omega) (by omega) hx2 (Or.inr ⟨rfl, h2⟩) with ⟨e1, e2, e3, e4⟩ | e
      · exact absurd e1 (by
          have : ∀ m j b, (∃ q, b = nI q ∧ q < 1000) → j + m < 1000 → ∃ q, gN (pkF f g) j m b = nI q ∧ q < 1000 := by
            intro m
            induction m with
            | zero => intro j b hb _; exact hb
            | succ m ih =>
              intro j b hb hj
              rw [gN]
              refine ih (j + 1) _ ?_ (by omega)
              unfold pkF
              split
              · split
                · exact ⟨j, rfl, by omega⟩
                · split
                  · exact hb
                  · exact ⟨j, rfl, by omega⟩
              · exact hb
          obtain ⟨q, e5, e6⟩ := this m (j + 1) _ ⟨_, rfl, Nat.lt_of_lt_of_le hx2 (by omega)⟩ (by omega)
          rw [e5]
          intro z
          have := congrArg Int32.toInt z
          rw [nI_toInt (by omega)] at this
          have e2 : (-1 : Int32).toInt = -1 := by decide
          omega)
      · exact Or.inr e
theorem pick_eq {f : Nat → Int32} {g : Int32} {n : Nat} (hf : ∀ i, i < n → 0 ≤ f i) (hn : 0 < n) (hN : n ≤ 31) (hg : ∃ i, i < n ∧ tb g i = false) : pkM f g n = nI (pickS (rho f g) n) ∧ tb g (pickS (rho f g) n) = false := by
  unfold pkM pickS
  obtain ⟨m, rfl⟩ : ∃ m, n = m + 1 := ⟨n - 1, by omega⟩
  rw [gN, Nat.add_sub_cancel]
  have h1 : (pkF f g 0 (-1) = -1 ∧ 0 = 0 ∧ tb g 0 = true) ∨ (pkF f g 0 (-1) = nI 0 ∧ tb g 0 = false) := by
    unfold pkF
    rw [hb_tb (by omega)]
    cases tb g 0
    · right
      rw [if_pos (by simp), if_pos (by decide)]
      exact ⟨rfl, rfl⟩
    · left
      rw [if_neg (by simp)]
      exact ⟨rfl, rfl, rfl⟩
  rcases pk_go hf hN m 1 _ 0 (by omega) (by omega) (by omega) h1 with ⟨e1, e2, e3, e4⟩ | e
  · obtain ⟨i, i1, i2⟩ := hg
    by_cases c : i = 0
    · subst c
      rw [e3] at i2
      cases i2
    · rw [e4 i (by omega) (by omega)] at i2
      cases i2
  · exact e
-- how many have one
def givN (g : Int32) (n : Nat) : Nat := sumN (fun i => (tb g i).toNat) n
theorem giv_le {g : Int32} {n : Nat} : givN g n ≤ n := by
  have := sumN_le (f := fun i => (tb g i).toNat) (b := 1) n (fun i _ => by cases tb g i <;> simp)
  unfold givN
  omega
theorem giv_ex {g : Int32} : ∀ n, givN g n < n → ∃ i, i < n ∧ tb g i = false
  | 0, h => absurd h (by omega)
  | n + 1, h => by
    cases c : tb g n
    · exact ⟨n, by omega, c⟩
    · unfold givN at h
      rw [sumN, c] at h
      obtain ⟨i, h1, h2⟩ := giv_ex n (by unfold givN; simp at h; omega)
      exact ⟨i, by omega, h2⟩
theorem giv_or {g : Int32} {x : Nat} (hx : x < 32) (hg : tb g x = false) : ∀ n, n ≤ 32 → givN (g ||| bit x) n = givN g n + (if x < n then 1 else 0)
  | 0, _ => by simp [givN, sumN]
  | n + 1, hn => by
    have ih := giv_or hx hg n (by omega)
    unfold givN at ih ⊢
    rw [sumN, sumN, ih, tb_or, tb_bit hx (by omega)]
    by_cases c : x = n
    · subst c
      rw [hg]
      simp
    · by_cases c2 : x < n
      · rw [if_pos c2, if_pos (by omega)]
        simp [c]
        omega
      · rw [if_neg c2, if_neg (by omega)]
        simp [c]
/-- the part of each -/
def partS (D : oD) (v : Nat) (y : Int32) (i : Nat) : Int32 := if allN D y = 0 then 0 else hoS (fun i => nI (rN D v y i)) (dN D 5) (leftN D v y) 0 (fun i => nI (qN D v y i)) i
