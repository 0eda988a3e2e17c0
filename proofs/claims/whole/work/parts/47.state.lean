/-! What is known of the state on both sides; what holds over writes elsewhere. -/
section
variable {I I' : Nat → Nat → Int32} {J : Nat → Nat → Int64} {F : Nat → Nat → Option Nat} {o r k j p : Nat} {v : Int32} {D : oD} {s : Nat → Int32}
theorem oC_fr (h : oC I o D) (ho : isO o) (f : ∀ k, 4 ≤ k → k < 42 → I' k = I k) : oC I' o D := by
  have e : ∀ i, i < 17 → I' (o + i) = I (o + i) := fun i hi => f (o + i) (by rcases ho with rfl | rfl <;> omega) (by rcases ho with rfl | rfl <;> omega)
  have e0 : I' o = I o := e 0 (by omega)
  unfold oC at h ⊢
  rw [e0, e 1 (by omega), e 2 (by omega), e 3 (by omega), e 4 (by omega), e 5 (by omega), e 6 (by omega), e 7 (by omega), e 8 (by omega), e 9 (by omega), e 10 (by omega), e 11 (by omega), e 12 (by omega), e 13 (by omega), e 14 (by omega), e 15 (by omega), e 16 (by omega)]
  exact h
theorem oC_u (h : oC I o D) (ho : isO o) (hk : k < 4 ∨ 42 ≤ k) : oC (hp_u I k j v) o D := oC_fr h ho (fun x h1 h2 => hu_ne (by omega))
theorem oM_fr (h : oM I r D) (f : I' r = I r) : oM I' r D := by
  unfold oM at h ⊢
  rw [f]
  exact h
theorem oM_u (h : oM I r D) (hk : r ≠ k) : oM (hp_u I k j v) r D := oM_fr h (hu_ne hk)
def frS (x : Int32) : Int32 := if x = 0 then -2 else x - 1
/-- the moment at p holds s (0 landing, 1 harbour, 2 freed by, 3 seed, 4 tried, 5 brought, as the reference has them) -/
def mo (I : Nat → Nat → Int32) (p : Nat) (s : Nat → Int32) : Prop := I p 0 = s 0 ∧ I p 1 = s 1 ∧ I p 2 = s 4 ∧ I p 3 = s 5 ∧ I p 4 = frS (s 2) ∧ I p 5 = s 3
theorem mo_fr (h : mo I p s) (f : I' p = I p) : mo I' p s := by
  unfold mo at h ⊢
  rw [f]
  exact h
theorem mo_u (h : mo I p s) (hk : p ≠ k) : mo (hp_u I k j v) p s := mo_fr h (hu_ne hk)
def stM (I : Nat → Nat → Int32) (s : Nat → Int32) : Prop := ∀ i, i < 6 → I 100 i = s i
theorem stM_fr (h : stM I s) (f : I' 100 = I 100) : stM I' s := by
  unfold stM at h ⊢
  rw [f]
  exact h
theorem stM_u (h : stM I s) (hk : 100 ≠ k) : stM (hp_u I k j v) s := stM_fr h (hu_ne hk)
theorem I_u {a b : Nat} {x : Int32} (h : I a b = x) (hk : ¬ (a = k ∧ b = j)) : hp_u I k j v a b = x := by
  unfold hp_u
  by_cases c : a = k
  · rw [if_pos c, if_neg (fun z => hk ⟨c, z⟩)]
    exact h
  · rw [if_neg c]
    exact h
def tol (D : oD) : Int32 := if D 0 0 ≤ 0 then 0 else 1
/-- told or not -/
def WFo (D : oD) : Prop := (D 0 0 = 0 ∧ ∀ i, i < 7 → dN D i = 0) ∨ ((∃ y, 5 ≤ y ∧ y ≤ 9 ∧ D 0 0 = nI y) ∧ 0 < dN D 0 ∧ 0 < dN D 2 ∧ 0 < tN D)
def inR (x : Int32) (a b : Nat) : Prop := ∃ n, a ≤ n ∧ n ≤ b ∧ x = nI n
/-- bounds of what is told -/
def WFr (D : oD) : Prop := (∀ i, i < dN D 0 → inR (D 3 i) 0 100 ∧ inR (D 4 i) 0 99) ∧ (∀ i, i < 6 → ∃ n, n < 2 ^ dN D 0 ∧ D 5 i = nI n) ∧
  (∀ i, i < dN D 2 → inR (D 6 i) 0 3 ∧ inR (D 8 i) 0 99 ∧ inR (D 9 i) 0 60) ∧ (∀ i, i < dN D 3 → (∃ w, w < dN D 2 ∧ D 10 i = nI w) ∧ inR (D 11 i) 0 99) ∧
  (∀ i, i < dN D 4 → (∃ h, h < dN D 0 ∧ D 12 i = nI h) ∧ inR (D 13 i) 1 5) ∧ (∀ i, i < dN D 5 → inR (D 14 i) 0 60 ∧ inR (D 15 i) 1 9) ∧ (∀ i, i < dN D 6 → inR (D 16 i) 0 8 ∧ inR (D 17 i) 16 40)
def WF (D : oD) : Prop := WFc D ∧ WFh D ∧ WFt D ∧ WFo D ∧ WFr D
theorem WF.c (h : WF D) : WFc D := h.1
theorem WF.h (h : WF D) : WFh D := h.2.1
theorem WF.t (h : WF D) : WFt D := h.2.2.1
theorem WF.u (h : WF D) : WFo D := h.2.2.2.1
theorem WF.q (h : WF D) : WFr D := h.2.2.2.2
theorem tol_1 (h : WF D) {i : Nat} (hi : i < 7) (hn : 0 < dN D i) : tol D = 1 := by
  rcases h.u with ⟨-, z⟩ | ⟨⟨y, h1, h2, e⟩, -⟩
  · have := z i hi
    omega
  · unfold tol
    rw [e, if_neg (nI_nle (by omega) (by omega))]
theorem tol_01 : tol D = 0 ∨ tol D = 1 := by
  unfold tol
  by_cases c : D 0 0 ≤ 0
  · exact Or.inl (if_pos c)
  · exact Or.inr (if_neg c)
theorem tol_0 (h : WF D) (t : tol D = 0) {i : Nat} (hi : i < 7) : dN D i = 0 := by
  by_cases c : dN D i = 0
  · exact c
  · rw [tol_1 h hi (by omega)] at t
    exact absurd t (by decide)
/-- now -/
def WFs (D : oD) (s : Nat → Int32) : Prop := (∃ l, l ≤ 30 ∧ s 0 = nI l) ∧ (∃ h, h < 6 ∧ (h < dN D 0 ∨ dN D 0 = 0) ∧ s 1 = nI h) ∧ (∃ f, f ≤ dN D 2 ∧ s 2 = nI f) ∧ (∃ z, z ≤ 65536 ∧ s 3 = nI z) ∧ (∃ b, b < 2 ^ dN D 4 ∧ s 5 = nI b)
-- refusals
def ixS (v : Int32) (n : Nat) : Int32 := if v < 0 then 1 else if nI n ≤ v then 1 else 0
def nuS (v a b : Int32) : Int32 := if v < a then 2 else if b < v then 2 else 0
def eiS (a b : Int32) : Int32 := if a = 0 then b else a
def ixB (v : Int32) (n : Nat) : Int32 := if ixS v n = 0 then 1 else 0
def inS (v a b : Int32) : Int32 := if v < a then 0 else if b < v then 0 else 1
def hbS (s k : Int32) : Int32 := if (s >>> (k &&& 31)) &&& 1 = 1 then 1 else 0
theorem nzb {v : Int32} (h : v = 0 ∨ v = 1) : narrow .boolean (.int v) = .int v := by rcases h with rfl | rfl <;> decide
theorem if01 {c : Prop} [Decidable c] {a b : Int32} (h1 : a = 0 ∨ a = 1) (h2 : b = 0 ∨ b = 1) : (if c then a else b) = 0 ∨ (if c then a else b) = 1 := by
  by_cases z : c
  · rw [if_pos z]; exact h1
  · rw [if_neg z]; exact h2
theorem z0 : (0 : Int32) = 0 ∨ (0 : Int32) = 1 := Or.inl rfl
theorem z1 : (1 : Int32) = 0 ∨ (1 : Int32) = 1 := Or.inr rfl
theorem in01 {v a b : Int32} : inS v a b = 0 ∨ inS v a b = 1 := if01 z0 (if01 z0 z1)
theorem hb01 {s k : Int32} : hbS s k = 0 ∨ hbS s k = 1 := if01 z1 z0
theorem ix01 {v : Int32} {n : Nat} : ixS v n = 0 ∨ ixS v n = 1 := if01 z1 (if01 z1 z0)
theorem ixB01 {v : Int32} {n : Nat} : ixB v n = 0 ∨ ixB v n = 1 := if01 z1 z0
theorem ix_ok {n w : Nat} (h : w < n) (hn : n < 1000) : ixS (nI w) n = 0 := by
  unfold ixS
  rw [if_neg (nI_pos (by omega)), if_neg (nI_ge h (by omega))]
theorem ix_of {n : Nat} {v : Int32} (hn : n < 1000) (h : ixS v n = 0) : ∃ w, w < n ∧ v = nI w := by
  unfold ixS at h
  by_cases c : v < 0
  · rw [if_pos c] at h; exact absurd h (by decide)
  · by_cases c2 : nI n ≤ v
    · rw [if_neg c, if_pos c2] at h; exact absurd h (by decide)
    · obtain ⟨j, hj, rfl⟩ := nI_of c
      refine ⟨j, ?_, rfl⟩
      rw [nI_leI (by omega) hj] at c2
      omega
theorem ixB_ok {n w : Nat} (h : w < n) (hn : n < 1000) : ixB (nI w) n = 1 := if_pos (ix_ok h hn)
theorem nu_ok {a b n : Nat} (h1 : a ≤ n) (h2 : n ≤ b) (hb : b < 2 ^ 31) : nuS (nI n) (nI a) (nI b) = 0 := by
  unfold nuS
  rw [if_neg (nI_nlt h1 (by omega)), if_neg (nI_nlt h2 (by omega))]
theorem nu_of {a b : Nat} {v : Int32} (hb : b < 2 ^ 31) (ha : a < 2 ^ 31) (h : nuS v (nI a) (nI b) = 0) : ∃ n, a ≤ n ∧ n ≤ b ∧ v = nI n := by
  unfold nuS at h
  by_cases c : v < nI a
  · rw [if_pos c] at h; exact absurd h (by decide)
  · by_cases c2 : nI b < v
    · rw [if_neg c, if_pos c2] at h; exact absurd h (by decide)
    · have c0 : ¬ v < 0 := fun z => c (Int32.lt_iff_toInt_lt.mpr (by have := Int32.lt_iff_toInt_lt.mp z; rw [nI_toInt ha]; simp at this ⊢; omega))
      obtain ⟨j, hj, rfl⟩ := nI_of c0
      rw [nI_ltI hj ha] at c
      rw [nI_ltI hb hj] at c2
      exact ⟨j, by omega, by omega, rfl⟩
theorem nu02 {v a b : Int32} : nuS v a b = 0 ∨ nuS v a b = 2 := by
  unfold nuS
  by_cases c : v < a
  · exact Or.inr (if_pos c)
  · by_cases c2 : b < v
    · exact Or.inr (by rw [if_neg c, if_pos c2])
    · exact Or.inl (by rw [if_neg c, if_neg c2])
theorem ei_0 {a b : Int32} (h : eiS a b = 0) : a = 0 ∧ b = 0 := by
  unfold eiS at h
  by_cases c : a = 0
  · rw [if_pos c] at h; exact ⟨c, h⟩
  · rw [if_neg c] at h; exact absurd h c
theorem ei_00 {b : Int32} : eiS 0 b = b := if_pos rfl
theorem in_nu {v a b : Int32} : inS v a b = if nuS v a b = 0 then 1 else 0 := by
  unfold inS nuS
  by_cases c : v < a
  · simp [c]
  · by_cases c2 : b < v
    · simp [c, c2]
    · simp [c, c2]
end
