/-! Rows of those whom it had nearly been: what is counted. -/
section
variable {I : Nat → Nat → Int32} {F : Nat → Nat → Option Nat}
theorem sf_88 {i : Nat} (h : i < 4) : SH[89 + i]? = some (12, 8) := by
  rcases (show i = 0 ∨ i = 1 ∨ i = 2 ∨ i = 3 by omega) with rfl | rfl | rfl | rfl <;> rfl
theorem fm_88 {i : Nat} (hF : RFok F) (h : i < 4) : F 88 i = some (89 + i) := by
  rcases (show i = 0 ∨ i = 1 ∨ i = 2 ∨ i = 3 by omega) with rfl | rfl | rfl | rfl
  · exact r_88_0 hF
  · exact r_88_1 hF
  · exact r_88_2 hF
  · exact r_88_3 hF
theorem sf_68 {i : Nat} (h : i < 3) : SH[69 + i]? = some (13, 8) := by
  rcases (show i = 0 ∨ i = 1 ∨ i = 2 by omega) with rfl | rfl | rfl <;> rfl
theorem fm_68 {i : Nat} (hF : RFok F) (h : i < 3) : F 68 i = some (69 + i) := by
  rcases (show i = 0 ∨ i = 1 ∨ i = 2 by omega) with rfl | rfl | rfl
  · exact r_68_0 hF
  · exact r_68_1 hF
  · exact r_68_2 hF
theorem sf_75 {i : Nat} (h : i < 5) : SH[76 + i]? = some (12, 6) := by
  rcases (show i = 0 ∨ i = 1 ∨ i = 2 ∨ i = 3 ∨ i = 4 by omega) with rfl | rfl | rfl | rfl | rfl <;> rfl
theorem fm_75 {i : Nat} (hF : RFok F) (h : i < 5) : F 75 i = some (76 + i) := by
  rcases (show i = 0 ∨ i = 1 ∨ i = 2 ∨ i = 3 ∨ i = 4 by omega) with rfl | rfl | rfl | rfl | rfl
  · exact r_75_0 hF
  · exact r_75_1 hF
  · exact r_75_2 hF
  · exact r_75_3 hF
  · exact r_75_4 hF
theorem sf_45 {i : Nat} (h : i < 3) : SH[62 + i]? = some (3, 6) := by
  rcases (show i = 0 ∨ i = 1 ∨ i = 2 by omega) with rfl | rfl | rfl <;> rfl
theorem fm_45 {i : Nat} (hF : RFok F) (h : i < 3) : F 45 i = some (62 + i) := by
  rcases (show i = 0 ∨ i = 1 ∨ i = 2 by omega) with rfl | rfl | rfl
  · exact r_45_0 hF
  · exact r_45_1 hF
  · exact r_45_2 hF
theorem A_u {p k j n : Nat} {v : Int32} {f : Nat → Int32} (h : ∀ i, i < n → I p i = f i) (hk : p ≠ k) : ∀ i, i < n → hp_u I k j v p i = f i := fun i hi => (congrFun (hu_ne hk) i).trans (h i hi)
theorem B_u {b k j n m : Nat} {v : Int32} {f : Nat → Nat → Int32} (h : ∀ i, i < n → ∀ w, w < m → I (b + i) w = f i w) (hk : k < b ∨ b + n ≤ k) : ∀ i, i < n → ∀ w, w < m → hp_u I k j v (b + i) w = f i w := fun i hi w hw => (congrFun (hu_ne (by omega)) w).trans (h i hi w hw)
end
abbrev gA : Type := Int32 × (Nat → Int32) × (Nat → Nat → Int32)
def setS (N : Nat) (row : Nat → Nat) (a : gA) : gA := (a.1 + 1, (fun i => if a.1 = 0 ∧ i < N then nI (row i) else a.2.1 i), fun i w => if i < N ∧ w = row i then a.2.2 i w + 1 else a.2.2 i w)
def upN (row : Nat → Nat) (k w : Nat) : Nat → Nat := fun i => if i = k then w else row i
def nrS (D : oD) (N : Nat) : Nat → Nat → Int32 → (Nat → Nat) → gA → gA
  | 0, _, _, row, a => setS N row a
  | d + 1, k, u, row, a => gN (fun w a => if hbS u (nI w) = 0 then (if wasS D k w = 0 then a else nrS D N d (k + 1) (u ||| bit w) (upN row k w) a) else a) 0 (dN D 2) a
def nearS (D : oD) : gA := nrS D (dN D 6) (dN D 6) 0 0 (fun _ => 0) (0, (fun _ => 0), fun _ _ => 0)
theorem tb_fit {D : oD} {k w : Nat} (hD : WFc D) (hw : w < dN D 2) : tb (fitS D k) w = decide (wasS D k w ≠ 0) := by
  have b2 := hD.2.2.2.1
  have e : ∀ m j x, j + m ≤ 8 → tb (gN (fun w a => if D 16 k * D 0 0 - D 9 w = D 17 k then a ||| bit w else a) j m x) w = (tb x w || (decide (j ≤ w ∧ w < j + m) && decide (wasS D k w ≠ 0))) := by
    intro m
    induction m with
    | zero => intro j x _; simp [gN]; intro h1 h2; omega
    | succ m ih =>
      intro j x hj
      rw [gN, ih (j + 1) _ (by omega)]
      by_cases c : j = w
      · subst c
        unfold wasS
        by_cases c2 : D 16 k * D 0 0 - D 9 j = D 17 k
        · rw [if_pos c2, if_pos c2, tb_or, tb_bit (by omega) (by omega)]
          simp
        · rw [if_neg c2, if_neg c2]
          simp
      · have e1 : tb (if D 16 k * D 0 0 - D 9 j = D 17 k then x ||| bit j else x) w = tb x w := by
          split
          · rw [tb_or, tb_bit (by omega) (by omega)]
            simp [c]
          · rfl
        rw [e1, show decide (j + 1 ≤ w ∧ w < j + 1 + m) = decide (j ≤ w ∧ w < j + (m + 1)) from decide_eq_decide.mpr (by omega)]
  unfold fitS
  rw [e _ _ _ (by omega), tb_z]
  simp [hw]
theorem near_c {D : oD} {k w : Nat} {u : Int32} (hD : WFc D) (hw : w < dN D 2) : ((fitS D k &&& (u ^^^ -1)) >>> (nI w &&& 31)) &&& 1 = 0 ↔ ¬ (hbS u (nI w) = 0 ∧ ¬ wasS D k w = 0) := by
  have b2 := hD.2.2.2.1
  rw [tb_0 (by omega), tb_and, tb_not (by omega), tb_fit hD hw, hb_tb (by omega)]
  cases tb u w <;> by_cases c : wasS D k w = 0 <;> simp [c]
def gI (N : Nat) (I : Nat → Nat → Int32) (a : gA) : Prop := I 85 3 = a.1 ∧ I 85 4 = nI N ∧ (∀ i, i < N → I 87 i = a.2.1 i) ∧ ∀ i, i < 4 → ∀ w, w < 8 → I (89 + i) w = a.2.2 i w
def gR (I : Nat → Nat → Int32) (p : Nat) (row : Nat → Nat) (k : Nat) : Prop := ∀ i, i < k → I p i = nI (row i)
