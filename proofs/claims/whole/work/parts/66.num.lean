/-! How large LOVE is; what follows for both sides. -/
theorem gN_inv {α : Type} {f : Nat → α → α} (R : α → Prop) : ∀ m j a, R a → (∀ k a, j ≤ k → k < j + m → R a → R (f k a)) → R (gN f j m a)
  | 0, _, _, h, _ => h
  | m + 1, j, a, h, hf => gN_inv R m (j + 1) _ (hf j a (by omega) (by omega) h) (fun k a h1 h2 => hf k a (by omega) (by omega))
theorem gN_cg {α : Type} {f g : Nat → α → α} (R : α → Prop) : ∀ m j a, R a → (∀ k a, j ≤ k → k < j + m → R a → R (f k a)) → (∀ k a, j ≤ k → k < j + m → R a → f k a = g k a) → gN f j m a = gN g j m a
  | 0, _, _, _, _, _ => rfl
  | m + 1, j, a, h, hf, he => by
    rw [gN, gN, ← he j a (by omega) (by omega) h]
    exact gN_cg R m (j + 1) _ (hf j a (by omega) (by omega) h) (fun k a h1 h2 => hf k a (by omega) (by omega)) (fun k a h1 h2 => he k a (by omega) (by omega))
theorem gN_c {α : Type} {f g : Nat → α → α} {m j : Nat} {a : α} (he : ∀ k a, j ≤ k → k < j + m → f k a = g k a) : gN f j m a = gN g j m a := gN_cg (fun _ => True) m j a trivial (fun _ _ _ _ _ => trivial) (fun k a h1 h2 _ => he k a h1 h2)
theorem gN_snoc {α : Type} {f : Nat → α → α} : ∀ m j a, gN f j (m + 1) a = f (j + m) (gN f j m a)
  | 0, _, _ => rfl
  | m + 1, j, a => by
    rw [gN, gN_snoc m (j + 1), gN, show j + 1 + m = j + (m + 1) by omega]
theorem gN_add {α : Type} {f : Nat → α → α} : ∀ m n j a, gN f j (m + n) a = gN f (j + m) n (gN f j m a)
  | 0, n, j, a => by rw [Nat.zero_add]; rfl
  | m + 1, n, j, a => by
    rw [show m + 1 + n = (m + n) + 1 by omega, gN, gN_add m n (j + 1), gN, show j + 1 + m = j + (m + 1) by omega]
theorem hR {a b n : Nat} (h1 : a ≤ n) (h2 : n ≤ b) : inR (nI n) a b := ⟨n, h1, h2, rfl⟩
theorem mul_div {a b c : Nat} {x y : Int32} (ha : inR x 0 a) (hb : inR y 0 b) (hc : 0 < c) (h : a * b < 2 ^ 31) (hc2 : c < 2 ^ 31) : inR (x * y / nI c) 0 (a * b / c) := by
  obtain ⟨n, -, h1, rfl⟩ := ha
  obtain ⟨k, -, h2, rfl⟩ := hb
  have h3 : n * k ≤ a * b := Nat.mul_le_mul h1 h2
  rw [pk_mul, pk_div (by omega) hc hc2]
  exact hR (Nat.zero_le _) (Nat.div_le_div_right h3)
theorem sub_R {a b : Nat} {x : Int32} (h : inR x 0 b) (hb : b ≤ a) : inR (nI a - x) 0 a := by
  obtain ⟨n, -, h1, rfl⟩ := h
  rw [pk_sub (by omega)]
  exact hR (Nat.zero_le _) (by omega)
theorem inR_up {x : Int32} {a b c d : Nat} (h : inR x a b) (h1 : c ≤ a) (h2 : b ≤ d) : inR x c d := by
  obtain ⟨n, h3, h4, rfl⟩ := h
  exact hR (by omega) (by omega)
theorem half_R {x : Int32} (h : inR x 0 99) : inR (x / 2) 0 49 := by
  obtain ⟨n, -, h1, rfl⟩ := h
  rw [show (2 : Int32) = nI 2 from rfl, pk_div (by omega) (by omega) (by omega)]
  exact hR (Nat.zero_le _) (by omega)
theorem heart_R {D : oD} (hW : WF D) {w : Nat} (hw : w < dN D 2) (y : Int32) : inR (heartS D w y) 0 99 := by
  have h0 : inR 0 0 99 := hR (n := 0) (by omega) (by omega)
  have hlt := hm_lt hW.c hW.h hw
  have r8 : inR (D 8 w) 0 99 := (hW.q.2.2.1 w hw).2.1
  have r3 := (hW.q.1 _ hlt).1
  have r4 := (hW.q.1 _ hlt).2
  have p : inR (D 8 w * (200 - D 3 (D 7 w).toNatClampNeg) / 200) 0 99 := mul_div (c := 200) r8 (sub_R (a := 200) r3 (by omega)) (by omega) (by omega) (by omega)
  have q := inR_up (half_R r4) (Nat.le_refl _) (show 49 ≤ 99 by omega)
  have p2 := inR_up (half_R p) (Nat.le_refl _) (show 49 ≤ 99 by omega)
  unfold heartS
  split
  · exact h0
  · split
    · exact r8
    · split
      · split
        · exact q
        · exact p
      · split
        · exact p2
        · exact p
theorem love_R {D : oD} (hW : WF D) {w : Nat} (hw : w < dN D 2) (y : Int32) : inR (loveS D w y) 0 99 := by
  unfold loveS
  refine gN_inv (fun x => inR x 0 99) _ _ _ (heart_R hW hw y) ?_
  intro k a h1 h2 ha
  split
  · have r := (hW.q.2.2.2.1 k (by omega)).2
    exact inR_up (mul_div (c := 100) (b := 100) ha (sub_R (a := 100) r (by omega)) (by omega) (by omega) (by omega)) (by omega) (by omega)
  · exact ha
/-- LOVE as a number -/
def loveN (D : oD) (w : Nat) (y : Int32) : Nat := (loveS D w y).toNatClampNeg
theorem love_n {D : oD} (hW : WF D) {w : Nat} (hw : w < dN D 2) (y : Int32) : loveS D w y = nI (loveN D w y) ∧ loveN D w y ≤ 99 := by
  obtain ⟨n, -, h1, e⟩ := love_R hW hw y
  unfold loveN
  rw [e, nI_cl (by omega)]
  exact ⟨rfl, h1⟩
theorem pow_n {D : oD} (hT : WFt D) {x : Nat} : powS D (lN x) = lN (x ^ tN D) := by
  unfold powS
  have : ∀ m j a, gN (fun _ a => a * lN x) j m (lN a) = lN (a * x ^ m) := by
    intro m
    induction m with
    | zero => intro j a; simp [gN]
    | succ m ih =>
      intro j a
      rw [gN, lN_mul, ih, Nat.pow_succ, Nat.mul_assoc, Nat.mul_comm x]
  have h := this (tN D) 0 1
  rw [Nat.one_mul] at h
  exact h
theorem pow_lt {D : oD} (hT : WFt D) {x : Nat} (h : x ≤ 100) : x ^ tN D ≤ 1000000 := by
  have h1 : x ^ tN D ≤ 100 ^ tN D := Nat.pow_le_pow_left h _
  have h2 : 100 ^ tN D ≤ 100 ^ 3 := Nat.pow_le_pow_right (by omega) hT.2
  omega
/-- belle -/
theorem belle_eq {D : oD} (hW : WF D) {h : Nat} (hh : h < dN D 0) {l : Int32} : (gN (belF D (nI h) l) 0 (dN D 2) (-2, 0)).1 = dearS D (bit h) 0 l := by
  unfold dearS
  have b0 := hW.c.2.1
  congr 1
  refine gN_c (fun w a _ hw => ?_)
  unfold belF dearF
  obtain ⟨q, h1, e⟩ := hW.h w (by omega)
  have e2 : (0 : Int32) >>> (nI w &&& 31) &&& 1 = 0 := by
    have := hW.c.2.2.2.1
    rw [tb_0 (by omega)]
    exact tb_z
  rw [e, if_pos e2]
  by_cases c : h = q
  · subst c
    have n : ¬ bit h >>> (nI h &&& 31) &&& 1 = 0 := by
      rw [tb_0 (by omega), tb_bit (by omega) (by omega)]
      simp
    rw [if_pos rfl, if_neg n]
  · have n : bit h >>> (nI q &&& 31) &&& 1 = 0 := by
      rw [tb_0 (by omega), tb_bit (by omega) (by omega)]
      simp [c]
    rw [if_neg (fun z => c ((nI_eq (by omega) (by omega)).mp z).symm), if_pos n]
/-- the best years -/
theorem yS_R {D : oD} (hW : WF D) (y : Int32) : inR (yS D y) 0 800 := by
  have b2 := hW.c.2.2.2.1
  have : ∀ m j a, j + m ≤ dN D 2 → ∃ n, n ≤ a + 99 * m ∧ gN (fun w a => a + loveS D w y) j m (nI a) = nI n := by
    intro m
    induction m with
    | zero => intro j a _; exact ⟨a, by omega, rfl⟩
    | succ m ih =>
      intro j a hj
      obtain ⟨e, h9⟩ := love_n hW (show j < dN D 2 by omega) y
      rw [gN, e, nI_add]
      obtain ⟨n, h1, h2⟩ := ih (j + 1) (a + loveN D j y) (by omega)
      exact ⟨n, by omega, h2⟩
  obtain ⟨n, h1, h2⟩ := this (dN D 2) 0 0 (by omega)
  exact ⟨n, by omega, by omega, h2⟩
theorem years_go {D : oD} {l : Int32} : ∀ m j (b : Int32), gN (byC D l) j m (b, yS D (l * b)) = (gN (byF D l) j m b, yS D (l * gN (byF D l) j m b))
  | 0, _, _ => rfl
  | m + 1, j, b => by
    rw [gN, gN]
    unfold byC byF
    by_cases c : yS D (l * nI j) ≤ yS D (l * b)
    · simp only [c, ↓reduceIte]
      exact years_go m (j + 1) b
    · simp only [c, ↓reduceIte]
      exact years_go m (j + 1) (nI j)
theorem years_eq {D : oD} (hW : WF D) {l : Int32} : gN (byF D l) 6 4 5 = (gN (byC D l) 5 5 (5, -1)).1 := by
  have e : byC D l 5 (5, -1) = (5, yS D (l * 5)) := by
    unfold byC
    rw [if_neg]
    · rfl
    · obtain ⟨n, -, h1, e⟩ := yS_R hW (l * nI 5)
      rw [e, Int32.not_le, Int32.lt_iff_toInt_lt, nI_toInt (by omega)]
      show (-1 : Int) < n
      omega
  have := years_go (D := D) (l := l) 4 6 5
  rw [show gN (byC D l) 5 5 (5, -1) = gN (byC D l) 6 4 (byC D l 5 (5, -1)) from rfl, e, this]

/-- bells -/
theorem ones_bc : ∀ n, n < 64 → onesS (nI n) = bcS (nI n) := by decide +kernel
theorem bc_all : ∀ H, H < 7 → ∀ n, n < 2 ^ H → bcS (nI n) ≤ bcS (nI (2 ^ H - 1)) := by decide +kernel
theorem nI_inH {D : oD} {b : Nat} (h : b < 2 ^ dN D 0) : inH D (nI b) := fun j h1 h2 => tb_lt h h1 h2
theorem bells_eq {D : oD} (hW : WF D) : gN (bellM D) 0 (2 ^ dN D 0) ((1 : Int32) <<< (nI (dN D 0) &&& 31) - 1) = bellsS D := by
  have b0 := hW.c.2.1
  have hp : 0 < 2 ^ dN D 0 := Nat.two_pow_pos _
  have hp6 : 2 ^ dN D 0 ≤ 64 := Nat.pow_le_pow_right (n := 2) (by omega) (show dN D 0 ≤ 6 by omega)
  rw [nI_all (by omega)]
  obtain ⟨n, hn⟩ : ∃ n, 2 ^ dN D 0 = n + 1 := ⟨2 ^ dN D 0 - 1, by omega⟩
  have hA : ∀ a : Int32, (∃ k, k < 2 ^ dN D 0 ∧ a = nI k) → onesS a = bcS a := by
    rintro a ⟨k, h1, rfl⟩
    exact ones_bc k (by omega)
  have hstep : ∀ k a, k < 2 ^ dN D 0 → (∃ k, k < 2 ^ dN D 0 ∧ a = nI k) → bellM D k a = bellsF D k a := by
    intro k a hk ha
    unfold bellM bellsF
    rw [nI_all (by omega), step_eq hW.c (nI_inH hk), hA a ha, ones_bc k (by omega)]
    by_cases c1 : reachAllS D (nI k) = nI (2 ^ dN D 0 - 1)
    · rw [if_pos c1]
      by_cases c2 : bcS a ≤ bcS (nI k)
      · rw [if_pos c2, if_pos c2]
      · rw [if_neg c2, if_neg c2, if_pos c1]
    · rw [if_neg c1, if_neg c1]
      by_cases c2 : bcS a ≤ bcS (nI k)
      · rw [if_pos c2]
      · rw [if_neg c2]
  have hinv : ∀ k a, k < 2 ^ dN D 0 → (∃ k, k < 2 ^ dN D 0 ∧ a = nI k) → ∃ k', k' < 2 ^ dN D 0 ∧ bellsF D k a = nI k' := by
    intro k a hk ha
    unfold bellsF
    split
    · exact ha
    · split
      · exact ⟨k, hk, rfl⟩
      · exact ha
  have h0 : ∃ k, k < 2 ^ dN D 0 ∧ nI (2 ^ dN D 0 - 1) = nI k := ⟨2 ^ dN D 0 - 1, by omega, rfl⟩
  unfold bellsS
  rw [show (2 ^ dN D 0 : Nat) - 1 = n by omega] at h0 ⊢
  rw [gN_cg (g := bellsF D) (fun a => ∃ k, k < 2 ^ dN D 0 ∧ a = nI k) (2 ^ dN D 0) 0 (nI n) h0 (fun k a _ h2 ha => by rw [hstep k a (by omega) ha]; exact hinv k a (by omega) ha) (fun k a _ h2 ha => hstep k a (by omega) ha)]
  have hl := gN_inv (f := bellsF D) (fun a => ∃ k, k < 2 ^ dN D 0 ∧ a = nI k) n 0 (nI n) h0 (fun k a _ h2 ha => hinv k a (by omega) ha)
  rw [hn, gN_snoc]
  obtain ⟨k, h1, e⟩ := hl
  rw [e, Nat.zero_add]
  unfold bellsF
  rw [if_pos]
  have := bc_all (dN D 0) (by omega) k h1
  rw [show (2 ^ dN D 0 : Nat) - 1 = n by omega] at this
  exact this
/-- lost -/
theorem soon_of {D : oD} {s : Nat → Int32} {h : Int32} (hD : WFc D) (hS : WFs D s) : soonS D s h = -2 ∨ ∃ n, soonS D s h = nI n ∧ n < 1000 := by
  unfold soonS
  obtain ⟨⟨l, hl, el⟩, -⟩ := hS
  split
  · rcases apS_of (a := (s 1).toNatClampNeg) (b := h) hD with e | ⟨n, h1, e⟩
    · rw [if_pos e]
      exact Or.inl rfl
    · rw [e, if_neg (nI_m2 (by omega)), el]
      right
      split
      · exact ⟨l + n, by rw [nI_add], by omega⟩
      · exact ⟨l + 1, by rw [show (1 : Int32) = nI 1 from rfl, nI_add], by omega⟩
  · exact Or.inl rfl
theorem soon_lt {D : oD} {s : Nat → Int32} {h : Int32} (hD : WFc D) (hS : WFs D s) : soonS D s h < 0 ↔ soonS D s h = -2 := by
  rcases soon_of (h := h) hD hS with e | ⟨n, e, hn⟩
  · rw [e]
    decide
  · rw [e]
    exact ⟨fun z => absurd z (nI_pos (by omega)), fun z => absurd z (nI_m2 hn)⟩
theorem lost_eq {D : oD} {s : Nat → Int32} (hW : WF D) (hS : WFs D s) : gN (lostF D s) 0 (dN D 4) 0 = gN (lostC D s) 0 (dN D 4) 0 &&& (s 5 ^^^ -1) := by
  have b4 := hW.c.2.2.2.2.2.1
  apply tb_ext
  intro i hi
  have e : ∀ m j x y, j + m ≤ 6 → (tb x i = (tb y i && !tb (s 5) i)) → tb (gN (lostF D s) j m x) i = (tb (gN (lostC D s) j m y) i && !tb (s 5) i) := by
    intro m
    induction m with
    | zero => intro j x y _ h; exact h
    | succ m ih =>
      intro j x y hj h
      rw [gN, gN]
      refine ih (j + 1) _ _ (by omega) ?_
      unfold lostF lostC
      rw [hb_tb (by omega)]
      have q := soon_lt (h := D 12 j) hW.c hS
      have hbit : tb (bit j) i = decide (j = i) := tb_bit (by omega) hi
      by_cases c0 : j = i
      · subst c0
        cases h5 : tb (s 5) j
        · rw [h5] at h
          simp only [Bool.false_eq_true, ↓reduceIte, Bool.not_false, Bool.and_true] at h ⊢
          by_cases c1 : soonS D s (D 12 j) = -2
          · rw [if_pos (q.mpr c1), if_pos c1, tb_or, tb_or, h]
          · rw [if_neg (fun z => c1 (q.mp z)), if_neg c1]
            split
            · exact h
            · rw [tb_or, tb_or, h]
        · rw [h5] at h
          simp only [Bool.not_true, Bool.and_false] at h ⊢
          rw [if_neg (by simp)]
          exact h
      · have hz : ∀ z : Int32, tb (z ||| bit j) i = tb z i := by
          intro z
          rw [tb_or, hbit]
          simp [c0]
        have e1 : ∀ (c1 c2 c3 : Prop) [Decidable c1] [Decidable c2] [Decidable c3], tb (if c1 then (if c2 then x ||| bit j else if c3 then x else x ||| bit j) else x) i = tb x i := by
          intro c1 c2 c3 _ _ _
          split
          · split
            · exact hz x
            · split
              · rfl
              · exact hz x
          · rfl
        have e2 : ∀ (c2 c3 : Prop) [Decidable c2] [Decidable c3], tb (if c2 then y ||| bit j else if c3 then y else y ||| bit j) i = tb y i := by
          intro c2 c3 _ _
          split
          · exact hz y
          · split
            · rfl
            · exact hz y
        rw [e1, e2]
        exact h
  rw [e (dN D 4) 0 0 0 (by omega) (by rw [tb_z]; rfl), tb_and, tb_not hi]
/-- rests -/
theorem rst_div {j : Nat} (h : j < 1000) : nI j / 10 = nI (j / 10) ∧ nI j - nI j / 10 * 10 = nI (j % 10) := by
  have e : (10 : Int32) = nI 10 := rfl
  rw [e]
  exact ⟨pk_div (by omega) (by omega) (by omega), pk_rem (by omega) (by omega) (by omega)⟩
def rstP (v : Int32) (j : Nat) (z : Int32 × Int32) : Int32 × Int32 := if resS v (nI (j / 10)) (nI (j % 10)) = 0 then z else (z.1 + 1, if z.1 = 0 then nI j else z.2)
theorem gN_spl {α : Type} {f : Nat → Nat → α → α} {g : Nat → α → α} {K : Nat} (h : ∀ a b z, b < K → f a b z = g (K * a + b) z) : ∀ m j z, gN (fun a z => gN (f a) 0 K z) j m z = gN g (K * j) (K * m) z
  | 0, j, z => by rw [Nat.mul_zero, gN, gN]
  | m + 1, j, z => by
    rw [gN, gN_spl h m (j + 1), show K * (m + 1) = K + K * m by rw [Nat.mul_succ, Nat.add_comm], gN_add, show K * j + K = K * (j + 1) by rw [Nat.mul_succ]]
    congr 1
    have e2 : ∀ n k z, k + n ≤ K → gN (f j) k n z = gN g (K * j + k) n z := by
      intro n
      induction n with
      | zero => intro k z _; rw [gN, gN]
      | succ n ih =>
        intro k z hk
        rw [gN, gN, ih (k + 1) _ (by omega), h j k z (by omega), Nat.add_assoc]
    exact e2 K 0 z (by omega)
theorem rests_P {v : Int32} : restsS v = gN (rstP v) 0 100 (0, -2) := by
  unfold restsS
  refine (gN_spl (f := restF v) (g := rstP v) (K := 10) (fun a b z hb => ?_) 10 0 (0, -2)).trans ?_
  · unfold restF rstP
    rw [show (10 * a + b) / 10 = a by omega, show (10 * a + b) % 10 = b by omega]
  · rw [Nat.mul_zero, show 10 * 10 = 100 from rfl]
theorem rstP_1 {v : Int32} : ∀ m j n f, j + m ≤ 100 → (gN (rstP v) j m (n, f)).1 = gN (rstC v) j m n
  | 0, _, _, _, _ => rfl
  | m + 1, j, n, f, h => by
    rw [gN, gN]
    unfold rstP rstC
    rw [(rst_div (j := j) (by omega)).1, show nI j - nI (j / 10) * 10 = nI (j % 10) by rw [← (rst_div (j := j) (by omega)).1]; exact (rst_div (by omega)).2]
    by_cases c : resS v (nI (j / 10)) (nI (j % 10)) = 0
    · rw [if_pos c, if_pos c]
      exact rstP_1 m (j + 1) n f (by omega)
    · rw [if_neg c, if_neg c]
      exact rstP_1 m (j + 1) _ _ (by omega)
theorem rstP_s {v : Int32} : ∀ m j n f, j + m ≤ 100 → 0 < n → n + m < 1000 → (gN (rstP v) j m (nI n, f)).2 = f
  | 0, _, _, _, _, _, _ => rfl
  | m + 1, j, n, f, h, h0, h1 => by
    rw [gN]
    unfold rstP
    by_cases c : resS v (nI (j / 10)) (nI (j % 10)) = 0
    · rw [if_pos c]
      exact rstP_s m (j + 1) n f (by omega) h0 (by omega)
    · rw [if_neg c, if_neg (show ¬ (nI n, f).1 = 0 from nI_ne0 h0 (by omega))]
      rw [show (nI n, f).1 + 1 = nI (n + 1) from nI_1 n]
      exact rstP_s m (j + 1) (n + 1) f (by omega) (by omega) (by omega)
theorem rstP_2 {v : Int32} : ∀ m j, j + m ≤ 100 → (gN (rstP v) j m (0, -2)).2 = rs1C v j m
  | 0, _, _ => rfl
  | m + 1, j, h => by
    rw [gN, rs1C]
    unfold rstP
    rw [(rst_div (j := j) (by omega)).1, show nI j - nI (j / 10) * 10 = nI (j % 10) by rw [← (rst_div (j := j) (by omega)).1]; exact (rst_div (by omega)).2]
    by_cases c : resS v (nI (j / 10)) (nI (j % 10)) = 0
    · rw [if_pos c, if_pos c]
      exact rstP_2 m (j + 1) (by omega)
    · rw [if_neg c, if_neg c]
      exact rstP_s m (j + 1) 1 _ (by omega) (by omega) (by omega)
theorem rests_eq {v : Int32} : (restsS v).1 = gN (rstC v) 0 100 0 := by rw [rests_P]; exact rstP_1 100 0 0 _ (by omega)
theorem rest_eq {v : Int32} : (restsS v).2 = rs1C v 0 100 := by rw [rests_P]; exact rstP_2 100 0 (by omega)
/-- judge -/
theorem fit_any {D : oD} {k : Nat} (hD : WFc D) : fitS D k = 0 ↔ gN (anyF D k) 0 (dN D 2) 0 = 0 := by
  have b2 := hD.2.2.2.1
  have e : ∀ m j (x y : Int32), j + m ≤ 8 → (x = 0 ↔ y = 0) → (gN (fun w a => if D 16 k * D 0 0 - D 9 w = D 17 k then a ||| bit w else a) j m x = 0 ↔ gN (anyF D k) j m y = 0) := by
    intro m
    induction m with
    | zero => intro j x y _ h; exact h
    | succ m ih =>
      intro j x y hj h
      rw [gN, gN]
      refine ih (j + 1) _ _ (by omega) ?_
      unfold anyF wasS
      by_cases c : D 16 k * D 0 0 - D 9 j = D 17 k
      · rw [if_pos c, if_pos c, if_neg (show ¬ (1 : Int32) = 0 by decide)]
        constructor
        · intro z
          have : tb (x ||| bit j) j = tb 0 j := by rw [z]
          rw [tb_or, tb_bit (by omega) (by omega), tb_z] at this
          simp at this
        · intro z
          split at z <;> exact absurd z (by decide)
      · rw [if_neg c, if_neg c, if_pos rfl]
        by_cases c2 : y = 0
        · rw [if_pos c2]
          exact ⟨fun _ => rfl, fun _ => h.mpr c2⟩
        · rw [if_neg c2]
          exact ⟨fun z => absurd (h.mp z) c2, fun z => absurd z (by decide)⟩
  exact e _ _ _ _ (by omega) Iff.rfl
theorem jud_eq {D : oD} (hD : WFc D) : ∀ m j, judM D j m = judC D j m
  | 0, _ => rfl
  | m + 1, j => by
    rw [judM, judC, jud_eq hD m (j + 1)]
    by_cases c : fitS D j = 0
    · rw [if_pos c, if_pos ((fit_any hD).mp c)]
    · rw [if_neg c, if_neg (fun z => c ((fit_any hD).mpr z))]

