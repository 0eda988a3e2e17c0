/-! Letters: pruned or not, it comes to the same. -/
theorem bc_mono : ∀ a, a < 64 → ∀ b, b < 64 → (∀ j, j < 6 → a.testBit j = true → b.testBit j = true) → bcS (nI a) ≤ bcS (nI b) := by decide +kernel
theorem bc_0 : ∀ a, a < 64 → 0 ≤ bcS (nI a) := by decide +kernel
def inB (x : Int32) : Prop := ∀ j, 6 ≤ j → j < 32 → tb x j = false
theorem inB_of {x : Int32} (h : inB x) : ∃ b, b < 64 ∧ x = nI b := lt_of_tb (n := 6) (by omega) h
theorem bc_le {x y : Int32} (hx : inB x) (hy : inB y) (h : ∀ j, j < 32 → tb x j = true → tb y j = true) : bcS x ≤ bcS y := by
  obtain ⟨a, ha, rfl⟩ := inB_of hx
  obtain ⟨b, hb, rfl⟩ := inB_of hy
  refine bc_mono a ha b hb (fun j hj z => ?_)
  have := h j (by omega) (by rw [tb_nI (by omega)]; exact z)
  rw [tb_nI (by omega)] at this
  exact this
theorem bc_pos {x : Int32} (hx : inB x) : 0 ≤ bcS x := by
  obtain ⟨a, ha, rfl⟩ := inB_of hx
  exact bc_0 a ha
theorem ones_eq {x : Int32} (hx : inB x) : onesS x = bcS x := by
  obtain ⟨a, ha, rfl⟩ := inB_of hx
  exact ones_bc a ha
theorem tb_dueG {D : oD} {h l : Int32} {i : Nat} (hi : i < 32) : ∀ m j x, j + m ≤ 6 → tb (gN (fun k a => if D 12 k = h then (if D 13 k < l then a else a ||| bit k) else a) j m x) i = (tb x i || decide (j ≤ i ∧ i < j + m ∧ D 12 i = h ∧ ¬ D 13 i < l)) := by
  intro m
  induction m with
  | zero =>
    intro j x _
    have : ¬ (j ≤ i ∧ i < j + 0 ∧ D 12 i = h ∧ ¬ D 13 i < l) := fun z => by omega
    rw [gN, decide_eq_false this, Bool.or_false]
  | succ m ih =>
    intro j x hj
    have e : tb (if D 12 j = h then (if D 13 j < l then x else x ||| bit j) else x) i = (tb x i || decide (i = j ∧ D 12 i = h ∧ ¬ D 13 i < l)) := by
      by_cases c : i = j
      · subst c
        by_cases c1 : D 12 i = h
        · by_cases c2 : D 13 i < l
          · simp [c1, c2]
          · simp [c1, c2, tb_or, tb_bit hi hi]
        · simp [c1]
      · have c' : ¬ j = i := fun z => c z.symm
        rw [decide_eq_false (fun z => c z.1), Bool.or_false]
        split
        · split
          · rfl
          · rw [tb_or, tb_bit (by omega) hi, decide_eq_false c', Bool.or_false]
        · rfl
    rw [gN, ih (j + 1) _ (by omega), e, Bool.or_assoc, ← Bool.decide_or]
    congr 1
    rw [decide_eq_decide]
    constructor
    · rintro (⟨rfl, h1, h2⟩ | ⟨h0, h3, h1, h2⟩)
      · exact ⟨by omega, by omega, h1, h2⟩
      · exact ⟨by omega, by omega, h1, h2⟩
    · rintro ⟨h0, h3, h1, h2⟩
      by_cases c : i = j
      · exact Or.inl ⟨c, h1, h2⟩
      · exact Or.inr ⟨by omega, by omega, h1, h2⟩
theorem tb_due {D : oD} {h l : Int32} {i : Nat} (hD : WFc D) (hi : i < 32) : tb (dueS D h l) i = decide (i < dN D 4 ∧ D 12 i = h ∧ ¬ D 13 i < l) := by
  unfold dueS
  rw [tb_dueG hi _ _ _ (by have := hD.2.2.2.2.2.1; omega), tb_z, Bool.false_or, decide_eq_decide]
  simp
theorem due_in {D : oD} {h l : Int32} (hD : WFc D) : inB (dueS D h l) := by
  intro j h1 h2
  rw [tb_due hD h2, decide_eq_false (fun z => by have := hD.2.2.2.2.2.1; omega)]
theorem lan_n {D : oD} {s : Nat → Int32} (hS : WFs D s) : ∃ l, l ≤ 30 ∧ s 0 = nI l ∧ ∀ k, lan s k = nI (l + 1 + k) := by
  obtain ⟨⟨l, h1, e⟩, -⟩ := hS
  refine ⟨l, h1, e, fun k => ?_⟩
  unfold lan
  rw [e, nI_1, nI_add]
theorem tb_dueC {D : oD} {s : Nat → Int32} {k g j : Nat} (hj : j < 32) : tb (dueC D s k g) j = (tb (dueS D (nI g) (lan s k)) j && !tb (s 5) j) := by
  unfold dueC
  rw [tb_and, tb_not hj]
theorem dueC_in {D : oD} {s : Nat → Int32} {k g : Nat} (hD : WFc D) : inB (dueC D s k g) := by
  intro j h1 h2
  rw [tb_dueC h2, due_in hD j h1 h2, Bool.false_and]
theorem due_sub {D : oD} {s : Nat → Int32} {k k' g j : Nat} (hW : WF D) (hS : WFs D s) (h : k ≤ k') (hk : k' ≤ 5) (hj : j < 32) (z : tb (dueC D s k' g) j = true) : tb (dueC D s k g) j = true := by
  rw [tb_dueC hj, Bool.and_eq_true] at z ⊢
  refine ⟨?_, z.2⟩
  have z := z.1
  rw [tb_due hW.c hj, decide_eq_true_eq] at z ⊢
  obtain ⟨h1, h2, h3⟩ := z
  refine ⟨h1, h2, ?_⟩
  obtain ⟨l, hl, -, e⟩ := lan_n hS
  obtain ⟨b, -, hb, eb⟩ := (hW.q.2.2.2.2.1 j h1).2
  rw [e, eb, nI_ltI (by omega) (by omega)] at h3 ⊢
  omega
theorem tb_open {D : oD} {s : Nat → Int32} {k j : Nat} : tb (openS D s k) j = true ↔ ∃ g, g < dN D 0 ∧ tb (dueC D s k g) j = true := by
  unfold openS
  rw [tb_gN (p := fun g => tb (dueC D s k g) j) (fun g x => tb_or), tb_z, Bool.false_or, any_r]
theorem open_in {D : oD} {s : Nat → Int32} {k : Nat} (hD : WFc D) : inB (openS D s k) := by
  intro j h1 h2
  cases h : tb (openS D s k) j with
  | false => rfl
  | true =>
    obtain ⟨g, -, z⟩ := tb_open.mp h
    rw [dueC_in hD j h1 h2] at z
    exact absurd z (by decide)
theorem or_in {x y : Int32} (hx : inB x) (hy : inB y) : inB (x ||| y) := by
  intro j h1 h2
  rw [tb_or, hx j h1 h2, hy j h1 h2]
  rfl
def poU (D : oD) (s : Nat → Int32) (n : Nat) : Nat → Nat → Nat → Int32 → (Nat → Nat) → pA → pA
  | 0, _, _, br, row, a => setP n row (bcS br) a
  | d + 1, k, h, br, row, a => gN (fun g a => if canS D h (nI g) = 0 then a else poU D s n d (k + 1) g (br ||| dueC D s k g) (upN row k g) a) 0 (dN D 0) a
theorem poU_id {D : oD} {s : Nat → Int32} {n : Nat} {Y : Int32} (hD : WFc D) (hY : inB Y) : ∀ d k h br (row : Nat → Nat) (a : pA), (∀ k' g j, k ≤ k' → k' < k + d → g < dN D 0 → j < 32 → tb (dueC D s k' g) j = true → tb Y j = true) → inB br → (∀ j, j < 32 → tb br j = true → tb Y j = true) → bcS Y ≤ a.1 → poU D s n d k h br row a = a
  | 0, k, h, br, row, a, _, hb, hs, hl => if_pos (le_tr (bc_le hb hY hs) hl)
  | d + 1, k, h, br, row, a, hd, hb, hs, hl => by
    rw [poU]
    refine gN_inv (fun z => z = a) _ _ _ rfl ?_
    rintro g z h1 h2 rfl
    split
    · rfl
    · refine poU_id hD hY d (k + 1) g _ _ z (fun k' g j q1 q2 => hd k' g j (by omega) (by omega)) (or_in hb (dueC_in hD)) ?_ hl
      intro j hj q
      rw [tb_or, Bool.or_eq_true] at q
      exact q.elim (hs j hj) (hd k g j (by omega) (by omega) (by omega) hj)
theorem poC_eq {D : oD} {s : Nat → Int32} {n : Nat} (hW : WF D) (hS : WFs D s) (hn : n ≤ 5) : ∀ d k h br (row : Nat → Nat) (a : pA), k + d = n → inB br → poC D s n d k h br row a = poU D s n d k h br row a
  | 0, _, _, _, _, _, _, _ => rfl
  | d + 1, k, h, br, row, a, hk, hb => by
    rw [poC]
    by_cases c : bcS (br ||| openS D s k) ≤ a.1
    · rw [if_pos c]
      refine (poU_id hW.c (or_in hb (open_in hW.c)) (d + 1) k h br row a ?_ hb ?_ c).symm
      · intro k' g j h1 h2 hg hj z
        rw [tb_or, Bool.or_eq_true]
        exact Or.inr (tb_open.mpr ⟨g, hg, due_sub hW hS h1 (by omega) hj z⟩)
      · intro j hj z
        rw [tb_or, z, Bool.true_or]
    · rw [if_neg c, poU]
      refine gN_c (fun g z h1 h2 => ?_)
      split
      · rfl
      · exact poC_eq hW hS hn d (k + 1) g _ _ z (by omega) (or_in hb (dueC_in hW.c))
theorem poM_eq {D : oD} {s : Nat → Int32} {n : Nat} (hD : WFc D) : ∀ d k h br bm (row : Nat → Nat) (a : pA), br = bm &&& (s 5 ^^^ -1) → inB br → poM D s n d k h bm row a = poU D s n d k h br row a
  | 0, _, _, br, bm, row, a, e, hb => by
    rw [poM, poU, ← e, ones_eq hb]
  | d + 1, k, h, br, bm, row, a, e, hb => by
    rw [poM, poU]
    refine gN_c (fun g z h1 h2 => ?_)
    split
    · rfl
    · refine poM_eq hD d (k + 1) g _ _ _ z ?_ (or_in hb (dueC_in hD))
      rw [e]
      apply tb_ext
      intro j hj
      rw [tb_or, tb_and, tb_and, tb_or, tb_dueC hj, tb_not hj]
      cases tb bm j <;> cases tb (dueS D (nI g) (lan s k)) j <;> cases tb (s 5) j <;> rfl
def pQ (n : Nat) (a b : pA) : Prop := a.1 = b.1 ∧ (a.1 < 0 ∨ ∀ i, i < n → a.2 i = b.2 i)
theorem poU_Q {D : oD} {s : Nat → Int32} {n : Nat} : ∀ d k h br (row : Nat → Nat) (a b : pA), pQ n a b → pQ n (poU D s n d k h br row a) (poU D s n d k h br row b)
  | 0, k, h, br, row, a, b, q => by
    rw [poU, poU]
    unfold setP
    rw [q.1]
    by_cases c : bcS br ≤ b.1
    · rw [if_pos c, if_pos c]
      exact q
    · rw [if_neg c, if_neg c]
      exact ⟨rfl, Or.inr fun i hi => by simp only [hi, ↓reduceIte]⟩
  | d + 1, k, h, br, row, a, b, q => by
    rw [poU, poU]
    have : ∀ m j a b, pQ n a b → pQ n (gN (fun g a => if canS D h (nI g) = 0 then a else poU D s n d (k + 1) g (br ||| dueC D s k g) (upN row k g) a) j m a) (gN (fun g a => if canS D h (nI g) = 0 then a else poU D s n d (k + 1) g (br ||| dueC D s k g) (upN row k g) a) j m b) := by
      intro m
      induction m with
      | zero => intro j a b q; exact q
      | succ m ih =>
        intro j a b q
        rw [gN, gN]
        refine ih (j + 1) _ _ ?_
        split
        · exact q
        · exact poU_Q d _ _ _ _ _ _ q
    exact this _ _ _ _ q
theorem gN_ex {α : Type} {f : Nat → α → α} (R : α → Prop) {k0 : Nat} (h0 : ∀ a, R (f k0 a)) (hs : ∀ k a, R a → R (f k a)) : ∀ m j a, j ≤ k0 → k0 < j + m → R (gN f j m a)
  | 0, j, a, h1, h2 => by omega
  | m + 1, j, a, h1, h2 => by
    rw [gN]
    by_cases c : j = k0
    · subst c
      exact gN_inv R m (j + 1) _ (h0 a) (fun k a _ _ => hs k a)
    · exact gN_ex R h0 hs m (j + 1) _ (by omega) (by omega)
theorem poU_up {D : oD} {s : Nat → Int32} {n : Nat} : ∀ d k h br (row : Nat → Nat) (a : pA), 0 ≤ a.1 → 0 ≤ (poU D s n d k h br row a).1
  | 0, k, h, br, row, a, q => by
    rw [poU]
    unfold setP
    by_cases c : bcS br ≤ a.1
    · rw [if_pos c]
      exact q
    · rw [if_neg c]
      exact le_tr q (Int32.le_of_lt (Int32.not_le.mp c))
  | d + 1, k, h, br, row, a, q => by
    rw [poU]
    refine gN_inv (fun z : pA => 0 ≤ z.1) _ _ _ q ?_
    intro g z _ _ q
    split
    · exact q
    · exact poU_up d _ _ _ _ _ q
theorem poU_0 {D : oD} {s : Nat → Int32} {n : Nat} (hD : WFc D) : ∀ d k h br (row : Nat → Nat) (a : pA), h < dN D 0 → inB br → 0 ≤ (poU D s n d k h br row a).1
  | 0, k, h, br, row, a, _, hb => by
    rw [poU]
    unfold setP
    by_cases c : bcS br ≤ a.1
    · rw [if_pos c]
      exact le_tr (bc_pos hb) c
    · rw [if_neg c]
      exact bc_pos hb
  | d + 1, k, h, br, row, a, hh, hb => by
    have b0 := hD.2.1
    rw [poU]
    refine gN_ex (fun z : pA => 0 ≤ z.1) (k0 := h) ?_ ?_ (dN D 0) 0 a (by omega) (by omega)
    · intro z
      rw [can_eq (by omega) (by omega), if_pos rfl, if_neg (by decide)]
      exact poU_0 hD d (k + 1) h _ _ z hh (or_in hb (dueC_in hD))
    · intro g z q
      split
      · exact q
      · exact poU_up d _ _ _ _ _ q
theorem zero_in : inB 0 := fun j _ _ => tb_z
theorem post_eq {D : oD} {s : Nat → Int32} {n : Nat} (hW : WF D) (hS : WFs D s) (hn : n ≤ 5) (h0 : 0 < dN D 0) (f g : Nat → Int32) : (post0 D s n f).1 = (pstM D s n g).1 ∧ ∀ i, i < n → (post0 D s n f).2 i = (pstM D s n g).2 i := by
  have e1 : post0 D s n f = poU D s n n 0 (s 1).toNatClampNeg 0 (fun _ => 0) (-1, f) := poC_eq hW hS hn n 0 _ _ _ _ (by omega) zero_in
  have e2 : pstM D s n g = poU D s n n 0 (s 1).toNatClampNeg 0 (fun _ => 0) (-1, g) := by
    refine poM_eq hW.c n 0 _ 0 _ _ _ ?_ zero_in
    apply tb_ext
    intro j hj
    rw [tb_and, tb_not hj, tb_z]
    cases tb (s 5) j <;> rfl
  have q := poU_Q (D := D) (s := s) (n := n) n 0 (s 1).toNatClampNeg 0 (fun _ => 0) (-1, f) (-1, g) ⟨rfl, Or.inl (by show (-1 : Int32) < 0; decide)⟩
  have p := poU_0 (s := s) (n := n) hW.c n 0 (s 1).toNatClampNeg 0 (fun _ => 0) (-1, f) (hS.at_ h0).2.1 zero_in
  rw [e1, e2]
  exact ⟨q.1, q.2.resolve_left (Int32.not_lt.mpr p)⟩
