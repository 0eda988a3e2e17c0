/-! ROUTES: what is sought. -/
section
variable {k : Nat} {M : ev_M} {pc p : Nat} {ls st : List Value} {S : List (Nat × Nat) × Nat × Nat} {I : Nat → Nat → Int32} {J : Nat → Nat → Int64} {F : Nat → Nat → Option Nat} {r : Option Value} {h' : hp_H} {Q : Option Value → hp_H → Prop}
theorem g_getJ {x c j n a : Nat} {v : Int64} (hd : decode (mC M) pc = .ok (.getfield x, 3)) (hf : ev_ft (mO M) x = some (c, j)) (hk : S.1[a]? = some (c, n)) (ha : a < 1000000) (hj : j < n) (ht : ev_fk c j = 1) (hv : J a j = v) (hp : pc + 3 = p) (q : Ev k M p ls (.long v :: st) (S, I, J, F) r h') : Ev k M pc ls (.ref a :: st) (S, I, J, F) r h' := by
  subst hv; exact e_getJ hd hf hk ha hj ht hp q
theorem wg_getJ {x c j n a : Nat} {v : Int64} (hd : decode (mC M) pc = .ok (.getfield x, 3)) (hf : ev_ft (mO M) x = some (c, j)) (hk : S.1[a]? = some (c, n)) (ha : a < 1000000) (hj : j < n) (ht : ev_fk c j = 1) (hv : J a j = v) (hp : pc + 3 = p) (q : Ew k M p ls (.long v :: st) (S, I, J, F) Q) : Ew k M pc ls (.ref a :: st) (S, I, J, F) Q := by
  subst hv; exact we_getJ hd hf hk ha hj ht hp q
theorem g_lald {a n i : Nat} {x : Int32} {v : Int64} (hd : decode (mC M) pc = .ok (.laload, 1)) (hk : S.1[a]? = some (13, n)) (hi : ev_in x n = true) (hx : x.toNatClampNeg = i) (hv : J a i = v) (hp : pc + 1 = p) (q : Ev k M p ls (.long v :: st) (S, I, J, F) r h') : Ev k M pc ls (.int x :: .ref a :: st) (S, I, J, F) r h' := by
  subst hv; exact f_lald hd hk hi hx hp q
theorem wg_lald {a n i : Nat} {x : Int32} {v : Int64} (hd : decode (mC M) pc = .ok (.laload, 1)) (hk : S.1[a]? = some (13, n)) (hi : ev_in x n = true) (hx : x.toNatClampNeg = i) (hv : J a i = v) (hp : pc + 1 = p) (q : Ew k M p ls (.long v :: st) (S, I, J, F) Q) : Ew k M pc ls (.int x :: .ref a :: st) (S, I, J, F) Q := by
  subst hv; exact wf_lald hd hk hi hx hp q
end
abbrev rA : Type := Int32 × Int64 × (Nat → Int32)
def setR (n : Nat) (row : Nat → Nat) (miss : Int64) (a : rA) : rA := if a.1 = 0 ∨ miss < a.2.1 then (a.1 + 1, miss, fun i => if i < n then nI (row i) else a.2.2 i) else (a.1 + 1, a.2.1, a.2.2)
def lan (s : Nat → Int32) (k : Nat) : Int32 := s 0 + 1 + nI k
theorem lan_eq {s : Nat → Int32} {k : Nat} : s 0 + nI k + 1 = lan s k := by
  unfold lan
  rw [Int32.add_assoc, Int32.add_comm (nI k), ← Int32.add_assoc]
def hN (D : oD) (w : Nat) : Nat := (D 7 w).toNatClampNeg
def chS (D : oD) (s : Nat → Int32) (k w : Nat) : Int64 := if triB s (nI w) = 0 then powS D (loveS D w (lan s k * D 0 0)).toInt64 else 0
def rcB (D : oD) (s : Nat → Int32) (k : Nat) (u : Int32) (a w : Nat) : Bool := decide (triB s (nI w) = 0) && decide (hbS u (nI w) = 0) && decide (loveS D w (lan s k * D 0 0) ≠ 0) && decide (canS D a (D 7 w) ≠ 0)
def rtS (D : oD) (s : Nat → Int32) (n : Nat) : Nat → Nat → Int32 → Nat → Int64 → (Nat → Nat) → rA → rA
  | 0, _, _, _, miss, row, a => setR n row miss a
  | d + 1, k, u, h, miss, row, a => gN (fun w a => if rcB D s k u h w = true then rtS D s n d (k + 1) (u ||| bit w) (hN D w) (miss * (powS D 100 - chS D s k w)) (upN row k w) a else a) 0 (dN D 2) a
def rout0 (D : oD) (s : Nat → Int32) (n : Nat) (l : Int64) (f : Nat → Int32) : rA := rtS D s n n 0 0 (s 1).toNatClampNeg 1 (fun _ => 0) (0, l, f)
theorem ch_pos {D : oD} {s : Nat → Int32} (hW : WF D) (h0 : 0 < tN D) {k w : Nat} (hw : w < dN D 2) : lg_cmp (chS D s k w) 0 ≤ 0 ↔ ¬ (triB s (nI w) = 0 ∧ loveS D w (lan s k * D 0 0) ≠ 0) := by
  rw [lg_cmp_le]
  unfold chS
  by_cases c : triB s (nI w) = 0
  · rw [if_pos c, pow_love hW hw]
    have hz : (0 : Int64) = lN 0 := rfl
    obtain ⟨e, h9⟩ := love_n hW hw (lan s k * D 0 0)
    rw [hz, pk_lLE (lvN_lt hW hw _) (by omega), e, Ne, show (nI (loveN D w (lan s k * D 0 0)) = 0 ↔ loveN D w (lan s k * D 0 0) = 0) from nI_eq (b := 0) (by omega) (by omega)]
    generalize loveN D w (lan s k * D 0 0) = x
    constructor
    · intro h
      rintro ⟨-, h2⟩
      have := Nat.pow_pos (n := tN D) (show 0 < x by omega)
      omega
    · intro h
      have hx : x = 0 := by
        by_cases c2 : x = 0
        · exact c2
        · exact absurd ⟨c, c2⟩ h
      rw [hx, Nat.zero_pow h0]
      omega
  · rw [if_neg c]
    exact ⟨fun _ z => c z.1, fun _ => by decide⟩
theorem tol_t {D : oD} (hW : WF D) (h : tol D = 1) : 0 < tN D := by
  rcases hW.u with ⟨e, -⟩ | ⟨-, -, -, h0⟩
  · unfold tol at h
    rw [e] at h
    exact absurd h (by decide)
  · exact h0
/-- in the class: the state of the search -/
def rI (D : oD) (s : Nat → Int32) (n : Nat) (I : Nat → Nat → Int32) (J : Nat → Nat → Int64) (a : rA) : Prop := I 65 1 = a.1 ∧ J 65 2 = a.2.1 ∧ I 65 6 = nI n ∧ J 65 5 = powS D 100 ∧ (∀ i, i < n → I 66 i = a.2.2 i) ∧ ∀ i, i < n → ∀ w, w < dN D 2 → J (69 + i) w = chS D s i w
section
variable {I : Nat → Nat → Int32} {J : Nat → Nat → Int64}
theorem J_u {a b k j : Nat} {x v : Int64} (h : J a b = x) (hk : ¬ (a = k ∧ b = j)) : hp_u J k j v a b = x := by
  unfold hp_u
  by_cases c : a = k
  · rw [if_pos c, if_neg (fun z => hk ⟨c, z⟩)]
    exact h
  · rw [if_neg c]
    exact h
theorem BJ_u {b k j n m : Nat} {v : Int64} {f : Nat → Nat → Int64} (h : ∀ i, i < n → ∀ w, w < m → J (b + i) w = f i w) (hk : k < b ∨ b + n ≤ k) : ∀ i, i < n → ∀ w, w < m → hp_u J k j v (b + i) w = f i w := fun i hi w hw => (congrFun (hu_ne (by omega)) w).trans (h i hi w hw)
theorem rI_u {D : oD} {s : Nat → Int32} {n k j : Nat} {v : Int32} {a : rA} (h : rI D s n I J a) (hk : k ≠ 65 ∧ k ≠ 66) : rI D s n (hp_u I k j v) J a := ⟨(congrFun (hu_ne (by omega)) 1).trans h.1, h.2.1, (congrFun (hu_ne (by omega)) 6).trans h.2.2.1, h.2.2.2.1, A_u h.2.2.2.2.1 (by omega), h.2.2.2.2.2⟩
end
