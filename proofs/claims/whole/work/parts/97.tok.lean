/-! Tokens of a text, purely. -/
def isLt (b : Nat) : Bool := decide (97 ≤ b ∧ b ≤ 122)
def isDg (b : Nat) : Bool := decide (48 ≤ b ∧ b ≤ 57)
def isSp (b : Nat) : Bool := decide (b = 32)
def run (f : Nat → Bool) (T : Nat → Nat) (n : Nat) : Nat → Nat → Nat
  | 0, p => p
  | m + 1, p => if p < n ∧ f (T p) = true then run f T n m (p + 1) else p
def rn (f : Nat → Bool) (T : Nat → Nat) (n p : Nat) : Nat := run f T n (n - p) p
section
variable {f : Nat → Bool} {T : Nat → Nat} {n p : Nat}
theorem rn_y (h : p < n) (hf : f (T p) = true) : rn f T n p = rn f T n (p + 1) := by
  unfold rn
  rw [show n - p = (n - (p + 1)) + 1 by omega, run, if_pos ⟨h, hf⟩]
theorem rn_n (h : ¬ (p < n ∧ f (T p) = true)) : rn f T n p = p := by
  unfold rn
  cases e : n - p with
  | zero => rfl
  | succ m => rw [run, if_neg h]
theorem run_ge : ∀ m p, p ≤ run f T n m p
  | 0, p => Nat.le_refl p
  | m + 1, p => by
    rw [run]
    split
    · exact Nat.le_trans (Nat.le_succ p) (run_ge m (p + 1))
    · exact Nat.le_refl p
theorem rn_ge : p ≤ rn f T n p := run_ge _ _
theorem run_le : ∀ m p, p ≤ n → run f T n m p ≤ n
  | 0, p, h => h
  | m + 1, p, h => by
    rw [run]
    split
    · rename_i z
      exact run_le m (p + 1) z.1
    · exact h
theorem rn_le (h : p ≤ n) : rn f T n p ≤ n := run_le _ _ h
theorem run_all : ∀ m p i, p ≤ i → i < run f T n m p → i < n ∧ f (T i) = true
  | 0, p, i, h1, h2 => by
    rw [run] at h2
    omega
  | m + 1, p, i, h1, h2 => by
    rw [run] at h2
    split at h2
    · rename_i z
      by_cases c : i = p
      · rw [c]
        exact z
      · exact run_all m (p + 1) i (by omega) h2
    · omega
theorem rn_all {i : Nat} (h1 : p ≤ i) (h2 : i < rn f T n p) : i < n ∧ f (T i) = true := run_all _ _ _ h1 h2
theorem run_end : ∀ m p, n ≤ p + m → ¬ (run f T n m p < n ∧ f (T (run f T n m p)) = true)
  | 0, p, h => by
    rw [run]
    exact fun z => by omega
  | m + 1, p, h => by
    rw [run]
    split
    · exact run_end m (p + 1) (by omega)
    · rename_i z
      exact z
theorem rn_end : ¬ (rn f T n p < n ∧ f (T (rn f T n p)) = true) := run_end _ _ (by omega)
end
def pwF (T : Nat → Nat) : Nat → Nat → Nat → Nat
  | 0, _, x => x
  | m + 1, i, x => pwF T m (i + 1) (x * 32 + (T i - 96))
def pkw (T : Nat → Nat) (a b : Nat) : Nat := pwF T (b - a) a 0
def nmF (T : Nat → Nat) : Nat → Nat → Nat → Nat
  | 0, _, x => x
  | m + 1, i, x => nmF T m (i + 1) (x * 10 + (T i - 48))
def nmN (T : Nat → Nat) (a b : Nat) : Nat := nmF T (b - a) a 0
section
variable (T : Nat → Nat) (n p : Nat)
def tS : Nat := rn isSp T n p
def tK : Nat := if tS T n p < n then (if isLt (T (tS T n p)) = true then (if rn isLt T n (tS T n p) - tS T n p ≤ 8 then 1 else 4) else if isDg (T (tS T n p)) = true then (if rn isDg T n (tS T n p) - tS T n p ≤ 3 then 2 else 4) else if T (tS T n p) = 59 then 3 else 4) else 0
def tE : Nat := if tS T n p < n then (if isLt (T (tS T n p)) = true then rn isLt T n (tS T n p) else if isDg (T (tS T n p)) = true then rn isDg T n (tS T n p) else tS T n p + 1) else tS T n p
def tW : Nat := pkw T (tS T n p) (rn isLt T n (tS T n p))
def tV : Nat := nmN T (tS T n p) (rn isDg T n (tS T n p))
end
def KWl : List Nat := [8642444978, 19617, 24622126, 19191852, 408572082, 263620, 475056537, 493192, 17171758, 17383076, 638340, 263558, 26379859, 21570604, 464627, 24627848, 302, 8554068, 81486, 495763, 89, 351582372, 525908, 12933277127, 1253]
def KWf (k : Nat) : Nat := KWl.getD k 0
def kwF (x k : Nat) (a : Int32) : Int32 := if KWf k = x then nI k else a
def kwI (x : Nat) : Int32 := gN (kwF x) 0 25 (-1)
def tQ (T : Nat → Nat) (n p : Nat) : Int32 := if tK T n p = 1 then kwI (tW T n p) else -1
theorem sB_L : ∀ b, b < 256 → inS (sB b) 97 122 = if isLt b = true then 1 else 0 := by decide +kernel
theorem sB_D : ∀ b, b < 256 → inS (sB b) 48 57 = if isDg b = true then 1 else 0 := by decide +kernel
theorem sB_32 : ∀ b, b < 256 → (sB b = 32 ↔ isSp b = true) := by decide +kernel
theorem sB_59 : ∀ b, b < 256 → (sB b = 59 ↔ b = 59) := by decide +kernel
theorem nB_L : ∀ b, b < 256 → inS (nI b) 97 122 = if isLt b = true then 1 else 0 := by decide +kernel
theorem nB_D : ∀ b, b < 256 → inS (nI b) 48 57 = if isDg b = true then 1 else 0 := by decide +kernel
theorem nB_32 : ∀ b, b < 256 → (nI b = 32 ↔ isSp b = true) := by decide +kernel
theorem nB_59 : ∀ b, b < 256 → (nI b = 59 ↔ b = 59) := by decide +kernel
theorem pk_L : ∀ b, b < 256 → isLt b = true → (sB b - 97 + 1).toInt64 = lN (b - 96) := by decide +kernel
theorem nm_D : ∀ b, b < 256 → isDg b = true → sB b - 48 = nI (b - 48) := by decide +kernel
theorem nm_D2 : ∀ b, b < 256 → isDg b = true → nI b = nI (b - 48) + 48 := by decide +kernel
theorem pwF_lt {T : Nat → Nat} : ∀ m i x, (∀ j, i ≤ j → j < i + m → isLt (T j) = true) → pwF T m i x < (x + 1) * 32 ^ m
  | 0, i, x, _ => by
    rw [pwF]
    omega
  | m + 1, i, x, h => by
    have h1 := h i (Nat.le_refl i) (by omega)
    have h2 : T i - 96 < 32 := by
      simp [isLt] at h1
      omega
    rw [pwF]
    have := pwF_lt m (i + 1) (x * 32 + (T i - 96)) (fun j a b => h j (by omega) (by omega))
    rw [Nat.pow_succ, Nat.mul_comm (32 ^ m), ← Nat.mul_assoc]
    refine Nat.lt_of_lt_of_le this (Nat.mul_le_mul_right _ ?_)
    omega
theorem pkw_lt {T : Nat → Nat} {n a : Nat} (h : rn isLt T n a - a ≤ 8) : pkw T a (rn isLt T n a) < 2 ^ 40 := by
  have := pwF_lt (T := T) (rn isLt T n a - a) a 0 (fun j h1 h2 => (rn_all (n := n) h1 (by omega)).2)
  unfold pkw
  refine Nat.lt_of_lt_of_le this ?_
  rw [Nat.zero_add, Nat.one_mul]
  exact Nat.le_trans (Nat.pow_le_pow_right (by omega) h) (by decide)
theorem kw_lt : ∀ k, k < 25 → KWf k < 2 ^ 40 := by decide +kernel
/-! The class's tokens. -/
def txC (T : Nat → Nat) (n : Nat) (I : Nat → Nat → Int32) (J : Nat → Nat → Int64) : Prop := n ≤ 900 ∧ I 3 8 = nI n ∧ (∀ i, i < n → T i < 256 ∧ I 2 i = sB (T i)) ∧ ∀ k, k < 25 → J 21 k = lN (KWf k)
def rC (T : Nat → Nat) (n p : Nat) (I : Nat → Nat → Int32) (J : Nat → Nat → Int64) : Prop := I 3 9 = nI (tE T n p) ∧ I 3 1 = nI (tS T n p) ∧ I 3 11 = nI (tK T n p) ∧ I 3 13 = tQ T n p ∧ (tK T n p = 1 → J 3 12 = lN (tW T n p)) ∧ (tK T n p = 2 → I 3 14 = nI (tV T n p))
def AvC (I I' : Nat → Nat → Int32) (J J' : Nat → Nat → Int64) : Prop := (∀ k, k ≠ 3 → I' k = I k) ∧ (∀ j, j ≠ 1 → j ≠ 9 → j ≠ 11 → j ≠ 13 → j ≠ 14 → I' 3 j = I 3 j) ∧ ∀ k, k ≠ 3 → J' k = J k
theorem AvC.rf {I : Nat → Nat → Int32} {J : Nat → Nat → Int64} : AvC I I J J := ⟨fun _ _ => rfl, fun _ _ _ _ _ _ => rfl, fun _ _ => rfl⟩
theorem AvC.tr {I I' I'' : Nat → Nat → Int32} {J J' J'' : Nat → Nat → Int64} (h : AvC I I' J J') (h2 : AvC I' I'' J' J'') : AvC I I'' J J'' := ⟨fun k a => (h2.1 k a).trans (h.1 k a), fun j a b c d e => (h2.2.1 j a b c d e).trans (h.2.1 j a b c d e), fun k a => (h2.2.2 k a).trans (h.2.2 k a)⟩
theorem AvC.u {I I' : Nat → Nat → Int32} {J J' : Nat → Nat → Int64} {j : Nat} {v : Int32} (h : AvC I I' J J') (hj : j = 1 ∨ j = 9 ∨ j = 11 ∨ j = 13 ∨ j = 14) : AvC I (hp_u I' 3 j v) J J' := ⟨fun k a => (hu_ne a).trans (h.1 k a), fun i a b c d e => (hu_nj (by omega)).trans (h.2.1 i a b c d e), h.2.2⟩
theorem AvC.j {I I' : Nat → Nat → Int32} {J J' : Nat → Nat → Int64} {j : Nat} {v : Int64} (h : AvC I I' J J') : AvC I I' J (hp_u J' 3 j v) := ⟨h.1, h.2.1, fun k a => (hu_ne a).trans (h.2.2 k a)⟩
theorem txC.av {T : Nat → Nat} {n : Nat} {I I' : Nat → Nat → Int32} {J J' : Nat → Nat → Int64} (h : txC T n I J) (a : AvC I I' J J') : txC T n I' J' := ⟨h.1, (a.2.1 8 (by decide) (by decide) (by decide) (by decide) (by decide)).trans h.2.1, fun i hi => by rw [a.1 2 (by decide)]; exact h.2.2.1 i hi, fun k hk => by rw [a.2.2 21 (by decide)]; exact h.2.2.2 k hk⟩
section
variable {k : Nat} {M : ev_M} {pc p : Nat} {ls st : List Value} {S : List (Nat × Nat) × Nat × Nat} {I : Nat → Nat → Int32} {J : Nat → Nat → Int64} {F : Nat → Nat → Option Nat} {r : Option Value} {h' : hp_H} {Q : Option Value → hp_H → Prop}
theorem g_bald {a n i : Nat} {x v : Int32} (hd : decode (mC M) pc = .ok (.baload, 1)) (hk : S.1[a]? = some (14, n)) (ha : a < 1000000) (hi : ev_in x n = true) (hx : x.toNatClampNeg = i) (hv : I a i = v) (hp : pc + 1 = p) (q : Ev k M p ls (.int v :: st) (S, I, J, F) r h') : Ev k M pc ls (.int x :: .ref a :: st) (S, I, J, F) r h' := by
  subst hv
  exact f_bald hd hk ha hi hx hp q
theorem wg_bald {a n i : Nat} {x v : Int32} (hd : decode (mC M) pc = .ok (.baload, 1)) (hk : S.1[a]? = some (14, n)) (ha : a < 1000000) (hi : ev_in x n = true) (hx : x.toNatClampNeg = i) (hv : I a i = v) (hp : pc + 1 = p) (q : Ew k M p ls (.int v :: st) (S, I, J, F) Q) : Ew k M pc ls (.int x :: .ref a :: st) (S, I, J, F) Q := by
  obtain ⟨r, h', e, z⟩ := q
  exact ⟨r, h', g_bald hd hk ha hi hx hv hp e, z⟩
end
set_option maxRecDepth 10000 in
theorem x_isLetter {I : Nat → Nat → Int32} {J : Nat → Nat → Int64} {F : Nat → Nat → Option Nat} {nc ns : Nat} {v : Int32} : Ev 0 mX7_isLetter 0 [.int v] [] ((SH, nc, ns), I, J, F) (some (.int (inS v 97 122))) ((SH, nc, ns), I, J, F) := by
  refine e_iload_n (p := 1) dX7_isLetter_0 rfl rfl ?_
  refine e_bipush (v := 97) (p := 3) dX7_isLetter_1 (by decide) rfl ?_
  refine e_icmp_lt (t := 16) (p := 6) dX7_isLetter_3 (by decide) rfl rfl (fun hc3 => ?_) (fun hc3 => ?_)
  · skip
    refine e_iconst (v := 0) (p := 17) dX7_isLetter_16 (by decide) rfl ?_
    exact e_iretE dX7_isLetter_17 rfl (by decide) (by decide) ⟨by simp only [inS, hc3, (Int32.not_le.mpr hc3), ↓reduceIte], rfl⟩
  · skip
    refine e_iload_n (p := 7) dX7_isLetter_6 rfl rfl ?_
    refine e_bipush (v := 122) (p := 9) dX7_isLetter_7 (by decide) rfl ?_
    refine e_icmp_gt (t := 16) (p := 12) dX7_isLetter_9 (by decide) rfl rfl (fun hc9 => ?_) (fun hc9 => ?_)
    · skip
      refine e_iconst (v := 0) (p := 17) dX7_isLetter_16 (by decide) rfl ?_
      exact e_iretE dX7_isLetter_17 rfl (by decide) (by decide) ⟨by simp only [inS, hc3, hc9, (Int32.not_lt.mp hc3), (Int32.not_le.mpr hc9), ↓reduceIte], rfl⟩
    · skip
      refine e_iconst (v := 1) (p := 13) dX7_isLetter_12 (by decide) rfl ?_
      refine e_goto (p := 17) dX7_isLetter_13 (by decide) rfl ?_
      exact e_iretE dX7_isLetter_17 rfl (by decide) (by decide) ⟨by simp only [inS, hc3, hc9, (Int32.not_lt.mp hc3), (Int32.not_lt.mp hc9), ↓reduceIte], rfl⟩
set_option maxRecDepth 10000 in
theorem x_isDigit7 {I : Nat → Nat → Int32} {J : Nat → Nat → Int64} {F : Nat → Nat → Option Nat} {nc ns : Nat} {v : Int32} : Ev 0 mX7_isDigit 0 [.int v] [] ((SH, nc, ns), I, J, F) (some (.int (inS v 48 57))) ((SH, nc, ns), I, J, F) := by
  refine e_iload_n (p := 1) dX7_isDigit_0 rfl rfl ?_
  refine e_bipush (v := 48) (p := 3) dX7_isDigit_1 (by decide) rfl ?_
  refine e_icmp_lt (t := 16) (p := 6) dX7_isDigit_3 (by decide) rfl rfl (fun hc3 => ?_) (fun hc3 => ?_)
  · skip
    refine e_iconst (v := 0) (p := 17) dX7_isDigit_16 (by decide) rfl ?_
    exact e_iretE dX7_isDigit_17 rfl (by decide) (by decide) ⟨by simp only [inS, hc3, (Int32.not_le.mpr hc3), ↓reduceIte], rfl⟩
  · skip
    refine e_iload_n (p := 7) dX7_isDigit_6 rfl rfl ?_
    refine e_bipush (v := 57) (p := 9) dX7_isDigit_7 (by decide) rfl ?_
    refine e_icmp_gt (t := 16) (p := 12) dX7_isDigit_9 (by decide) rfl rfl (fun hc9 => ?_) (fun hc9 => ?_)
    · skip
      refine e_iconst (v := 0) (p := 17) dX7_isDigit_16 (by decide) rfl ?_
      exact e_iretE dX7_isDigit_17 rfl (by decide) (by decide) ⟨by simp only [inS, hc3, hc9, (Int32.not_lt.mp hc3), (Int32.not_le.mpr hc9), ↓reduceIte], rfl⟩
    · skip
      refine e_iconst (v := 1) (p := 13) dX7_isDigit_12 (by decide) rfl ?_
      refine e_goto (p := 17) dX7_isDigit_13 (by decide) rfl ?_
      exact e_iretE dX7_isDigit_17 rfl (by decide) (by decide) ⟨by simp only [inS, hc3, hc9, (Int32.not_lt.mp hc3), (Int32.not_lt.mp hc9), ↓reduceIte], rfl⟩
set_option maxRecDepth 10000 in
theorem x_packed {I : Nat → Nat → Int32} {J : Nat → Nat → Int64} {F : Nat → Nat → Option Nat} {nc ns : Nat} {x : Int64} {v : Int32} : Ev 0 mX7_packed 0 [.long x, .null, .int v] [] ((SH, nc, ns), I, J, F) (some (.long (x * 32 + (v - 97 + 1).toInt64))) ((SH, nc, ns), I, J, F) := by
  refine e_lload_n (p := 1) dX7_packed_0 rfl rfl ?_
  refine e_ldc2 (p := 4) dX7_packed_1 rfl rfl ?_
  refine e_lmul (p := 5) dX7_packed_4 rfl ?_
  refine e_iload_n (p := 6) dX7_packed_5 rfl rfl ?_
  refine e_bipush (v := 97) (p := 8) dX7_packed_6 (by decide) rfl ?_
  refine e_isub (p := 9) dX7_packed_8 rfl ?_
  refine e_iconst (v := 1) (p := 10) dX7_packed_9 (by decide) rfl ?_
  refine e_iadd (p := 11) dX7_packed_10 rfl ?_
  refine e_i2l (p := 12) dX7_packed_11 rfl ?_
  refine e_ladd (p := 13) dX7_packed_12 rfl ?_
  exact e_lretE dX7_packed_13 rfl ⟨rfl, rfl⟩
set_option maxRecDepth 10000 in
theorem x_scanW_L {I : Nat → Nat → Int32} {J : Nat → Nat → Int64} {F : Nat → Nat → Option Nat} {nc ns : Nat} {T : Nat → Nat} {n : Nat} (hF : RFok F) (ht : txC T n I J) {Q : Option Value → hp_H → Prop} : ∀ (m q x : Nat), q + m = n → Ew 1 mX7_scanWord 64 [.ref 3, .null] [] ((SH, nc, ns), hp_u I 3 9 (nI (rn isLt T n q)), hp_u J 3 12 (lN (pwF T (rn isLt T n q - q) q x)), F) Q → Ew 1 mX7_scanWord 5 [.ref 3, .null] [] ((SH, nc, ns), hp_u I 3 9 (nI q), hp_u J 3 12 (lN x), F) Q
  | 0, q, x, hj => fun q0 => by
    have hn9 := ht.1
    refine we_aload_n (p := 6) dX7_scanWord_5 rfl rfl ?_
    refine wf_getI (c := 7) (j := 9) (n := 16) (v := nI q) (p := 9) dX7_scanWord_6 rfl rfl (by decide) (by decide) (Or.inl rfl) hu_eq rfl ?_
    refine we_aload_n (p := 10) dX7_scanWord_9 rfl rfl ?_
    refine wf_getI (c := 7) (j := 8) (n := 16) (v := nI n) (p := 13) dX7_scanWord_10 rfl rfl (by decide) (by decide) (Or.inl rfl) ((hu_nj (by decide)).trans ht.2.1) rfl ?_
    refine we_icmp_ge (t := 64) (p := 16) dX7_scanWord_13 (by decide) rfl rfl (fun hc13 => ?_) (fun hc13 => absurd (nI_le (a := n) (b := q) (by omega) (by omega)) hc13)
    rw [rn_n (fun z => by omega), Nat.sub_self] at q0
    exact q0
  | m + 1, q, x, hj => fun q0 => by
    have hn9 := ht.1
    have hq : q < n := by omega
    by_cases hf : isLt (T q) = true
    · skip
      refine we_aload_n (p := 6) dX7_scanWord_5 rfl rfl ?_
      refine wf_getI (c := 7) (j := 9) (n := 16) (v := nI q) (p := 9) dX7_scanWord_6 rfl rfl (by decide) (by decide) (Or.inl rfl) hu_eq rfl ?_
      refine we_aload_n (p := 10) dX7_scanWord_9 rfl rfl ?_
      refine wf_getI (c := 7) (j := 8) (n := 16) (v := nI n) (p := 13) dX7_scanWord_10 rfl rfl (by decide) (by decide) (Or.inl rfl) ((hu_nj (by decide)).trans ht.2.1) rfl ?_
      refine we_icmp_ge (t := 64) (p := 16) dX7_scanWord_13 (by decide) rfl rfl (fun hc13 => absurd hc13 (nI_ge (a := q) (b := n) (by omega) (by omega))) (fun hc13 => ?_)
      refine we_aload_n (p := 17) dX7_scanWord_16 rfl rfl ?_
      refine we_getR (c := 7) (j := 2) (n := 16) (b := 2) (p := 20) dX7_scanWord_17 rfl rfl (by decide) (by decide) rfl (r_3_2 hF) rfl ?_
      refine we_aload_n (p := 21) dX7_scanWord_20 rfl rfl ?_
      refine wf_getI (c := 7) (j := 9) (n := 16) (v := nI q) (p := 24) dX7_scanWord_21 rfl rfl (by decide) (by decide) (Or.inl rfl) hu_eq rfl ?_
      refine wg_bald (n := 900) (i := q) (v := sB (T q)) (p := 25) dX7_scanWord_24 rfl (by decide) (in_nJ (by omega) (by decide)) (nI_cl (by omega)) ((congrFun (hu_ne (by decide)) q).trans (ht.2.2.1 q hq).2) rfl ?_
      refine we_callS_int (p := 28) (k' := 0) (a := [.int (sB (T q))]) (rr := []) dX7_scanWord_25 rfl rfl rfl rfl rfl (rc_st rfl) (Nat.le_of_ble_eq_true rfl) (Nat.le_of_ble_eq_true rfl) (by decide) (Ev.i ((sB_L (T q) (ht.2.2.1 q hq).1).trans (if_pos hf)) (x_isLetter)) (Or.inl rfl) rfl ?_
      refine we_if_eq (t := 64) (p := 31) dX7_scanWord_28 (by decide) rfl rfl (fun hc28 => absurd hc28 (by decide)) (fun hc28 => ?_)
      refine we_aload_n (p := 32) dX7_scanWord_31 rfl rfl ?_
      refine we_aload_n (p := 33) dX7_scanWord_32 rfl rfl ?_
      refine wg_getJ (c := 7) (j := 12) (n := 16) (v := lN x) (p := 36) dX7_scanWord_33 rfl rfl (by decide) (by decide) rfl hu_eq rfl ?_
      refine we_aload_n (p := 37) dX7_scanWord_36 rfl rfl ?_
      refine we_getR (c := 7) (j := 2) (n := 16) (b := 2) (p := 40) dX7_scanWord_37 rfl rfl (by decide) (by decide) rfl (r_3_2 hF) rfl ?_
      refine we_aload_n (p := 41) dX7_scanWord_40 rfl rfl ?_
      refine wf_getI (c := 7) (j := 9) (n := 16) (v := nI q) (p := 44) dX7_scanWord_41 rfl rfl (by decide) (by decide) (Or.inl rfl) hu_eq rfl ?_
      refine wg_bald (n := 900) (i := q) (v := sB (T q)) (p := 45) dX7_scanWord_44 rfl (by decide) (in_nJ (by omega) (by decide)) (nI_cl (by omega)) ((congrFun (hu_ne (by decide)) q).trans (ht.2.2.1 q hq).2) rfl ?_
      refine we_callS_long (p := 48) (k' := 0) (a := [.long (lN x), .int (sB (T q))]) (rr := [.ref 3]) dX7_scanWord_45 rfl rfl rfl rfl rfl (rc_st rfl) (Nat.le_of_ble_eq_true rfl) (Nat.le_of_ble_eq_true rfl) (by decide) (Ev.l (by rw [pk_L _ (ht.2.2.1 q hq).1 hf, show (32 : Int64) = lN 32 from rfl, lN_mul, lN_add]) (x_packed)) (Or.inl rfl) rfl ?_
      refine we_putJ (c := 7) (j := 12) (n := 16)  (p := 51) dX7_scanWord_48 rfl rfl (by decide) (by decide) rfl rfl rfl ?_
      refine we_aload_n (p := 52) dX7_scanWord_51 rfl rfl ?_
      refine we_dup_ref (p := 53) dX7_scanWord_52 rfl ?_
      refine wf_getI (c := 7) (j := 9) (n := 16) (v := nI q) (p := 56) dX7_scanWord_53 rfl rfl (by decide) (by decide) (Or.inl rfl) hu_eq rfl ?_
      refine we_iconst (v := 1) (p := 57) dX7_scanWord_56 (by decide) rfl ?_
      refine we_iadd (p := 58) dX7_scanWord_57 rfl ?_
      refine we_putI (c := 7) (j := 9) (n := 16)  (p := 61) dX7_scanWord_58 rfl rfl (by decide) (by decide) rfl rfl rfl ?_
      refine we_goto (p := 5) dX7_scanWord_61 (by decide) rfl ?_
      rw [nI_1, hu_hu, hu_hu]
      refine x_scanW_L hF ht m (q + 1) _ (by omega) ?_
      rw [rn_y hq hf, show rn isLt T n (q + 1) - q = (rn isLt T n (q + 1) - (q + 1)) + 1 by have := rn_ge (f := isLt) (T := T) (n := n) (p := q + 1); omega] at q0
      exact q0
    · skip
      refine we_aload_n (p := 6) dX7_scanWord_5 rfl rfl ?_
      refine wf_getI (c := 7) (j := 9) (n := 16) (v := nI q) (p := 9) dX7_scanWord_6 rfl rfl (by decide) (by decide) (Or.inl rfl) hu_eq rfl ?_
      refine we_aload_n (p := 10) dX7_scanWord_9 rfl rfl ?_
      refine wf_getI (c := 7) (j := 8) (n := 16) (v := nI n) (p := 13) dX7_scanWord_10 rfl rfl (by decide) (by decide) (Or.inl rfl) ((hu_nj (by decide)).trans ht.2.1) rfl ?_
      refine we_icmp_ge (t := 64) (p := 16) dX7_scanWord_13 (by decide) rfl rfl (fun hc13 => absurd hc13 (nI_ge (a := q) (b := n) (by omega) (by omega))) (fun hc13 => ?_)
      refine we_aload_n (p := 17) dX7_scanWord_16 rfl rfl ?_
      refine we_getR (c := 7) (j := 2) (n := 16) (b := 2) (p := 20) dX7_scanWord_17 rfl rfl (by decide) (by decide) rfl (r_3_2 hF) rfl ?_
      refine we_aload_n (p := 21) dX7_scanWord_20 rfl rfl ?_
      refine wf_getI (c := 7) (j := 9) (n := 16) (v := nI q) (p := 24) dX7_scanWord_21 rfl rfl (by decide) (by decide) (Or.inl rfl) hu_eq rfl ?_
      refine wg_bald (n := 900) (i := q) (v := sB (T q)) (p := 25) dX7_scanWord_24 rfl (by decide) (in_nJ (by omega) (by decide)) (nI_cl (by omega)) ((congrFun (hu_ne (by decide)) q).trans (ht.2.2.1 q hq).2) rfl ?_
      refine we_callS_int (p := 28) (k' := 0) (a := [.int (sB (T q))]) (rr := []) dX7_scanWord_25 rfl rfl rfl rfl rfl (rc_st rfl) (Nat.le_of_ble_eq_true rfl) (Nat.le_of_ble_eq_true rfl) (by decide) (Ev.i ((sB_L (T q) (ht.2.2.1 q hq).1).trans (if_neg hf)) (x_isLetter)) (Or.inl rfl) rfl ?_
      refine we_if_eq (t := 64) (p := 31) dX7_scanWord_28 (by decide) rfl rfl (fun hc28 => ?_) (fun hc28 => absurd (by decide) hc28)
      rw [rn_n (fun z => hf z.2), Nat.sub_self] at q0
      exact q0
theorem cmp_eq {x y : Nat} (hx : x < 2 ^ 40) (hy : y < 2 ^ 40) : lg_cmp (lN x) (lN y) = 0 ↔ x = y := by
  rw [lg_cmp_eq]
  exact pk_lEQ (by omega) (by omega)
set_option maxRecDepth 10000 in
theorem x_kw_L {I : Nat → Nat → Int32} {J : Nat → Nat → Int64} {F : Nat → Nat → Option Nat} {nc ns : Nat} {x : Nat} (hF : RFok F) (hK : ∀ k, k < 25 → J 21 k = lN (KWf k)) (hx : x < 2 ^ 40) (hJ : J 3 12 = lN x)  : ∀ (m j : Nat) (a : Int32), j + m = 25 → Ev 1 mX7_scanWord 91 [.ref 3, .int (nI j)] [] ((SH, nc, ns), hp_u I 3 13 a, J, F) (none) ((SH, nc, ns), hp_u I 3 13 (gN (kwF x) j m a), J, F)
  | 0, j, a, hj => by
    refine e_iload_n (p := 92) dX7_scanWord_91 rfl rfl ?_
    refine e_bipush (v := 25) (p := 94) dX7_scanWord_92 (by decide) rfl ?_
    refine e_icmp_ge (t := 122) (p := 97) dX7_scanWord_94 (by decide) rfl rfl (fun hc94 => ?_) (fun hc94 => absurd (nI_le (a := 25) (b := j) (by omega) (by omega)) hc94)
    exact e_vretE dX7_scanWord_122 rfl rfl
  | m + 1, j, a, hj => by
    refine e_iload_n (p := 92) dX7_scanWord_91 rfl rfl ?_
    refine e_bipush (v := 25) (p := 94) dX7_scanWord_92 (by decide) rfl ?_
    refine e_icmp_ge (t := 122) (p := 97) dX7_scanWord_94 (by decide) rfl rfl (fun hc94 => absurd hc94 (nI_ge (a := j) (b := 25) (by omega) (by omega))) (fun hc94 => ?_)
    refine e_aload_n (p := 98) dX7_scanWord_97 rfl rfl ?_
    refine e_getR (c := 7) (j := 3) (n := 16) (b := 21) (p := 101) dX7_scanWord_98 rfl rfl (by decide) (by decide) rfl (r_3_3 hF) rfl ?_
    refine e_iload_n (p := 102) dX7_scanWord_101 rfl rfl ?_
    refine g_lald (n := 25) (i := j) (v := lN (KWf j)) (p := 103) dX7_scanWord_102 rfl (in_nJ (by omega) (by decide)) (nI_cl (by omega)) (hK j (by omega)) rfl ?_
    refine e_aload_n (p := 104) dX7_scanWord_103 rfl rfl ?_
    refine g_getJ (c := 7) (j := 12) (n := 16) (v := lN x) (p := 107) dX7_scanWord_104 rfl rfl (by decide) (by decide) rfl hJ rfl ?_
    refine e_lcmp (p := 108) dX7_scanWord_107 rfl ?_
    refine e_if_ne (t := 116) (p := 111) dX7_scanWord_108 (by decide) rfl rfl (fun hc108 => ?_) (fun hc108 => ?_)
    · skip
      refine e_iinc (ls1 := [.ref 3, .int ((nI j) + 1)]) (p := 119) dX7_scanWord_116 rfl rfl rfl ?_
      refine e_goto (p := 91) dX7_scanWord_119 (by decide) rfl ?_
      rw [nI_1]
      have e : ¬ KWf j = x := fun z => hc108 ((cmp_eq (kw_lt j (by omega)) hx).mpr z)
      rw [show gN (kwF x) j (m + 1) a = gN (kwF x) (j + 1) m a by rw [gN, kwF, if_neg e]]
      exact x_kw_L hF hK hx hJ m (j + 1) _ (by omega)
    · skip
      refine e_aload_n (p := 112) dX7_scanWord_111 rfl rfl ?_
      refine e_iload_n (p := 113) dX7_scanWord_112 rfl rfl ?_
      refine e_putI (c := 7) (j := 13) (n := 16)  (p := 116) dX7_scanWord_113 rfl rfl (by decide) (by decide) rfl rfl rfl ?_
      refine e_iinc (ls1 := [.ref 3, .int ((nI j) + 1)]) (p := 119) dX7_scanWord_116 rfl rfl rfl ?_
      refine e_goto (p := 91) dX7_scanWord_119 (by decide) rfl ?_
      rw [nI_1, hu_hu]
      have e := (cmp_eq (kw_lt j (by omega)) hx).mp hc108
      rw [show gN (kwF x) j (m + 1) a = gN (kwF x) (j + 1) m (nI j) by rw [gN, kwF, if_pos e]]
      exact x_kw_L hF hK hx hJ m (j + 1) _ (by omega)
