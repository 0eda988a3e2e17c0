/-! Reading, purely: (fault, where the scan of the token begins, value, names, they, what is told). -/
abbrev pZ : Type := Nat × Nat × Nat × Nat × (Nat → Nat × Nat × Nat × Nat) × oD
abbrev zF (S : pZ) : Nat := S.1
abbrev zP (S : pZ) : Nat := S.2.1
abbrev zV (S : pZ) : Nat := S.2.2.1
abbrev zC (S : pZ) : Nat := S.2.2.2.1
abbrev zN (S : pZ) : Nat → Nat × Nat × Nat × Nat := S.2.2.2.2.1
abbrev zD (S : pZ) : oD := S.2.2.2.2.2
def pFl (k : Nat) (S : pZ) : pZ := (k, S.2)
def pAv (T : Nat → Nat) (n : Nat) (S : pZ) : pZ := (zF S, tE T n (zP S), S.2.2)
def pVl (v : Nat) (S : pZ) : pZ := (zF S, zP S, v, S.2.2.2)
def pSt (j i : Nat) (v : Int32) (S : pZ) : pZ := (zF S, zP S, zV S, zC S, zN S, hp_u (zD S) j i v)
abbrev pSv (j i : Nat) (S : pZ) : pZ := pSt j i (nI (zV S)) S
def pB (S : pZ) (k : pZ → pZ) : pZ := if zF S = 0 then k S else S
def pTk (T : Nat → Nat) (n w lo hi : Nat) (S : pZ) : pZ := if tQ T n (zP S) = nI w then (if tK T n (tE T n (zP S)) = 2 then (if lo ≤ tV T n (tE T n (zP S)) ∧ tV T n (tE T n (zP S)) ≤ hi then pVl (tV T n (tE T n (zP S))) (pAv T n (pAv T n S)) else pFl 4 (pAv T n S)) else pFl 1 (pAv T n S)) else pFl 1 S
abbrev isNm (T : Nat → Nat) (n p : Nat) : Prop := tK T n p = 1 ∧ (tQ T n p = -1 ∨ 7 < tQ T n p)
def fnd (T : Nat → Nat) (nm : Nat → Nat × Nat × Nat × Nat) (x : Nat) : Nat → Nat → Option Nat
  | 0, _ => none
  | m + 1, j => if pkw T (nm j).1 (nm j).2.1 = x then some j else fnd T nm x m (j + 1)
def zK (T : Nat → Nat) (n : Nat) (S : pZ) : Option Nat := fnd T (zN S) (tW T n (zP S)) (zC S) 0
def pAd (T : Nat → Nat) (n so row : Nat) (S : pZ) : pZ := (zF S, zP S, zV S, zC S + 1, (fun i => if i = zC S then (tS T n (zP S), rn isLt T n (tS T n (zP S)), so, row) else zN S i), zD S)
def pNw (T : Nat → Nat) (n so row : Nat) (S : pZ) : pZ := if isNm T n (zP S) then (match zK T n S with
  | some _ => pFl 3 S
  | none => pAv T n (pAd T n so row S)) else pFl 1 S
def pFn (T : Nat → Nat) (n so : Nat) (S : pZ) : pZ := if isNm T n (zP S) then (match zK T n S with
  | some i => if (zN S i).2.2.1 = so then pVl (zN S i).2.2.2 S else pFl 2 S
  | none => pFl 2 S) else pFl 1 S
theorem fnd_lt {T : Nat → Nat} {nm : Nat → Nat × Nat × Nat × Nat} {x : Nat} : ∀ m j i, fnd T nm x m j = some i → j ≤ i ∧ i < j + m ∧ pkw T (nm i).1 (nm i).2.1 = x
  | 0, j, i, h => by cases h
  | m + 1, j, i, h => by
    rw [fnd] at h
    split at h
    · rename_i e
      cases h
      exact ⟨Nat.le_refl _, by omega, e⟩
    · have := fnd_lt m (j + 1) i h
      exact ⟨by omega, by omega, this.2.2⟩
/-! The class reads. -/
def oE (I : Nat → Nat → Int32) (o : Nat) (D : oD) : Prop := I o 0 = D 0 0 ∧ I o 1 = D 1 0 ∧ ∀ j, 2 ≤ j → j < 18 → I (o + (j - 1)) = D j
def nOK (T0 : Nat → Nat) (S : pZ) : Prop := zC S ≤ 19 ∧ ∀ i, i < zC S → (zN S i).2.2.2 < 8 ∧ ((zN S i).2.2.1 = 0 → (zN S i).2.2.2 < 6) ∧ (zN S i).2.2.1 < 8 ∧ pkw T0 (zN S i).1 (zN S i).2.1 < 2 ^ 40
def cS (T : Nat → Nat) (n o : Nat) (S : pZ) (I : Nat → Nat → Int32) (J : Nat → Nat → Int64) : Prop := rC T n (zP S) I J ∧ zP S ≤ n ∧ I 3 7 = nI (zC S) ∧ nOK T S ∧ (∀ i, i < zC S → J 22 i = lN (pkw T (zN S i).1 (zN S i).2.1) ∧ I 23 i = nI (zN S i).2.2.1 ∧ I 24 i = nI (zN S i).2.2.2) ∧ I 3 15 = nI (zV S) ∧ oE I o (zD S)
def RdF (o : Nat) (I I' : Nat → Nat → Int32) (J J' : Nat → Nat → Int64) : Prop := (∀ k, k ≠ 3 → k ≠ 23 → k ≠ 24 → (k < o ∨ o + 17 ≤ k) → I' k = I k) ∧ I' 3 8 = I 3 8 ∧ ∀ k, k ≠ 3 → k ≠ 22 → J' k = J k
theorem RdF.rf {o : Nat} {I : Nat → Nat → Int32} {J : Nat → Nat → Int64} : RdF o I I J J := ⟨fun _ _ _ _ _ => rfl, rfl, fun _ _ _ => rfl⟩
theorem RdF.tr {o : Nat} {I I' I'' : Nat → Nat → Int32} {J J' J'' : Nat → Nat → Int64} (h : RdF o I I' J J') (h2 : RdF o I' I'' J' J'') : RdF o I I'' J J'' := ⟨fun k a b c d => (h2.1 k a b c d).trans (h.1 k a b c d), h2.2.1.trans h.2.1, fun k a b => (h2.2.2 k a b).trans (h.2.2 k a b)⟩
theorem AvC.r {o : Nat} {I I' : Nat → Nat → Int32} {J J' : Nat → Nat → Int64} (h : AvC I I' J J') : RdF o I I' J J' := ⟨fun k a _ _ _ => h.1 k a, h.2.1 8 (by decide) (by decide) (by decide) (by decide) (by decide), fun k a _ => h.2.2 k a⟩
theorem RdF.u3 {o j : Nat} {v : Int32} {I I' : Nat → Nat → Int32} {J J' : Nat → Nat → Int64} (h : RdF o I I' J J') (hj : j ≠ 8) : RdF o I (hp_u I' 3 j v) J J' := ⟨fun k a b c d => (hu_ne a).trans (h.1 k a b c d), (hu_nj (fun z => hj z.symm)).trans h.2.1, h.2.2⟩
theorem RdF.uo {o p j : Nat} {v : Int32} {I I' : Nat → Nat → Int32} {J J' : Nat → Nat → Int64} (h : RdF o I I' J J') (hp : (o ≤ p ∧ p < o + 17) ∨ p = 23 ∨ p = 24) (ho : isO o) : RdF o I (hp_u I' p j v) J J' := ⟨fun k a b c d => (hu_ne (by omega)).trans (h.1 k a b c d), (congrFun (hu_ne (by rcases ho with rfl | rfl <;> omega)) 8).trans h.2.1, h.2.2⟩
theorem txC.rd {T : Nat → Nat} {n o : Nat} {I I' : Nat → Nat → Int32} {J J' : Nat → Nat → Int64} (ho : isO o) (h : txC T n I J) (a : RdF o I I' J J') : txC T n I' J' := ⟨h.1, a.2.1.trans h.2.1, fun i hi => by rw [a.1 2 (by decide) (by decide) (by decide) (by rcases ho with rfl | rfl <;> omega)]; exact h.2.2.1 i hi, fun k hk => by rw [a.2.2 21 (by decide) (by decide)]; exact h.2.2.2 k hk⟩
theorem tE_le {T : Nat → Nat} {n p : Nat} (h : p ≤ n) : tE T n p ≤ n ∧ p ≤ tE T n p ∧ tS T n p ≤ tE T n p ∧ p ≤ tS T n p := by
  have h1 : tS T n p ≤ n := rn_le h
  have h2 : p ≤ tS T n p := rn_ge
  by_cases hs : tS T n p < n
  · by_cases hf : isLt (T (tS T n p)) = true
    · rw [(tE_L hs hf).1]
      have := rn_le (f := isLt) (T := T) h1
      have h3 : tS T n p ≤ rn isLt T n (tS T n p) := rn_ge
      omega
    · by_cases hg : isDg (T (tS T n p)) = true
      · rw [(tE_D hs hf hg).1]
        have := rn_le (f := isDg) (T := T) h1
        have h3 : tS T n p ≤ rn isDg T n (tS T n p) := rn_ge
        omega
      · rw [(tE_O hs hf hg).1]
        omega
  · rw [(tE_E hs).1]
    omega
/-- behind advance -/
theorem cS.av {T : Nat → Nat} {n o : Nat} {S : pZ} {I I' : Nat → Nat → Int32} {J J' : Nat → Nat → Int64} (ho : isO o) (h : cS T n o S I J) (a : AvC I I' J J') (hr : rC T n (tE T n (zP S)) I' J') : cS T n o (pAv T n S) I' J' := by
  obtain ⟨h1, h2, h3, h4, h5, h6, h7, h8, h9⟩ := h
  have e : ∀ k, k ≠ 3 → I' k = I k := a.1
  refine ⟨hr, (tE_le h2).1, (a.2.1 7 (by decide) (by decide) (by decide) (by decide) (by decide)).trans h3, h4, fun i hi => ?_, (a.2.1 15 (by decide) (by decide) (by decide) (by decide) (by decide)).trans h6, ?_, ?_, fun j q1 q2 => ?_⟩
  · rw [a.2.2 22 (by decide), e 23 (by decide), e 24 (by decide)]
    exact h5 i hi
  · rw [e o (by rcases ho with rfl | rfl <;> decide)]
    exact h7
  · rw [e o (by rcases ho with rfl | rfl <;> decide)]
    exact h8
  · rw [e _ (by rcases ho with rfl | rfl <;> omega)]
    exact h9 j q1 q2
/-- an entry of the draft is written -/
theorem cS.st {T : Nat → Nat} {n o j i : Nat} {v : Int32} {S : pZ} {I : Nat → Nat → Int32} {J : Nat → Nat → Int64} (ho : isO o) (h : cS T n o S I J) (hj : 2 ≤ j) (hj2 : j < 18) : cS T n o (pSt j i v S) (hp_u I (o + (j - 1)) i v) J := by
  obtain ⟨⟨r1, r2, r3, r4, r5, r6⟩, h2, h3, h4, h5, h6, h7, h8, h9⟩ := h
  have e3 : hp_u I (o + (j - 1)) i v 3 = I 3 := hu_ne (by rcases ho with rfl | rfl <;> omega)
  have e23 : hp_u I (o + (j - 1)) i v 23 = I 23 := hu_ne (by rcases ho with rfl | rfl <;> omega)
  have e24 : hp_u I (o + (j - 1)) i v 24 = I 24 := hu_ne (by rcases ho with rfl | rfl <;> omega)
  have eo : hp_u I (o + (j - 1)) i v o = I o := hu_ne (by omega)
  refine ⟨⟨?_, ?_, ?_, ?_, r5, ?_⟩, h2, ?_, h4, fun q hq => ?_, ?_, ?_, ?_, fun q q1 q2 => ?_⟩
  · rw [e3]; exact r1
  · rw [e3]; exact r2
  · rw [e3]; exact r3
  · rw [e3]; exact r4
  · rw [e3]; exact r6
  · rw [e3]; exact h3
  · rw [e23, e24]; exact h5 q hq
  · rw [e3]; exact h6
  · rw [eo]
    show _ = hp_u (zD S) j i v 0 0
    rw [hu_ne (by omega)]
    exact h7
  · rw [eo]
    show _ = hp_u (zD S) j i v 1 0
    rw [hu_ne (by omega)]
    exact h8
  · show _ = hp_u (zD S) j i v q
    by_cases c : q = j
    · subst c
      funext y
      rw [hu_if, hu_if, h9 q q1 q2]
    · rw [hu_ne (by omega), hu_ne c]
      exact h9 q q1 q2
set_option maxRecDepth 10000 in
theorem x_fails {I : Nat → Nat → Int32} {J : Nat → Nat → Int64} {F : Nat → Nat → Option Nat} {nc ns : Nat} {v : Int32}  : Ev 0 mX7_fails 0 [.ref 3, .int v] [] ((SH, nc, ns), I, J, F) (some (.int 0)) ((SH, nc, ns), hp_u I 3 10 v, J, F) := by
  refine e_aload_n (p := 1) dX7_fails_0 rfl rfl ?_
  refine e_iload_n (p := 2) dX7_fails_1 rfl rfl ?_
  refine e_putI (c := 7) (j := 10) (n := 16)  (p := 5) dX7_fails_2 rfl rfl (by decide) (by decide) rfl rfl rfl ?_
  refine e_iconst (v := 0) (p := 6) dX7_fails_5 (by decide) rfl ?_
  exact e_iretE dX7_fails_6 rfl (by decide) (by decide) ⟨rfl, rfl⟩
theorem tK_le {T : Nat → Nat} {n p : Nat} : tK T n p ≤ 4 := by
  unfold tK
  split
  · split
    · split <;> omega
    · split
      · split <;> omega
      · split <;> omega
  · omega
theorem tK_eq {T : Nat → Nat} {n p k : Nat} (hk : k < 1000) : nI (tK T n p) = nI k ↔ tK T n p = k := nI_eq (by have := tK_le (T := T) (n := n) (p := p); omega) (by omega)
set_option maxRecDepth 10000 in
theorem x_isName {I : Nat → Nat → Int32} {J : Nat → Nat → Int64} {F : Nat → Nat → Option Nat} {nc ns : Nat} {T : Nat → Nat} {n o : Nat} {S : pZ} (ho : isO o) (hF : RFok F) (hdF : F 3 0 = some o) (ht : txC T n I J) (hc : cS T n o S I J)  : Ev 0 mX7_isName 0 [.ref 3] [] ((SH, nc, ns), I, J, F) (some (.int (if isNm T n (zP S) then 1 else 0))) ((SH, nc, ns), I, J, F) := by
  refine e_aload_n (p := 1) dX7_isName_0 rfl rfl ?_
  refine f_getI (c := 7) (j := 11) (n := 16) (v := nI (tK T n (zP S))) (p := 4) dX7_isName_1 rfl rfl (by decide) (by decide) (Or.inl rfl) hc.1.2.2.1 rfl ?_
  refine e_iconst (v := 1) (p := 5) dX7_isName_4 (by decide) rfl ?_
  refine e_icmp_ne (t := 29) (p := 8) dX7_isName_5 (by decide) rfl rfl (fun hc5 => ?_) (fun hc5 => ?_)
  · skip
    refine e_iconst (v := 0) (p := 30) dX7_isName_29 (by decide) rfl ?_
    exact e_iretE dX7_isName_30 rfl (by decide) (by decide) ⟨by
    have q5 : ¬ tK T n (zP S) = 1 := fun z => hc5 ((tK_eq (k := 1) (by omega)).mpr z)
    first | (rw [if_pos ⟨q5, Or.inl hc13⟩]; done) | (rw [if_pos ⟨q5, Or.inr (Int32.not_le.mp hc22)⟩]; done) | (rw [if_neg (fun z => q5 z.1)]; done) | (rw [if_neg (fun z => z.2.elim hc13 (fun y => absurd hc22 (Int32.not_le.mpr y)))]; done), rfl⟩
  · skip
    refine e_aload_n (p := 9) dX7_isName_8 rfl rfl ?_
    refine f_getI (c := 7) (j := 13) (n := 16) (v := tQ T n (zP S)) (p := 12) dX7_isName_9 rfl rfl (by decide) (by decide) (Or.inl rfl) hc.1.2.2.2.1 rfl ?_
    refine e_iconst (v := -1) (p := 13) dX7_isName_12 (by decide) rfl ?_
    refine e_icmp_eq (t := 25) (p := 16) dX7_isName_13 (by decide) rfl rfl (fun hc13 => ?_) (fun hc13 => ?_)
    · skip
      refine e_iconst (v := 1) (p := 26) dX7_isName_25 (by decide) rfl ?_
      refine e_goto (p := 30) dX7_isName_26 (by decide) rfl ?_
      exact e_iretE dX7_isName_30 rfl (by decide) (by decide) ⟨by
    have q5 : tK T n (zP S) = 1 := (tK_eq (k := 1) (by omega)).mp hc5
    first | (rw [if_pos ⟨q5, Or.inl hc13⟩]; done) | (rw [if_pos ⟨q5, Or.inr (Int32.not_le.mp hc22)⟩]; done) | (rw [if_neg (fun z => q5 z.1)]; done) | (rw [if_neg (fun z => z.2.elim hc13 (fun y => absurd hc22 (Int32.not_le.mpr y)))]; done), rfl⟩
    · skip
      refine e_aload_n (p := 17) dX7_isName_16 rfl rfl ?_
      refine f_getI (c := 7) (j := 13) (n := 16) (v := tQ T n (zP S)) (p := 20) dX7_isName_17 rfl rfl (by decide) (by decide) (Or.inl rfl) hc.1.2.2.2.1 rfl ?_
      refine e_bipush (v := 7) (p := 22) dX7_isName_20 (by decide) rfl ?_
      refine e_icmp_le (t := 29) (p := 25) dX7_isName_22 (by decide) rfl rfl (fun hc22 => ?_) (fun hc22 => ?_)
      · skip
        refine e_iconst (v := 0) (p := 30) dX7_isName_29 (by decide) rfl ?_
        exact e_iretE dX7_isName_30 rfl (by decide) (by decide) ⟨by
    have q5 : tK T n (zP S) = 1 := (tK_eq (k := 1) (by omega)).mp hc5
    first | (rw [if_pos ⟨q5, Or.inl hc13⟩]; done) | (rw [if_pos ⟨q5, Or.inr (Int32.not_le.mp hc22)⟩]; done) | (rw [if_neg (fun z => q5 z.1)]; done) | (rw [if_neg (fun z => z.2.elim hc13 (fun y => absurd hc22 (Int32.not_le.mpr y)))]; done), rfl⟩
      · skip
        refine e_iconst (v := 1) (p := 26) dX7_isName_25 (by decide) rfl ?_
        refine e_goto (p := 30) dX7_isName_26 (by decide) rfl ?_
        exact e_iretE dX7_isName_30 rfl (by decide) (by decide) ⟨by
    have q5 : tK T n (zP S) = 1 := (tK_eq (k := 1) (by omega)).mp hc5
    first | (rw [if_pos ⟨q5, Or.inl hc13⟩]; done) | (rw [if_pos ⟨q5, Or.inr (Int32.not_le.mp hc22)⟩]; done) | (rw [if_neg (fun z => q5 z.1)]; done) | (rw [if_neg (fun z => z.2.elim hc13 (fun y => absurd hc22 (Int32.not_le.mpr y)))]; done), rfl⟩
def plI : Option Nat → Int32
  | some i => nI i
  | none => -1
theorem tW_lt {T : Nat → Nat} {n p : Nat} (h : tK T n p = 1) : tW T n p < 2 ^ 40 := by
  by_cases hs : tS T n p < n
  · by_cases hf : isLt (T (tS T n p)) = true
    · rw [(tE_L hs hf).2] at h
      exact pkw_lt (Decidable.byContradiction fun z => by rw [if_neg z] at h; cases h)
    · by_cases hg : isDg (T (tS T n p)) = true
      · rw [(tE_D hs hf hg).2] at h
        split at h <;> cases h
      · rw [(tE_O hs hf hg).2] at h
        split at h <;> cases h
  · rw [(tE_E hs).2] at h
    cases h
set_option maxRecDepth 10000 in
theorem x_place_L {I : Nat → Nat → Int32} {J : Nat → Nat → Int64} {F : Nat → Nat → Option Nat} {nc ns : Nat} {T : Nat → Nat} {n o : Nat} {S : pZ} (ho : isO o) (hF : RFok F) (hdF : F 3 0 = some o) (ht : txC T n I J) (hc : cS T n o S I J) (hk : tK T n (zP S) = 1)  : ∀ (m j : Nat) , j + m = zC S → Ev 0 mX7_placeOfName 2 [.ref 3, .int (nI j)] [] ((SH, nc, ns), I, J, F) (some (.int (plI (fnd T (zN S) (tW T n (zP S)) m j)))) ((SH, nc, ns), I, J, F)
  | 0, j, hj => by
    have hcc := hc.2.2.2.1.1
    refine e_iload_n (p := 3) dX7_placeOfName_2 rfl rfl ?_
    refine e_aload_n (p := 4) dX7_placeOfName_3 rfl rfl ?_
    refine f_getI (c := 7) (j := 7) (n := 16) (v := nI (zC S)) (p := 7) dX7_placeOfName_4 rfl rfl (by decide) (by decide) (Or.inl rfl) hc.2.2.1 rfl ?_
    refine e_icmp_ge (t := 32) (p := 10) dX7_placeOfName_7 (by decide) rfl rfl (fun hc7 => ?_) (fun hc7 => absurd (nI_le (a := zC S) (b := j) (by omega) (by omega)) hc7)
    refine e_iconst (v := -1) (p := 33) dX7_placeOfName_32 (by decide) rfl ?_
    exact e_iretE dX7_placeOfName_33 rfl rfl (by decide) ⟨rfl, rfl⟩
  | m + 1, j, hj => by
    have hcc := hc.2.2.2.1.1
    refine e_iload_n (p := 3) dX7_placeOfName_2 rfl rfl ?_
    refine e_aload_n (p := 4) dX7_placeOfName_3 rfl rfl ?_
    refine f_getI (c := 7) (j := 7) (n := 16) (v := nI (zC S)) (p := 7) dX7_placeOfName_4 rfl rfl (by decide) (by decide) (Or.inl rfl) hc.2.2.1 rfl ?_
    refine e_icmp_ge (t := 32) (p := 10) dX7_placeOfName_7 (by decide) rfl rfl (fun hc7 => absurd hc7 (nI_ge (a := j) (b := zC S) (by omega) (by omega))) (fun hc7 => ?_)
    refine e_aload_n (p := 11) dX7_placeOfName_10 rfl rfl ?_
    refine e_getR (c := 7) (j := 4) (n := 16) (b := 22) (p := 14) dX7_placeOfName_11 rfl rfl (by decide) (by decide) rfl (r_3_4 hF) rfl ?_
    refine e_iload_n (p := 15) dX7_placeOfName_14 rfl rfl ?_
    refine g_lald (n := 19) (i := j) (v := lN (pkw T (zN S j).1 (zN S j).2.1)) (p := 16) dX7_placeOfName_15 rfl (in_nJ (by omega) (by decide)) (nI_cl (by omega)) (hc.2.2.2.2.1 j (by omega)).1 rfl ?_
    refine e_aload_n (p := 17) dX7_placeOfName_16 rfl rfl ?_
    refine g_getJ (c := 7) (j := 12) (n := 16) (v := lN (tW T n (zP S))) (p := 20) dX7_placeOfName_17 rfl rfl (by decide) (by decide) rfl (hc.1.2.2.2.2.1 hk) rfl ?_
    refine e_lcmp (p := 21) dX7_placeOfName_20 rfl ?_
    refine e_if_ne (t := 26) (p := 24) dX7_placeOfName_21 (by decide) rfl rfl (fun hc21 => ?_) (fun hc21 => ?_)
    · skip
      refine e_iinc (ls1 := [.ref 3, .int ((nI j) + 1)]) (p := 29) dX7_placeOfName_26 rfl rfl rfl ?_
      refine e_goto (p := 2) dX7_placeOfName_29 (by decide) rfl ?_
      rw [nI_1]
      rw [show fnd T (zN S) (tW T n (zP S)) (m + 1) j = fnd T (zN S) (tW T n (zP S)) m (j + 1) by rw [fnd, if_neg (fun z => hc21 ((cmp_eq (hc.2.2.2.1.2 j (by omega)).2.2.2 (tW_lt hk)).mpr z))]]
      exact x_place_L ho hF hdF ht hc hk m (j + 1) (by omega)
    · skip
      refine e_iload_n (p := 25) dX7_placeOfName_24 rfl rfl ?_
      exact e_iretE dX7_placeOfName_25 rfl rfl (by decide) ⟨by rw [fnd, if_pos ((cmp_eq (hc.2.2.2.1.2 j (by omega)).2.2.2 (tW_lt hk)).mp hc21)]; rfl, rfl⟩
set_option maxRecDepth 10000 in
theorem x_place {I : Nat → Nat → Int32} {J : Nat → Nat → Int64} {F : Nat → Nat → Option Nat} {nc ns : Nat} {T : Nat → Nat} {n o : Nat} {S : pZ} (ho : isO o) (hF : RFok F) (hdF : F 3 0 = some o) (ht : txC T n I J) (hc : cS T n o S I J) (hk : tK T n (zP S) = 1)  : Ev 0 mX7_placeOfName 0 [.ref 3, .null] [] ((SH, nc, ns), I, J, F) (some (.int (plI (zK T n S)))) ((SH, nc, ns), I, J, F) := by
  refine e_iconst (v := 0) (p := 1) dX7_placeOfName_0 (by decide) rfl ?_
  refine e_istore_n (ls1 := [.ref 3, .int 0]) (p := 2) dX7_placeOfName_1 rfl rfl ?_
  exact x_place_L ho hF hdF ht hc hk (zC S) 0 (by omega)
