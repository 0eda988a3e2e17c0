/-! The class reads a text. -/
def Mo (n : Nat) (S S' : pZ) : Prop := zF S' = 0 → zP S ≤ n → zP S ≤ zP S' ∧ zP S' ≤ n
def Mp (n : Nat) (S S' : pZ) : Prop := zP S ≤ n → zP S ≤ zP S' ∧ zP S' ≤ n
section
variable {T : Nat → Nat} {n : Nat} {S A Y : pZ} {K : pZ → pZ}
theorem Mp.rf : Mp n S S := fun h => ⟨Nat.le_refl _, h⟩
theorem Mp.sv {j i : Nat} {v : Int32} (h : Mp n S Y) : Mp n S (pSt j i v Y) := h
theorem Mp.av (h : Mp n S Y) : Mp n S (pAv T n Y) := fun q => ⟨Nat.le_trans (h q).1 (tE_le (h q).2).2.1, (tE_le (h q).2).1⟩
theorem Mp.o (h : Mp n S Y) : Mo n S Y := fun _ => h
theorem Mo.B (h : Mo n S A) (k : ∀ X, Mo n X (K X)) : Mo n S (pB A K) := by
  intro z q
  obtain ⟨z1, y1⟩ := pB_0 z
  rw [y1] at z ⊢
  have a := h z1 q
  have b := k A z a.2
  exact ⟨Nat.le_trans a.1 b.1, b.2⟩
theorem Mo.tk {w lo hi : Nat} (h : Mp n S Y) : Mo n S (pTk T n w lo hi Y) := by
  intro z q
  obtain ⟨v, -, -, e⟩ := tk_of z
  rw [e]
  exact (Mp.av (Mp.av h)) q
theorem Mo.nw {so row : Nat} (h : Mp n S Y) : Mo n S (pNw T n so row Y) := by
  intro z q
  obtain ⟨-, -, e⟩ := nw_of z
  rw [e]
  exact (Mp.av (Y := pAd T n so row Y) h) q
theorem Mo.fn {so : Nat} (h : Mp n S Y) : Mo n S (pFn T n so Y) := by
  intro z q
  obtain ⟨-, i, -, -, -, e⟩ := fn_of z
  rw [e]
  exact h q
theorem Mo.fl {k : Nat} (hk : k ≠ 0) : Mo n S (pFl k Y) := fun z => absurd z hk
theorem Mo.it {c : Prop} [Decidable c] {B : pZ} (h1 : Mo n S A) (h2 : Mo n S B) : Mo n S (if c then A else B) := by
  split
  · exact h1
  · exact h2
theorem Mo.line {k row : Nat} : Mo n S (pLk T n k row S) := by
  unfold pLk
  split
  · exact Mo.B (Mo.nw Mp.rf) (fun _ => Mo.B (Mo.tk Mp.rf) (fun _ => Mo.B (Mo.tk (Mp.sv Mp.rf)) (fun _ => Mp.o (Mp.sv Mp.rf))))
  · exact Mo.B (Mo.fn Mp.rf) (fun _ => Mo.B (Mo.fn (Mp.av Mp.rf)) (fun _ => Mo.it (Mp.o (Mp.av (Mp.sv (Mp.sv Mp.rf)))) (Mo.fl (by decide))))
  · refine Mo.B (Mo.nw Mp.rf) (fun _ => Mo.it (Mo.fl (by decide)) (Mo.it (Mo.fl (by decide)) ?_))
    unfold pWom2
    refine Mo.it ?_ (Mo.fl (by decide))
    exact Mo.B (Mo.fn (Mp.av (Mp.av (Mp.sv Mp.rf)))) (fun _ => Mo.B (Mo.tk (Mp.av (Mp.sv Mp.rf))) (fun _ => Mo.B (Mo.tk (Mp.sv Mp.rf)) (fun _ => Mp.o (Mp.sv Mp.rf))))
  · exact Mo.B (Mo.fn Mp.rf) (fun _ => Mo.B (Mo.tk (Mp.av (Mp.sv Mp.rf))) (fun _ => Mp.o (Mp.sv Mp.rf)))
  · exact Mo.B (Mo.fn Mp.rf) (fun _ => Mo.B (Mo.tk (Mp.av (Mp.sv Mp.rf))) (fun _ => Mp.o (Mp.sv Mp.rf)))
  · exact Mo.B (Mo.nw Mp.rf) (fun _ => Mo.B (Mo.tk Mp.rf) (fun _ => Mo.B (Mo.tk (Mp.sv Mp.rf)) (fun _ => Mp.o (Mp.sv Mp.rf))))
  · exact Mo.B (Mo.tk Mp.rf) (fun _ => Mo.B (Mo.tk (Mp.sv Mp.rf)) (fun _ => Mp.o (Mp.sv Mp.rf)))
end
def pLs (T : Nat → Nat) (n : Nat) (S : pZ) : pZ := if tQ T n (zP S) < 0 then pFl 1 S else if 7 < tQ T n (zP S) then pFl 1 S else pLn T n (tQ T n (zP S)).toNatClampNeg S
def pL (T : Nat → Nat) (n : Nat) (S : pZ) : pZ := pB (pLs T n S) (fun S1 => if 7 ≤ tQ T n (zP S) then S1 else pIn (tQ T n (zP S)).toNatClampNeg S1)
def pEnd (T : Nat → Nat) (n : Nat) (S : pZ) : pZ := if tK T n (zP S) = 0 then (if zD S 2 0 ≤ 0 then pFl 6 S else if zD S 2 2 ≤ 0 then pFl 6 S else S) else pFl 1 S
def pRd (T : Nat → Nat) (n : Nat) : Nat → pZ → pZ
  | 0, S => S
  | m + 1, S => pB (pL T n S) (fun S1 => if tK T n (zP S1) = 3 then pRd T n m (pAv T n S1) else pEnd T n S1)
theorem ls_q {T : Nat → Nat} {n : Nat} {S : pZ} (h : zF (pLs T n S) = 0) : ¬ tQ T n (zP S) < 0 ∧ ¬ 7 < tQ T n (zP S) := by
  unfold pLs at h
  split at h
  · exact absurd h (by show ¬ (1 : Nat) = 0; decide)
  · split at h
    · exact absurd h (by show ¬ (1 : Nat) = 0; decide)
    · rename_i a b
      exact ⟨a, b⟩
theorem q_k {x : Int32} (h1 : ¬ x < 0) (h2 : ¬ 7 < x) : ∃ k, k < 8 ∧ x = nI k := by
  obtain ⟨k, hk, rfl⟩ := nI_of h1
  refine ⟨k, Nat.lt_of_not_le (fun z => h2 (nI_lt (a := 7) (b := k) (by omega) hk)), rfl⟩
theorem Mo.ls {T : Nat → Nat} {n : Nat} {S : pZ} : Mo n S (pLs T n S) := by
  unfold pLs
  refine Mo.it (Mo.fl (by decide)) (Mo.it (Mo.fl (by decide)) ?_)
  unfold pLn
  refine Mo.it ?_ (Mo.it (Mo.fl (by decide)) (Mo.it (Mo.fl (by decide)) ?_))
  · unfold pOath
    exact Mo.it (Mo.B (Mo.tk (Mp.av Mp.rf)) (fun _ => Mo.B (Mo.tk Mp.rf) (fun _ => Mp.o (Mp.sv (Mp.sv Mp.rf))))) (Mo.fl (by decide))
  · intro z q
    have a := Mo.line z (tE_le q).1
    exact ⟨Nat.le_trans (tE_le q).2.1 a.1, a.2⟩
theorem pL_c {T : Nat → Nat} {n : Nat} {S : pZ} (h : zF (pLs T n S) = 0) : pL T n S = pLc T n (tQ T n (zP S)).toNatClampNeg S := by
  obtain ⟨q1, q2⟩ := ls_q h
  obtain ⟨k, hk, e⟩ := q_k q1 q2
  unfold pL pLc pLs
  rw [if_neg q1, if_neg q2, e, nI_cl (by omega)]
  by_cases c : k = 7
  · subst c
    simp only [↓reduceIte, show (7 : Int32) ≤ nI 7 by decide]
  · have c2 : ¬ (7 : Int32) ≤ nI k := nI_ge (a := k) (b := 7) (by omega) (by omega)
    simp only [c, c2, ↓reduceIte]
theorem zI_pL {T : Nat → Nat} {n : Nat} {S : pZ} (h : zI T n S) (hz : zF (pL T n S) = 0) : zI T n (pL T n S) := by
  have hs : zF (pLs T n S) = 0 := (pB_0 hz).1
  obtain ⟨q1, q2⟩ := ls_q hs
  obtain ⟨k, hk, e⟩ := q_k q1 q2
  rw [pL_c hs, e, nI_cl (by omega)] at hz ⊢
  exact zI_L hk h hz
theorem zI.h19 {T : Nat → Nat} {n : Nat} {S : pZ} (h : zI T n S) : ∀ k, k = 0 ∨ k = 2 ∨ k = 5 → dN (zD S) k < rmN k → zC S < 19 := by
  intro k hk hr
  obtain ⟨-, b0, -, b2, -, -, b5, -⟩ := h.2.1
  have := h.2.2.2.2.2.2.1
  rcases hk with rfl | rfl | rfl
  · have : dN (zD S) 0 < 6 := hr
    omega
  · have : dN (zD S) 2 < 8 := hr
    omega
  · have : dN (zD S) 5 < 5 := hr
    omega
theorem x_readLine {I : Nat → Nat → Int32} {J : Nat → Nat → Int64} {F : Nat → Nat → Option Nat} {nc ns : Nat} {T : Nat → Nat} {n o : Nat} {S : pZ} (ho : isO o) (hF : RFok F) (hdF : F 3 0 = some o) (ht : txC T n I J) (hc : cS T n o S I J) (hz : zF S = 0) (hI : zI T n S) : Ew 5 mX7_readLine 0 [.ref 3, .null, .null] [] ((SH, nc, ns), I, J, F) (RdP nc ns T n o I J F (pLs T n S)) := by
  unfold pLs
  by_cases q1 : tQ T n (zP S) < 0
  · rw [if_pos q1]
    exact x_readLine_lt ho hF hdF ht hc hz q1
  by_cases q2 : 7 < tQ T n (zP S)
  · rw [if_neg q1, if_pos q2]
    exact x_readLine_gt ho hF hdF ht hc hz (Int32.not_lt.mp q1) q2
  rw [if_neg q1, if_neg q2]
  obtain ⟨k, hk, e⟩ := q_k q1 q2
  rw [e, nI_cl (by omega)]
  rcases (by omega : k = 0 ∨ k = 1 ∨ k = 2 ∨ k = 3 ∨ k = 4 ∨ k = 5 ∨ k = 6 ∨ k = 7) with rfl | rfl | rfl | rfl | rfl | rfl | rfl | rfl
  · exact Ew.mono (x_readLine_0 ho hF hdF ht hc hz hI.2.1 hI.h19 e) (fun _ _ z => z)
  · exact Ew.mono (x_readLine_1 ho hF hdF ht hc hz hI.2.1 hI.h19 e) (fun _ _ z => z)
  · exact Ew.mono (x_readLine_2 ho hF hdF ht hc hz hI.2.1 hI.h19 e) (fun _ _ z => z)
  · exact Ew.mono (x_readLine_3 ho hF hdF ht hc hz hI.2.1 hI.h19 e) (fun _ _ z => z)
  · exact Ew.mono (x_readLine_4 ho hF hdF ht hc hz hI.2.1 hI.h19 e) (fun _ _ z => z)
  · exact Ew.mono (x_readLine_5 ho hF hdF ht hc hz hI.2.1 hI.h19 e) (fun _ _ z => z)
  · exact Ew.mono (x_readLine_6 ho hF hdF ht hc hz hI.2.1 hI.h19 e) (fun _ _ z => z)
  · exact x_readLine_7 ho hF hdF ht hc hz e
def RdQ (nc ns : Nat) (T : Nat → Nat) (n o : Nat) (I : Nat → Nat → Int32) (J : Nat → Nat → Int64) (F : Nat → Nat → Option Nat) (S' : pZ) : Option Value → hp_H → Prop := fun r h' => r = some (.int (nI (zF S'))) ∧ ∃ I' J', h' = ((SH, nc, ns), I', J', F) ∧ RdF o I I' J J' ∧ ((zF S' = 0 ∧ cS T n o S' I' J' ∧ zI T n S') ∨ (¬ zF S' = 0 ∧ I' 3 1 = nI (tS T n (zP S'))))
theorem RdQ.no {nc ns n o : Nat} {T : Nat → Nat} {I I' : Nat → Nat → Int32} {J J' : Nat → Nat → Int64} {F : Nat → Nat → Option Nat} {S' X : pZ} {v : Int32} (hE : S' = X) (hz : ¬ zF X = 0) (hv : v = nI (zF X)) (rf : RdF o I I' J J') (h1 : I' 3 1 = nI (tS T n (zP X))) : RdQ nc ns T n o I J F S' (some (.int v)) ((SH, nc, ns), I', J', F) := by
  subst hE hv
  exact ⟨rfl, I', J', rfl, rf, Or.inr ⟨hz, h1⟩⟩
theorem RdQ.ok {nc ns n o : Nat} {T : Nat → Nat} {I I' : Nat → Nat → Int32} {J J' : Nat → Nat → Int64} {F : Nat → Nat → Option Nat} {S' X : pZ} (hE : S' = X) (hz : zF X = 0) (rf : RdF o I I' J J') (hc : cS T n o X I' J') (hI : zI T n X) : RdQ nc ns T n o I J F S' (some (.int 0)) ((SH, nc, ns), I', J', F) := by
  subst hE
  refine ⟨by rw [hz]; rfl, I', J', rfl, rf, Or.inl ⟨hz, hc, hI⟩⟩
theorem hw_0 {a b : Int32} {P Q : pZ} (h : (if a ≤ 0 then (0 : Int32) else if b ≤ 0 then 0 else 1) = 0) : (if a ≤ 0 then P else if b ≤ 0 then P else Q) = P := by
  by_cases c : a ≤ 0
  · rw [if_pos c]
  · by_cases d : b ≤ 0
    · rw [if_neg c, if_pos d]
    · rw [if_neg c, if_neg d] at h
      exact absurd h (by decide)
theorem hw_1 {a b : Int32} {P Q : pZ} (h : ¬ (if a ≤ 0 then (0 : Int32) else if b ≤ 0 then 0 else 1) = 0) : (if a ≤ 0 then P else if b ≤ 0 then P else Q) = Q := by
  by_cases c : a ≤ 0
  · rw [if_pos c] at h
    exact absurd rfl h
  · by_cases d : b ≤ 0
    · rw [if_neg c, if_pos d] at h
      exact absurd rfl h
    · rw [if_neg c, if_neg d]
theorem in_q {x : Int32} (h1 : ¬ x < 0) (h2 : ¬ 7 ≤ x) : ev_in x 7 = true := by
  obtain ⟨k, hk, rfl⟩ := nI_of h1
  have : k < 7 := Nat.lt_of_not_le (fun z => h2 (nI_le (a := 7) (b := k) z hk))
  exact in_nJ this (by decide)
theorem tK_3 {T : Nat → Nat} {n p : Nat} (h : tK T n p = 3) : tE T n p = tS T n p + 1 ∧ p ≤ tS T n p := by
  refine ⟨?_, rn_ge⟩
  by_cases hs : tS T n p < n
  · by_cases hf : isLt (T (tS T n p)) = true
    · rw [(tE_L hs hf).2] at h
      split at h <;> cases h
    · by_cases hg : isDg (T (tS T n p)) = true
      · rw [(tE_D hs hf hg).2] at h
        split at h <;> cases h
      · exact (tE_O hs hf hg).1
  · rw [(tE_E hs).2] at h
    cases h
theorem zI_av {T : Nat → Nat} {n : Nat} {S : pZ} (h : zI T n S) : zI T n (pAv T n S) := by
  obtain ⟨i1, i2, i3, i4, i5, i6, i7⟩ := h
  exact ⟨(tE_le i1).1, i2, i3, i4, i5, i6, i7⟩
set_option maxRecDepth 10000 in
theorem x_read_L {F : Nat → Nat → Option Nat} {nc ns : Nat} {T : Nat → Nat} {n o : Nat} {N : Int32} (ho : isO o) (hF : RFok F) (hdF : F 3 0 = some o) : ∀ (m l : Nat) (S : pZ) (I : Nat → Nat → Int32) (J : Nat → Nat → Int64) (z3 : Value), l + m = 901 → zF S = 0 → zI T n S → l ≤ zP S → txC T n I J → cS T n o S I J → Ew 6 mX7_read 45 [.ref 3, .int N, .int (nI l), z3] [] ((SH, nc, ns), I, J, F) (RdQ nc ns T n o I J F (pRd T n m S))
  | 0, l, S, I, J, z3, hl, hz, hI, hp, ht, hc => by
    have := hI.1
    have := ht.1
    omega
  | m + 1, l, S, I, J, z3, hl, hz, hI, hp, ht, hc => by
    refine we_iload_n (p := 46) dX7_read_45 rfl rfl ?_
    refine we_sipush (v := 900) (p := 49) dX7_read_46 (by decide) rfl ?_
    refine we_icmp_gt (t := 113) (p := 52) dX7_read_49 (by decide) rfl rfl (fun hc49 => absurd hc49 (nI_nlt (a := 900) (b := l) (by omega) (by omega))) (fun hc49 => ?_)
    refine we_aload_n (p := 53) dX7_read_52 rfl rfl ?_
    refine wf_getI (c := 7) (j := 13) (n := 16) (v := tQ T n (zP S)) (p := 56) dX7_read_53 rfl rfl (by decide) (by decide) (Or.inl rfl) hc.1.2.2.2.1 rfl ?_
    refine we_istore_n (ls1 := [.ref 3, .int N, .int (nI l), .int (tQ T n (zP S))]) (p := 57) dX7_read_56 rfl rfl ?_
    refine we_aload_n (p := 58) dX7_read_57 rfl rfl ?_
    obtain ⟨_, _, e1, I1, J1, rfl, f1, ⟨z1, rfl, c1⟩ | ⟨z1, rfl, g1, s1⟩⟩ := x_readLine ho hF hdF ht hc hz hI
    · skip
      refine we_callV_int (p := 61) (k' := 5) (a := [.ref 3]) (rr := []) dX7_read_58 rfl rfl rfl rfl (rc_of rfl rfl (by decide) ⟨rfl, by decide⟩) (Nat.le_of_ble_eq_true rfl) (Nat.le_of_ble_eq_true rfl) (by decide) e1 (Or.inl rfl) rfl ?_
      refine we_if_ne (t := 69) (p := 64) dX7_read_61 (by decide) rfl rfl (fun hc61 => ?_) (fun hc61 => absurd hc61 (by decide))
      refine we_iload_n (p := 70) dX7_read_69 rfl rfl ?_
      refine we_if_lt (t := 92) (p := 73) dX7_read_70 (by decide) rfl rfl (fun hc70 => absurd hc70 (ls_q z1).1) (fun hc70 => ?_)
      refine we_iload_n (p := 74) dX7_read_73 rfl rfl ?_
      refine we_bipush (v := 7) (p := 76) dX7_read_74 (by decide) rfl ?_
      refine we_icmp_ge (t := 92) (p := 79) dX7_read_76 (by decide) rfl rfl (fun hc76 => ?_) (fun hc76 => ?_)
      · skip
        refine we_aload_n (p := 93) dX7_read_92 rfl rfl ?_
        refine wf_getI (c := 7) (j := 11) (n := 16) (v := nI (tK T n (zP (pLs T n S)))) (p := 96) dX7_read_93 rfl rfl (by decide) (by decide) (Or.inl rfl) c1.1.2.2.1 rfl ?_
        refine we_iconst (v := 3) (p := 97) dX7_read_96 (by decide) rfl ?_
        refine we_icmp_eq (t := 103) (p := 100) dX7_read_97 (by decide) rfl rfl (fun hc97 => ?_) (fun hc97 => ?_)
        · skip
          refine we_aload_n (p := 104) dX7_read_103 rfl rfl ?_
          obtain ⟨_, _, e2, rfl, I2, J2, F2, rfl, ⟨rfl, a2, r2⟩⟩ := x_advance (I := I1) hF (ht.rd ho f1) (tE_le c1.2.1).1 c1.1.1
          refine we_callV_v (p := 107) (k' := 2) (a := [.ref 3]) (rr := []) dX7_read_104 rfl rfl rfl rfl (rc_of rfl rfl (by decide) ⟨rfl, by decide⟩) (Nat.le_of_ble_eq_true rfl) (Nat.le_of_ble_eq_true rfl) (by decide) e2 (Or.inl rfl) rfl ?_
          refine we_iinc (ls1 := [.ref 3, .int N, .int ((nI l) + 1), .int (tQ T n (zP S))]) (p := 110) dX7_read_107 rfl rfl rfl ?_
          refine we_goto (p := 45) dX7_read_110 (by decide) rfl ?_
          rw [nI_1]
          have q3 : tK T n (zP (pLs T n S)) = 3 := (tK_eq (k := 3) (by omega)).mp hc97
          have hpl : pL T n S = (pLs T n S) := by
            unfold pL
            rw [pB_y z1]
            exact if_pos hc76
          have hz2 : zF (pL T n S) = 0 := by rw [hpl]; exact z1
          have hI2 := zI_pL hI hz2
          rw [hpl] at hI2
          have hmo := Mo.ls (T := T) (n := n) (S := S) z1 hI.1
          have h3 := tK_3 q3
          have hmo2 : zP S ≤ zP (pLs T n S) ∧ zP (pLs T n S) ≤ n := hmo
          refine (x_read_L ho hF hdF m (l + 1) (pAv T n (pLs T n S)) _ _ _ (by omega) z1 (zI_av hI2) (by show l + 1 ≤ tE T n (zP (pLs T n S)); omega) ((ht.rd ho f1).av a2) (c1.av ho a2 r2)).mono ?_
          rw [show pRd T n (m + 1) S = pRd T n m (pAv T n (pLs T n S)) by rw [pRd, pB_y (S := pL T n S) hz2, hpl, if_pos q3]]
          rintro r h ⟨h1, I9, J9, h2, h4, h5⟩
          exact ⟨h1, I9, J9, h2, RdF.tr ((RdF.rf.tr f1).tr a2.r) h4, h5⟩
        · skip
          refine we_goto (p := 113) dX7_read_100 (by decide) rfl ?_
          refine we_aload_n (p := 114) dX7_read_113 rfl rfl ?_
          refine wf_getI (c := 7) (j := 11) (n := 16) (v := nI (tK T n (zP (pLs T n S)))) (p := 117) dX7_read_114 rfl rfl (by decide) (by decide) (Or.inl rfl) c1.1.2.2.1 rfl ?_
          refine we_if_eq (t := 122) (p := 120) dX7_read_117 (by decide) rfl rfl (fun hc117 => ?_) (fun hc117 => ?_)
          · skip
            refine we_aload_n (p := 123) dX7_read_122 rfl rfl ?_
            refine we_getR (c := 7) (j := 0) (n := 16) (b := o) (p := 126) dX7_read_123 rfl rfl (by decide) (by decide) rfl hdF rfl ?_
            refine we_callV_int (p := 129) (k' := 0) (a := [.ref o]) (rr := []) dX7_read_126 rfl rfl rfl rfl (rc_of rfl (s_o ho) (l_o0 ho) ⟨rfl, by decide⟩) (Nat.le_of_ble_eq_true rfl) (Nat.le_of_ble_eq_true rfl) (by decide) (x_hasHWE ho hF c1.2.2.2.2.2.2) (Or.inl rfl) rfl ?_
            refine we_if_eq (t := 136) (p := 132) dX7_read_129 (by decide) rfl rfl (fun hc129 => ?_) (fun hc129 => ?_)
            · skip
              refine we_bipush (v := 6) (p := 138) dX7_read_136 (by decide) rfl ?_
              exact wi_ret dX7_read_138 rfl rfl (by decide) (RdQ.no (X := pFl 6 (pLs T n S)) (by
      have hpl : pL T n S = (pLs T n S) := by
        unfold pL
        rw [pB_y z1]
        exact if_pos hc76
      rw [pRd, pB_y (S := pL T n S) (by rw [hpl]; exact z1), hpl]
      have q3 : ¬ tK T n (zP (pLs T n S)) = 3 := fun z => hc97 ((tK_eq (k := 3) (by omega)).mpr z)
      rw [if_neg q3]
      unfold pEnd
      have q0 : tK T n (zP (pLs T n S)) = 0 := (tK_eq (k := 0) (by omega)).mp hc117
      rw [if_pos q0]
      exact hw_0 hc129) (by show ¬ (6 : Nat) = 0; decide) rfl (RdF.rf.tr f1) c1.1.2.1)
            · skip
              refine we_iconst (v := 0) (p := 133) dX7_read_132 (by decide) rfl ?_
              refine we_goto (p := 138) dX7_read_133 (by decide) rfl ?_
              exact wi_ret dX7_read_138 rfl rfl (by decide) (RdQ.ok (X := (pLs T n S)) (by
      have hpl : pL T n S = (pLs T n S) := by
        unfold pL
        rw [pB_y z1]
        exact if_pos hc76
      rw [pRd, pB_y (S := pL T n S) (by rw [hpl]; exact z1), hpl]
      have q3 : ¬ tK T n (zP (pLs T n S)) = 3 := fun z => hc97 ((tK_eq (k := 3) (by omega)).mpr z)
      rw [if_neg q3]
      unfold pEnd
      have q0 : tK T n (zP (pLs T n S)) = 0 := (tK_eq (k := 0) (by omega)).mp hc117
      rw [if_pos q0]
      exact hw_1 hc129) z1 (RdF.rf.tr f1) c1 (by
      have hpl : pL T n S = (pLs T n S) := by
        unfold pL
        rw [pB_y z1]
        exact if_pos hc76
      rw [← hpl]
      exact zI_pL hI (by rw [hpl]; exact z1)))
          · skip
            refine we_iconst (v := 1) (p := 121) dX7_read_120 (by decide) rfl ?_
            exact wi_ret dX7_read_121 rfl rfl (by decide) (RdQ.no (X := pFl 1 (pLs T n S)) (by
      have hpl : pL T n S = (pLs T n S) := by
        unfold pL
        rw [pB_y z1]
        exact if_pos hc76
      rw [pRd, pB_y (S := pL T n S) (by rw [hpl]; exact z1), hpl]
      have q3 : ¬ tK T n (zP (pLs T n S)) = 3 := fun z => hc97 ((tK_eq (k := 3) (by omega)).mpr z)
      rw [if_neg q3]
      unfold pEnd
      have q0 : ¬ tK T n (zP (pLs T n S)) = 0 := fun z => hc117 ((tK_eq (k := 0) (by omega)).mpr z)
      rw [if_neg q0]) (by show ¬ (1 : Nat) = 0; decide) rfl (RdF.rf.tr f1) c1.1.2.1)
      · skip
        refine we_aload_n (p := 80) dX7_read_79 rfl rfl ?_
        refine we_getR (c := 7) (j := 0) (n := 16) (b := o) (p := 83) dX7_read_80 rfl rfl (by decide) (by decide) rfl hdF rfl ?_
        refine we_getR (c := 4) (j := 2) (n := 18) (b := (o + 1)) (p := 86) dX7_read_83 rfl (s_o ho) (l_o0 ho) (by decide) rfl (r_o2 hF ho) rfl ?_
        refine we_iload_n (p := 87) dX7_read_86 rfl rfl ?_
        refine we_dup2 (p := 88) dX7_read_87 rfl ?_
        refine wf_iald (n := 7) (i := (tQ T n (zP S)).toNatClampNeg) (v := zD (pLs T n S) 2 ((tQ T n (zP S)).toNatClampNeg)) (p := 89) dX7_read_88 (s_o1 ho) (l_o ho 1 (by decide)) (in_q (ls_q z1).1 hc76) rfl (congrFun (c1.2.2.2.2.2.2.2.2 2 (by decide) (by decide)) ((tQ T n (zP S)).toNatClampNeg)) rfl ?_
        refine we_iconst (v := 1) (p := 90) dX7_read_89 (by decide) rfl ?_
        refine we_iadd (p := 91) dX7_read_90 rfl ?_
        refine wf_iast (n := 7) (i := (tQ T n (zP S)).toNatClampNeg) (p := 92) dX7_read_91 (s_o1 ho) (l_o ho 1 (by decide)) (in_q (ls_q z1).1 hc76) rfl rfl ?_
        refine we_aload_n (p := 93) dX7_read_92 rfl rfl ?_
        refine wf_getI (c := 7) (j := 11) (n := 16) (v := nI (tK T n (zP (pSt 2 ((tQ T n (zP S)).toNatClampNeg) ((zD (pLs T n S) 2 ((tQ T n (zP S)).toNatClampNeg)) + 1) (pLs T n S))))) (p := 96) dX7_read_93 rfl rfl (by decide) (by decide) (Or.inl rfl) (c1.st (j := 2) ho (by decide) (by decide)).1.2.2.1 rfl ?_
        refine we_iconst (v := 3) (p := 97) dX7_read_96 (by decide) rfl ?_
        refine we_icmp_eq (t := 103) (p := 100) dX7_read_97 (by decide) rfl rfl (fun hc97 => ?_) (fun hc97 => ?_)
        · skip
          refine we_aload_n (p := 104) dX7_read_103 rfl rfl ?_
          obtain ⟨_, _, e3, rfl, I3, J3, F3, rfl, ⟨rfl, a3, r3⟩⟩ := x_advance (I := (hp_u I1 (o + 1) ((tQ T n (zP S)).toNatClampNeg) ((zD (pLs T n S) 2 ((tQ T n (zP S)).toNatClampNeg)) + 1))) hF ((ht.rd ho f1).rd ho (RdF.rf.uo (Or.inl ⟨by omega, by omega⟩) ho)) (tE_le (c1.st (j := 2) ho (by decide) (by decide)).2.1).1 (c1.st (j := 2) ho (by decide) (by decide)).1.1
          refine we_callV_v (p := 107) (k' := 2) (a := [.ref 3]) (rr := []) dX7_read_104 rfl rfl rfl rfl (rc_of rfl rfl (by decide) ⟨rfl, by decide⟩) (Nat.le_of_ble_eq_true rfl) (Nat.le_of_ble_eq_true rfl) (by decide) e3 (Or.inl rfl) rfl ?_
          refine we_iinc (ls1 := [.ref 3, .int N, .int ((nI l) + 1), .int (tQ T n (zP S))]) (p := 110) dX7_read_107 rfl rfl rfl ?_
          refine we_goto (p := 45) dX7_read_110 (by decide) rfl ?_
          rw [nI_1]
          have q3 : tK T n (zP (pSt 2 ((tQ T n (zP S)).toNatClampNeg) ((zD (pLs T n S) 2 ((tQ T n (zP S)).toNatClampNeg)) + 1) (pLs T n S))) = 3 := (tK_eq (k := 3) (by omega)).mp hc97
          have hpl : pL T n S = (pSt 2 ((tQ T n (zP S)).toNatClampNeg) ((zD (pLs T n S) 2 ((tQ T n (zP S)).toNatClampNeg)) + 1) (pLs T n S)) := by
            unfold pL
            rw [pB_y z1]
            exact if_neg hc76
          have hz2 : zF (pL T n S) = 0 := by rw [hpl]; exact z1
          have hI2 := zI_pL hI hz2
          rw [hpl] at hI2
          have hmo := Mo.ls (T := T) (n := n) (S := S) z1 hI.1
          have h3 := tK_3 q3
          have hmo2 : zP S ≤ zP (pSt 2 ((tQ T n (zP S)).toNatClampNeg) ((zD (pLs T n S) 2 ((tQ T n (zP S)).toNatClampNeg)) + 1) (pLs T n S)) ∧ zP (pSt 2 ((tQ T n (zP S)).toNatClampNeg) ((zD (pLs T n S) 2 ((tQ T n (zP S)).toNatClampNeg)) + 1) (pLs T n S)) ≤ n := hmo
          refine (x_read_L ho hF hdF m (l + 1) (pAv T n (pSt 2 ((tQ T n (zP S)).toNatClampNeg) ((zD (pLs T n S) 2 ((tQ T n (zP S)).toNatClampNeg)) + 1) (pLs T n S))) _ _ _ (by omega) z1 (zI_av hI2) (by show l + 1 ≤ tE T n (zP (pSt 2 ((tQ T n (zP S)).toNatClampNeg) ((zD (pLs T n S) 2 ((tQ T n (zP S)).toNatClampNeg)) + 1) (pLs T n S))); omega) (((ht.rd ho f1).rd ho (RdF.rf.uo (Or.inl ⟨by omega, by omega⟩) ho)).av a3) ((c1.st (j := 2) ho (by decide) (by decide)).av ho a3 r3)).mono ?_
          rw [show pRd T n (m + 1) S = pRd T n m (pAv T n (pSt 2 ((tQ T n (zP S)).toNatClampNeg) ((zD (pLs T n S) 2 ((tQ T n (zP S)).toNatClampNeg)) + 1) (pLs T n S))) by rw [pRd, pB_y (S := pL T n S) hz2, hpl, if_pos q3]]
          rintro r h ⟨h1, I9, J9, h2, h4, h5⟩
          exact ⟨h1, I9, J9, h2, RdF.tr (((RdF.rf.tr f1).uo (Or.inl ⟨by omega, by omega⟩) ho).tr a3.r) h4, h5⟩
        · skip
          refine we_goto (p := 113) dX7_read_100 (by decide) rfl ?_
          refine we_aload_n (p := 114) dX7_read_113 rfl rfl ?_
          refine wf_getI (c := 7) (j := 11) (n := 16) (v := nI (tK T n (zP (pSt 2 ((tQ T n (zP S)).toNatClampNeg) ((zD (pLs T n S) 2 ((tQ T n (zP S)).toNatClampNeg)) + 1) (pLs T n S))))) (p := 117) dX7_read_114 rfl rfl (by decide) (by decide) (Or.inl rfl) (c1.st (j := 2) ho (by decide) (by decide)).1.2.2.1 rfl ?_
          refine we_if_eq (t := 122) (p := 120) dX7_read_117 (by decide) rfl rfl (fun hc117 => ?_) (fun hc117 => ?_)
          · skip
            refine we_aload_n (p := 123) dX7_read_122 rfl rfl ?_
            refine we_getR (c := 7) (j := 0) (n := 16) (b := o) (p := 126) dX7_read_123 rfl rfl (by decide) (by decide) rfl hdF rfl ?_
            refine we_callV_int (p := 129) (k' := 0) (a := [.ref o]) (rr := []) dX7_read_126 rfl rfl rfl rfl (rc_of rfl (s_o ho) (l_o0 ho) ⟨rfl, by decide⟩) (Nat.le_of_ble_eq_true rfl) (Nat.le_of_ble_eq_true rfl) (by decide) (x_hasHWE ho hF (c1.st (j := 2) ho (by decide) (by decide)).2.2.2.2.2.2) (Or.inl rfl) rfl ?_
            refine we_if_eq (t := 136) (p := 132) dX7_read_129 (by decide) rfl rfl (fun hc129 => ?_) (fun hc129 => ?_)
            · skip
              refine we_bipush (v := 6) (p := 138) dX7_read_136 (by decide) rfl ?_
              exact wi_ret dX7_read_138 rfl rfl (by decide) (RdQ.no (X := pFl 6 (pSt 2 ((tQ T n (zP S)).toNatClampNeg) ((zD (pLs T n S) 2 ((tQ T n (zP S)).toNatClampNeg)) + 1) (pLs T n S))) (by
      have hpl : pL T n S = (pSt 2 ((tQ T n (zP S)).toNatClampNeg) ((zD (pLs T n S) 2 ((tQ T n (zP S)).toNatClampNeg)) + 1) (pLs T n S)) := by
        unfold pL
        rw [pB_y z1]
        exact if_neg hc76
      rw [pRd, pB_y (S := pL T n S) (by rw [hpl]; exact z1), hpl]
      have q3 : ¬ tK T n (zP (pSt 2 ((tQ T n (zP S)).toNatClampNeg) ((zD (pLs T n S) 2 ((tQ T n (zP S)).toNatClampNeg)) + 1) (pLs T n S))) = 3 := fun z => hc97 ((tK_eq (k := 3) (by omega)).mpr z)
      rw [if_neg q3]
      unfold pEnd
      have q0 : tK T n (zP (pSt 2 ((tQ T n (zP S)).toNatClampNeg) ((zD (pLs T n S) 2 ((tQ T n (zP S)).toNatClampNeg)) + 1) (pLs T n S))) = 0 := (tK_eq (k := 0) (by omega)).mp hc117
      rw [if_pos q0]
      exact hw_0 hc129) (by show ¬ (6 : Nat) = 0; decide) rfl ((RdF.rf.tr f1).uo (Or.inl ⟨by omega, by omega⟩) ho) (c1.st (j := 2) ho (by decide) (by decide)).1.2.1)
            · skip
              refine we_iconst (v := 0) (p := 133) dX7_read_132 (by decide) rfl ?_
              refine we_goto (p := 138) dX7_read_133 (by decide) rfl ?_
              exact wi_ret dX7_read_138 rfl rfl (by decide) (RdQ.ok (X := (pSt 2 ((tQ T n (zP S)).toNatClampNeg) ((zD (pLs T n S) 2 ((tQ T n (zP S)).toNatClampNeg)) + 1) (pLs T n S))) (by
      have hpl : pL T n S = (pSt 2 ((tQ T n (zP S)).toNatClampNeg) ((zD (pLs T n S) 2 ((tQ T n (zP S)).toNatClampNeg)) + 1) (pLs T n S)) := by
        unfold pL
        rw [pB_y z1]
        exact if_neg hc76
      rw [pRd, pB_y (S := pL T n S) (by rw [hpl]; exact z1), hpl]
      have q3 : ¬ tK T n (zP (pSt 2 ((tQ T n (zP S)).toNatClampNeg) ((zD (pLs T n S) 2 ((tQ T n (zP S)).toNatClampNeg)) + 1) (pLs T n S))) = 3 := fun z => hc97 ((tK_eq (k := 3) (by omega)).mpr z)
      rw [if_neg q3]
      unfold pEnd
      have q0 : tK T n (zP (pSt 2 ((tQ T n (zP S)).toNatClampNeg) ((zD (pLs T n S) 2 ((tQ T n (zP S)).toNatClampNeg)) + 1) (pLs T n S))) = 0 := (tK_eq (k := 0) (by omega)).mp hc117
      rw [if_pos q0]
      exact hw_1 hc129) z1 ((RdF.rf.tr f1).uo (Or.inl ⟨by omega, by omega⟩) ho) (c1.st (j := 2) ho (by decide) (by decide)) (by
      have hpl : pL T n S = (pSt 2 ((tQ T n (zP S)).toNatClampNeg) ((zD (pLs T n S) 2 ((tQ T n (zP S)).toNatClampNeg)) + 1) (pLs T n S)) := by
        unfold pL
        rw [pB_y z1]
        exact if_neg hc76
      rw [← hpl]
      exact zI_pL hI (by rw [hpl]; exact z1)))
          · skip
            refine we_iconst (v := 1) (p := 121) dX7_read_120 (by decide) rfl ?_
            exact wi_ret dX7_read_121 rfl rfl (by decide) (RdQ.no (X := pFl 1 (pSt 2 ((tQ T n (zP S)).toNatClampNeg) ((zD (pLs T n S) 2 ((tQ T n (zP S)).toNatClampNeg)) + 1) (pLs T n S))) (by
      have hpl : pL T n S = (pSt 2 ((tQ T n (zP S)).toNatClampNeg) ((zD (pLs T n S) 2 ((tQ T n (zP S)).toNatClampNeg)) + 1) (pLs T n S)) := by
        unfold pL
        rw [pB_y z1]
        exact if_neg hc76
      rw [pRd, pB_y (S := pL T n S) (by rw [hpl]; exact z1), hpl]
      have q3 : ¬ tK T n (zP (pSt 2 ((tQ T n (zP S)).toNatClampNeg) ((zD (pLs T n S) 2 ((tQ T n (zP S)).toNatClampNeg)) + 1) (pLs T n S))) = 3 := fun z => hc97 ((tK_eq (k := 3) (by omega)).mpr z)
      rw [if_neg q3]
      unfold pEnd
      have q0 : ¬ tK T n (zP (pSt 2 ((tQ T n (zP S)).toNatClampNeg) ((zD (pLs T n S) 2 ((tQ T n (zP S)).toNatClampNeg)) + 1) (pLs T n S))) = 0 := fun z => hc117 ((tK_eq (k := 0) (by omega)).mpr z)
      rw [if_neg q0]) (by show ¬ (1 : Nat) = 0; decide) rfl ((RdF.rf.tr f1).uo (Or.inl ⟨by omega, by omega⟩) ho) (c1.st (j := 2) ho (by decide) (by decide)).1.2.1)
    · skip
      refine we_callV_int (p := 61) (k' := 5) (a := [.ref 3]) (rr := []) dX7_read_58 rfl rfl rfl rfl (rc_of rfl rfl (by decide) ⟨rfl, by decide⟩) (Nat.le_of_ble_eq_true rfl) (Nat.le_of_ble_eq_true rfl) (by decide) e1 (Or.inl rfl) rfl ?_
      refine we_if_ne (t := 69) (p := 64) dX7_read_61 (by decide) rfl rfl (fun hc61 => absurd (by decide) hc61) (fun hc61 => ?_)
      refine we_aload_n (p := 65) dX7_read_64 rfl rfl ?_
      refine wf_getI (c := 7) (j := 10) (n := 16) (v := nI (zF (pLs T n S))) (p := 68) dX7_read_65 rfl rfl (by decide) (by decide) (Or.inl rfl) g1 rfl ?_
      exact wi_ret dX7_read_68 rfl rfl (by decide) (RdQ.no (X := pLs T n S) (by rw [pRd, pB_n (S := pL T n S) (by unfold pL; rw [pB_n z1]; exact z1)]; unfold pL; rw [pB_n z1]) z1 rfl (RdF.rf.tr f1) s1)
