/-! The class: size at other numbers, led. -/
theorem sz_o2 {x : Int32} (h15 : ¬ x = 15) (h14 : inS x 0 14 = 0) : (x.toInt < 0 ∨ 15 < x.toInt) ∧ (x < 2 ∨ 8 < x) := by
  unfold inS at h14
  have e0 : (0 : Int32).toInt = 0 := by decide
  have e2 : (2 : Int32).toInt = 2 := by decide
  have e8 : (8 : Int32).toInt = 8 := by decide
  have e14 : (14 : Int32).toInt = 14 := by decide
  have e15 : (15 : Int32).toInt = 15 := by decide
  have n15 : ¬ x.toInt = 15 := fun z => h15 (Int32.toInt_inj.mp (z.trans e15.symm))
  rw [Int32.lt_iff_toInt_lt, Int32.lt_iff_toInt_lt]
  by_cases c : x < 0
  · have := Int32.lt_iff_toInt_lt.mp c
    omega
  · rw [if_neg c] at h14
    by_cases c2 : 14 < x
    · have := Int32.lt_iff_toInt_lt.mp c2
      omega
    · rw [if_neg c2] at h14
      exact absurd h14 (by decide)
set_option maxRecDepth 10000 in
theorem c_size_o {I : Nat → Nat → Int32} {J : Nat → Nat → Int64} {F : Nat → Nat → Option Nat} {nc ns : Nat} {o : Nat} {D : oD} {s : Nat → Int32} (ho : isO o) (hF : RFok F) (hoF : F 0 2 = some o) (hC : oC I o D) (hW : WF D) (hm : mo I 42 s) (hS : WFs D s) {x : Int32} (h15 : ¬ x = 15) (h14 : inS x 0 14 = 0) : Ev 1 mX11_size 0 [.ref 0, .int x] [] ((SH, nc, ns), I, J, F) (some (.int (-1))) ((SH, nc, ns), I, J, F) := by
  have hD := hW.c
  have hH := hW.h
  have hT := hW.t
  have bt := hT.2
  obtain ⟨b0, b1, b2, b3, b4, b5, b6⟩ := hD.2
  have hz := sz_o2 h15 h14
  refine e_iload_n (p := 1) dX11_size_0 rfl rfl ?_
  refine e_iconst (v := 2) (p := 2) dX11_size_1 (by decide) rfl ?_
  refine e_icmp_lt (t := 23) (p := 5) dX11_size_2 (by decide) rfl rfl (fun hc2 => ?_) (fun hc2 => ?_)
  · skip
    refine e_iload_n (p := 24) dX11_size_23 rfl rfl ?_
    skip
    · skip
      refine e_swOut (p := 190) dX11_size_24 hz.1 (by decide) rfl ?_
      refine e_iconst (v := -1) (p := 191) dX11_size_190 (by decide) rfl ?_
      exact e_iretE dX11_size_191 rfl rfl (by decide) ⟨rfl, rfl⟩
  · skip
    refine e_iload_n (p := 6) dX11_size_5 rfl rfl ?_
    refine e_bipush (v := 8) (p := 8) dX11_size_6 (by decide) rfl ?_
    refine e_icmp_gt (t := 23) (p := 11) dX11_size_8 (by decide) rfl rfl (fun hc8 => ?_) (fun hc8 => ?_)
    · skip
      refine e_iload_n (p := 24) dX11_size_23 rfl rfl ?_
      skip
      · skip
        refine e_swOut (p := 190) dX11_size_24 hz.1 (by decide) rfl ?_
        refine e_iconst (v := -1) (p := 191) dX11_size_190 (by decide) rfl ?_
        exact e_iretE dX11_size_191 rfl rfl (by decide) ⟨rfl, rfl⟩
    · skip
      exact absurd hz.2 (fun z => z.elim hc2 hc8)
def ledC (b : Int32) : Nat → Nat → Int32 → Option Nat
  | _, 0, _ => none
  | j, m + 1, a => if (b >>> (nI j &&& 31)) &&& 1 = 0 then ledC b (j + 1) m a else if a = 0 then some j else ledC b (j + 1) m (a + -1)
def ledW : Option Nat → Int32
  | some k => nI k
  | none => -2
set_option maxRecDepth 10000 in
theorem x_broughtAt_L {I : Nat → Nat → Int32} {J : Nat → Nat → Int64} {F : Nat → Nat → Option Nat} {nc ns : Nat} {s : Nat → Int32} (hm : mo I 42 s) {i : Int32}  : ∀ (m j : Nat) (a : Int32), j + m = 6 → Ev 0 mX3_broughtAt 4 [.ref 42, .int i, .int a, .int (nI j)] [] ((SH, nc, ns), I, J, F) (some (.int (ledW (ledC (s 5) j m a)))) ((SH, nc, ns), I, J, F)
  | 0, j, a, hj => by
    refine e_iload_n (p := 5) dX3_broughtAt_4 rfl rfl ?_
    refine e_statR (p := 8) dX3_broughtAt_5 rfl rfl ?_
    refine e_iconst (v := 4) (p := 9) dX3_broughtAt_8 (by decide) rfl ?_
    refine f_room (v := 6) (p := 10) dX3_broughtAt_9 (by decide) (by decide) rfl ?_
    refine e_icmp_ge (t := 42) (p := 13) dX3_broughtAt_10 (by decide) rfl rfl (fun hc10 => ?_) (fun hc10 => absurd (nI_le (a := 6) (b := j) (by omega) (by omega)) hc10)
    refine e_bipush (v := -2) (p := 44) dX3_broughtAt_42 (by decide) rfl ?_
    exact e_iretE dX3_broughtAt_44 rfl rfl (by decide) ⟨rfl, rfl⟩
  | m + 1, j, a, hj => by
    refine e_iload_n (p := 5) dX3_broughtAt_4 rfl rfl ?_
    refine e_statR (p := 8) dX3_broughtAt_5 rfl rfl ?_
    refine e_iconst (v := 4) (p := 9) dX3_broughtAt_8 (by decide) rfl ?_
    refine f_room (v := 6) (p := 10) dX3_broughtAt_9 (by decide) (by decide) rfl ?_
    refine e_icmp_ge (t := 42) (p := 13) dX3_broughtAt_10 (by decide) rfl rfl (fun hc10 => absurd hc10 (nI_ge (a := j) (b := 6) (by omega) (by omega))) (fun hc10 => ?_)
    refine e_aload_n (p := 14) dX3_broughtAt_13 rfl rfl ?_
    refine f_getI (c := 3) (j := 3) (n := 6) (v := s 5) (p := 17) dX3_broughtAt_14 rfl rfl (by decide) (by decide) (Or.inl rfl) hm.2.2.2.1 rfl ?_
    refine e_iload_n (p := 18) dX3_broughtAt_17 rfl rfl ?_
    refine e_ishr (p := 19) dX3_broughtAt_18 rfl ?_
    refine e_iconst (v := 1) (p := 20) dX3_broughtAt_19 (by decide) rfl ?_
    refine e_iand (p := 21) dX3_broughtAt_20 rfl ?_
    refine e_if_ne (t := 27) (p := 24) dX3_broughtAt_21 (by decide) rfl rfl (fun hc21 => ?_) (fun hc21 => ?_)
    · skip
      refine e_iload_n (p := 28) dX3_broughtAt_27 rfl rfl ?_
      refine e_if_ne (t := 33) (p := 31) dX3_broughtAt_28 (by decide) rfl rfl (fun hc28 => ?_) (fun hc28 => ?_)
      · skip
        refine e_iinc (ls1 := [.ref 42, .int i, .int (a + (-1)), .int (nI j)]) (p := 36) dX3_broughtAt_33 rfl rfl rfl ?_
        refine e_iinc (ls1 := [.ref 42, .int i, .int (a + (-1)), .int ((nI j) + 1)]) (p := 39) dX3_broughtAt_36 rfl rfl rfl ?_
        refine e_goto (p := 4) dX3_broughtAt_39 (by decide) rfl ?_
        rw [nI_1]
        exact Ev.res (by simp only [ledC, hc21, hc28, ↓reduceIte]) (x_broughtAt_L hm m (j + 1) (a + (-1)) (by omega))
      · skip
        refine e_iload_n (p := 32) dX3_broughtAt_31 rfl rfl ?_
        exact e_iretE dX3_broughtAt_32 rfl rfl (by decide) ⟨by simp only [ledC, ledW, hc21, hc28, ↓reduceIte], rfl⟩
    · skip
      refine e_goto (p := 36) dX3_broughtAt_24 (by decide) rfl ?_
      refine e_iinc (ls1 := [.ref 42, .int i, .int a, .int ((nI j) + 1)]) (p := 39) dX3_broughtAt_36 rfl rfl rfl ?_
      refine e_goto (p := 4) dX3_broughtAt_39 (by decide) rfl ?_
      rw [nI_1]
      exact Ev.res (by simp only [ledC, hc21, ↓reduceIte]) (x_broughtAt_L hm m (j + 1) a (by omega))
set_option maxRecDepth 10000 in
theorem x_broughtAt {I : Nat → Nat → Int32} {J : Nat → Nat → Int64} {F : Nat → Nat → Option Nat} {nc ns : Nat} {s : Nat → Int32} (hm : mo I 42 s) {i : Int32}  : Ev 0 mX3_broughtAt 0 [.ref 42, .int i, .null, .null] [] ((SH, nc, ns), I, J, F) (some (.int (ledW (ledC (s 5) 0 6 i)))) ((SH, nc, ns), I, J, F) := by
  refine e_iload_n (p := 1) dX3_broughtAt_0 rfl rfl ?_
  refine e_istore_n (ls1 := [.ref 42, .int i, .int i, .null]) (p := 2) dX3_broughtAt_1 rfl rfl ?_
  refine e_iconst (v := 0) (p := 3) dX3_broughtAt_2 (by decide) rfl ?_
  refine e_istore_n (ls1 := [.ref 42, .int i, .int i, .int 0]) (p := 4) dX3_broughtAt_3 rfl rfl ?_
  exact x_broughtAt_L hm _ 0 _ (by omega)
set_option maxRecDepth 10000 in
theorem c_led_ok {I : Nat → Nat → Int32} {J : Nat → Nat → Int64} {F : Nat → Nat → Option Nat} {nc ns : Nat} {s : Nat → Int32} (hm : mo I 42 s) {i : Int32} (hF : RFok F) (hi : 0 ≤ i) (hn : ¬ ledW (ledC (s 5) 0 6 i) = -2) : Ev 1 mX11_led 0 [.ref 0, .int i, .null] [] ((SH, nc, ns), I, J, F) (some (.int (ledW (ledC (s 5) 0 6 i)))) ((SH, nc, ns), I, J, F) := by
  refine e_iload_n (p := 1) dX11_led_0 rfl rfl ?_
  refine e_if_ge (t := 9) (p := 4) dX11_led_1 (by decide) rfl rfl (fun hc1 => ?_) (fun hc1 => absurd hi hc1)
  refine e_aload_n (p := 10) dX11_led_9 rfl rfl ?_
  refine e_getR (c := 10) (j := 3) (n := 13) (b := 42) (p := 13) dX11_led_10 rfl rfl (by decide) (by decide) rfl (r_0_3 hF) rfl ?_
  refine e_iload_n (p := 14) dX11_led_13 rfl rfl ?_
  refine e_callV_int (p := 17) (k' := 0) (a := [.ref 42, .int i]) (rr := []) dX11_led_14 rfl rfl rfl rfl (rc_of rfl rfl (by decide) ⟨rfl, by decide⟩) (Nat.le_of_ble_eq_true rfl) (Nat.le_of_ble_eq_true rfl) (by decide) (x_broughtAt hm) (Or.inl rfl) rfl ?_
  refine e_istore_n (ls1 := [.ref 0, .int i, .int (ledW (ledC (s 5) 0 6 i))]) (p := 18) dX11_led_17 rfl rfl ?_
  refine e_iload_n (p := 19) dX11_led_18 rfl rfl ?_
  refine e_bipush (v := -2) (p := 21) dX11_led_19 (by decide) rfl ?_
  refine e_icmp_ne (t := 35) (p := 24) dX11_led_21 (by decide) rfl rfl (fun hc21 => ?_) (fun hc21 => absurd hc21 hn)
  refine e_iload_n (p := 36) dX11_led_35 rfl rfl ?_
  exact e_iretE dX11_led_36 rfl rfl (by decide) ⟨rfl, rfl⟩
set_option maxRecDepth 10000 in
theorem c_led_no {I : Nat → Nat → Int32} {J : Nat → Nat → Int64} {F : Nat → Nat → Option Nat} {nc ns : Nat} {s : Nat → Int32} (hm : mo I 42 s) {i : Int32} (hF : RFok F) (hi : 0 ≤ i) (hn : ledW (ledC (s 5) 0 6 i) = -2) : Ev 1 mX11_led 0 [.ref 0, .int i, .null] [] ((SH, nc, ns), I, J, F) (some .null) ((SH, nc, ns), I, J, F) := by
  refine e_iload_n (p := 1) dX11_led_0 rfl rfl ?_
  refine e_if_ge (t := 9) (p := 4) dX11_led_1 (by decide) rfl rfl (fun hc1 => ?_) (fun hc1 => absurd hi hc1)
  refine e_aload_n (p := 10) dX11_led_9 rfl rfl ?_
  refine e_getR (c := 10) (j := 3) (n := 13) (b := 42) (p := 13) dX11_led_10 rfl rfl (by decide) (by decide) rfl (r_0_3 hF) rfl ?_
  refine e_iload_n (p := 14) dX11_led_13 rfl rfl ?_
  refine e_callV_int (p := 17) (k' := 0) (a := [.ref 42, .int i]) (rr := []) dX11_led_14 rfl rfl rfl rfl (rc_of rfl rfl (by decide) ⟨rfl, by decide⟩) (Nat.le_of_ble_eq_true rfl) (Nat.le_of_ble_eq_true rfl) (by decide) (x_broughtAt hm) (Or.inl rfl) rfl ?_
  refine e_istore_n (ls1 := [.ref 0, .int i, .int (ledW (ledC (s 5) 0 6 i))]) (p := 18) dX11_led_17 rfl rfl ?_
  refine e_iload_n (p := 19) dX11_led_18 rfl rfl ?_
  refine e_bipush (v := -2) (p := 21) dX11_led_19 (by decide) rfl ?_
  refine e_icmp_ne (t := 35) (p := 24) dX11_led_21 (by decide) rfl rfl (fun hc21 => absurd hn hc21) (fun hc21 => ?_)
  exact e_throw dX11_led_24 rfl
set_option maxRecDepth 10000 in
theorem c_led_neg {I : Nat → Nat → Int32} {J : Nat → Nat → Int64} {F : Nat → Nat → Option Nat} {nc ns : Nat} {s : Nat → Int32} (hm : mo I 42 s) {i : Int32} (hF : RFok F) (hi : ¬ 0 ≤ i) : Ev 1 mX11_led 0 [.ref 0, .int i, .null] [] ((SH, nc, ns), I, J, F) (some .null) ((SH, nc, ns), I, J, F) := by
  refine e_iload_n (p := 1) dX11_led_0 rfl rfl ?_
  refine e_if_ge (t := 9) (p := 4) dX11_led_1 (by decide) rfl rfl (fun hc1 => absurd hc1 hi) (fun hc1 => ?_)
  refine e_bipush (v := -2) (p := 6) dX11_led_4 (by decide) rfl ?_
  refine e_goto (p := 17) dX11_led_6 (by decide) rfl ?_
  refine e_istore_n (ls1 := [.ref 0, .int i, .int (-2)]) (p := 18) dX11_led_17 rfl rfl ?_
  refine e_iload_n (p := 19) dX11_led_18 rfl rfl ?_
  refine e_bipush (v := -2) (p := 21) dX11_led_19 (by decide) rfl ?_
  refine e_icmp_ne (t := 35) (p := 24) dX11_led_21 (by decide) rfl rfl (fun hc21 => absurd (by decide) hc21) (fun hc21 => ?_)
  exact e_throw dX11_led_24 rfl
