/-! Bits. -/
def tb (x : Int32) (j : Nat) : Bool := x.toBitVec.getLsbD j
theorem smod_j : ∀ j, j < 32 → ((nI j &&& 31).toBitVec.smod 32#32) = BitVec.ofNat 32 j := by decide +kernel
theorem and1 (x : Int32) : x &&& 1 = if tb x 0 then 1 else 0 := by
  apply Int32.toBitVec_inj.mp
  rw [Int32.toBitVec_and]
  show x.toBitVec &&& 1#32 = _
  rw [BitVec.and_one_eq_setWidth_ofBool_getLsbD]
  unfold tb
  cases x.toBitVec.getLsbD 0 <;> rfl
theorem tb_shr {x : Int32} {j i : Nat} (hj : j < 32) (hi : j + i < 32) : tb (x >>> (nI j &&& 31)) i = tb x (j + i) := by
  unfold tb
  rw [Int32.toBitVec_shiftRight]
  show (x.toBitVec.sshiftRight' ((nI j &&& 31).toBitVec.smod 32#32)).getLsbD i = _
  rw [smod_j j hj, BitVec.sshiftRight']
  rw [BitVec.getLsbD_sshiftRight, BitVec.toNat_ofNat, Nat.mod_eq_of_lt (by omega), if_pos hi]
  have : ¬ 32 ≤ i := by omega
  simp [this]
theorem tb_at {x : Int32} {j : Nat} (hj : j < 32) : (x >>> (nI j &&& 31)) &&& 1 = if tb x j then 1 else 0 := by
  rw [and1, tb_shr hj (by omega)]
  rfl
theorem tb_0 {x : Int32} {j : Nat} (hj : j < 32) : (x >>> (nI j &&& 31)) &&& 1 = 0 ↔ tb x j = false := by
  rw [tb_at hj]
  cases tb x j <;> decide
theorem tb_1 {x : Int32} {j : Nat} (hj : j < 32) : (x >>> (nI j &&& 31)) &&& 1 = 1 ↔ tb x j = true := by
  rw [tb_at hj]
  cases tb x j <;> decide
theorem hb_tb {x : Int32} {j : Nat} (hj : j < 32) : hbS x (nI j) = if tb x j then 1 else 0 := by
  unfold hbS
  rw [tb_at hj]
  cases tb x j <;> decide
theorem tb_or {x y : Int32} {j : Nat} : tb (x ||| y) j = (tb x j || tb y j) := by
  unfold tb
  rw [Int32.toBitVec_or, BitVec.getLsbD_or]
theorem tb_and {x y : Int32} {j : Nat} : tb (x &&& y) j = (tb x j && tb y j) := by
  unfold tb
  rw [Int32.toBitVec_and, BitVec.getLsbD_and]
theorem tb_xor {x y : Int32} {j : Nat} : tb (x ^^^ y) j = (tb x j ^^ tb y j) := by
  unfold tb
  rw [Int32.toBitVec_xor, BitVec.getLsbD_xor]
theorem tb_m1 : ∀ j, j < 32 → tb (-1) j = true := by decide +kernel
theorem tb_not {x : Int32} {j : Nat} (hj : j < 32) : tb (x ^^^ -1) j = !tb x j := by
  rw [tb_xor, tb_m1 j hj]
  cases tb x j <;> rfl
theorem tb_bit' : ∀ i, i < 32 → ∀ j, j < 32 → tb (bit i) j = decide (i = j) := by decide +kernel
theorem tb_bit {i j : Nat} (hi : i < 32) (hj : j < 32) : tb (bit i) j = decide (i = j) := tb_bit' i hi j hj
theorem tb_z {j : Nat} : tb 0 j = false := by
  unfold tb
  exact BitVec.getLsbD_zero
theorem tb_ext {x y : Int32} (h : ∀ j, j < 32 → tb x j = tb y j) : x = y := by
  apply Int32.toBitVec_inj.mp
  exact BitVec.eq_of_getLsbD_eq h
theorem tb_nI {n j : Nat} (hj : j < 32) : tb (nI n) j = n.testBit j := by
  unfold tb nI
  show (BitVec.ofNat 32 n).getLsbD j = _
  rw [BitVec.getLsbD_ofNat]
  simp [hj]
theorem bit_nI : ∀ j, j < 31 → bit j = nI (2 ^ j) := by decide +kernel
theorem nI_all {n : Nat} (h : n < 7) : (1 : Int32) <<< (nI n &&& 31) - 1 = nI (2 ^ n - 1) := by
  have : ∀ n, n < 7 → (1 : Int32) <<< (nI n &&& 31) - 1 = nI (2 ^ n - 1) := by decide +kernel
  exact this n h
/-- a number below 2^n has no bit from n on -/
theorem tb_lt {n b j : Nat} (h : b < 2 ^ n) (hj : n ≤ j) (h32 : j < 32) : tb (nI b) j = false := by
  rw [tb_nI h32]
  exact Nat.testBit_lt_two_pow (Nat.lt_of_lt_of_le h (Nat.pow_le_pow_right (by omega) hj))
theorem lt_of_tb {x : Int32} {n : Nat} (hn : n < 31) (h : ∀ j, n ≤ j → j < 32 → tb x j = false) : ∃ b, b < 2 ^ n ∧ x = nI b := by
  refine ⟨x.toBitVec.toNat, ?_, ?_⟩
  · apply Nat.lt_pow_two_of_testBit
    intro i hi
    by_cases c : i < 32
    · exact h i hi c
    · exact Nat.testBit_lt_two_pow (Nat.lt_of_lt_of_le x.toBitVec.isLt (Nat.pow_le_pow_right (by omega) (by omega)))
  · apply Int32.toBitVec_inj.mp
    unfold nI
    show x.toBitVec = BitVec.ofNat 32 _
    simp
/-- folds that set bits -/
theorem tb_gN {f : Nat → Int32 → Int32} {p : Nat → Bool} {i : Nat} (hf : ∀ k x, tb (f k x) i = (tb x i || p k)) : ∀ m j x, tb (gN f j m x) i = (tb x i || (List.range' j m).any p)
  | 0, j, x => by simp [gN]
  | m + 1, j, x => by
    rw [gN, tb_gN hf m (j + 1), hf, List.range'_succ, List.any_cons, Bool.or_assoc]
