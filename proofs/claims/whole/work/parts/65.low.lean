/-! Lowest terms: Euclid, by a hundred steps at most. -/
def gfin : Nat → Nat → Nat → Prop
  | 0, _, y => y = 0
  | m + 1, x, y => y = 0 ∨ gfin m y (x % y)
def fib : Nat → Nat
  | 0 => 0
  | 1 => 1
  | n + 2 => fib n + fib (n + 1)
theorem gfin_fib : ∀ m, (∀ x y, ¬ gfin m x y → fib (m + 1) ≤ y) ∧ (∀ x y, ¬ gfin (m + 1) x y → fib (m + 2) ≤ y)
  | 0 => by
    refine ⟨fun x y h => ?_, fun x y h => ?_⟩
    · unfold gfin at h
      show 1 ≤ y
      omega
    · unfold gfin at h
      have : ¬ y = 0 := fun z => h (Or.inl z)
      show 0 + 1 ≤ y
      omega
  | m + 1 => by
    obtain ⟨h1, h2⟩ := gfin_fib m
    refine ⟨h2, fun x y h => ?_⟩
    have hy : ¬ y = 0 := fun z => h (Or.inl z)
    have hr : ¬ gfin (m + 1) y (x % y) := fun z => h (Or.inr z)
    have hr0 : ¬ x % y = 0 := fun z => hr (Or.inl z)
    have hs : ¬ gfin m (x % y) (y % (x % y)) := fun z => hr (Or.inr z)
    have a1 := h2 _ _ hr
    have a2 := h1 _ _ hs
    have a3 : x % y < y := Nat.mod_lt _ (by omega)
    have a4 : x % y + y % (x % y) ≤ y := by
      have e := Nat.div_add_mod y (x % y)
      have q : 1 ≤ y / (x % y) := (Nat.one_le_div_iff (by omega)).mpr (by omega)
      have : (x % y) * 1 ≤ (x % y) * (y / (x % y)) := Nat.mul_le_mul_left _ q
      omega
    show fib (m + 1) + fib (m + 2) ≤ y
    omega
def fibi : Nat → Nat → Nat → Nat
  | 0, a, _ => a
  | n + 1, a, b => fibi n b (a + b)
theorem fibi_eq : ∀ n k, fibi n (fib k) (fib (k + 1)) = fib (n + k)
  | 0, k => by rw [fibi, Nat.zero_add]
  | n + 1, k => by
    rw [fibi, show fib k + fib (k + 1) = fib (k + 2) from rfl, fibi_eq n (k + 1), show n + (k + 1) = n + 1 + k by omega]
theorem fib_100 : 2 ^ 63 ≤ fib 101 := by
  rw [← fibi_eq 101 0]
  decide +kernel
theorem gfin_100 {x y : Nat} (h : y < 2 ^ 63) : gfin 100 x y := by
  by_cases c : gfin 100 x y
  · exact c
  · have : fib 101 ≤ y := (gfin_fib 100).1 x y c
    have := fib_100
    omega
def lowV (u d : Nat) (b : Int32) (g : Nat) : Int64 := lN ((if b = 0 then u else d) / g)
theorem lN_ne {x : Nat} (h : 0 < x) (hx : x < 2 ^ 63) : ¬ lN x = 0 := fun z => by
  have := (pk_lEQ hx (by omega : 0 < 2 ^ 63)).mp z
  omega
theorem cmp0 {x : Nat} (hx : x < 2 ^ 63) : lg_cmp (lN x) 0 = 0 ↔ x = 0 := by
  rw [lg_cmp_eq]
  exact pk_lEQ hx (by omega : 0 < 2 ^ 63)
/-- what both sides tell in lowest terms -/
def lowS (u d : Nat) (b : Int32) : Int64 := lowV u d b (Nat.gcd d u)
set_option maxRecDepth 10000 in
theorem x_low_L {I : Nat → Nat → Int32} {J : Nat → Nat → Int64} {F : Nat → Nat → Option Nat} {nc ns : Nat} {u d : Nat} {b : Int32} (hu : u < 2 ^ 63) (hd : d < 2 ^ 63)  : ∀ (m j x y : Nat) (z : Value), (j + m = 100 ∧ gfin m x y ∧ 0 < x ∧ x < 2 ^ 63 ∧ y < 2 ^ 63) → Ev 0 mX11_inLowestTerms 9 [.long (lN u), .null, .long (lN d), .null, .int b, .long (lN x), .null, .long (lN y), .null, .int (nI j), z, .null] [] ((SH, nc, ns), I, J, F) (some (.long (lowV u d b (Nat.gcd x y)))) ((SH, nc, ns), I, J, F)
  | 0, j, x, y, z, hj => by
    obtain ⟨h1, h2, h3, h4, h5⟩ := hj
    have hy : y = 0 := h2
    refine e_iload (p := 11) dX11_inLowestTerms_9 rfl rfl ?_
    refine e_bipush (v := 100) (p := 13) dX11_inLowestTerms_11 (by decide) rfl ?_
    refine e_icmp_ge (t := 44) (p := 16) dX11_inLowestTerms_13 (by decide) rfl rfl (fun hc13 => ?_) (fun hc13 => absurd (nI_le (a := 100) (b := j) (by omega) (by omega)) hc13)
    refine e_iload (p := 46) dX11_inLowestTerms_44 rfl rfl ?_
    refine e_if_eq (t := 53) (p := 49) dX11_inLowestTerms_46 (by decide) rfl rfl (fun hc46 => ?_) (fun hc46 => ?_)
    · skip
      refine e_lload_n (p := 54) dX11_inLowestTerms_53 rfl rfl ?_
      refine e_lstore (ls1 := [.long (lN u), .null, .long (lN d), .null, .int b, .long (lN x), .null, .long (lN y), .null, .long (lN u), .null, .null]) (p := 56) dX11_inLowestTerms_54 rfl rfl ?_
      refine e_lload (p := 58) dX11_inLowestTerms_56 rfl rfl ?_
      refine e_lconst (v := 0) (p := 59) dX11_inLowestTerms_58 (by decide) rfl ?_
      refine e_lcmp (p := 60) dX11_inLowestTerms_59 rfl ?_
      refine e_if_ne (t := 68) (p := 63) dX11_inLowestTerms_60 (by decide) rfl rfl (fun hc60 => ?_) (fun hc60 => absurd hc60 (fun z => absurd ((cmp0 h4).mp z) (by omega)))
      refine e_lload (p := 70) dX11_inLowestTerms_68 rfl rfl ?_
      refine e_lload (p := 72) dX11_inLowestTerms_70 rfl rfl ?_
      refine e_ldiv (p := 73) dX11_inLowestTerms_72 (lN_ne (by omega) (by omega)) rfl ?_
      exact e_lretE dX11_inLowestTerms_73 rfl ⟨by rw [pk_lDiv (by omega) (by omega) (by omega)]; simp only [lowV, hc46, ↓reduceIte]; subst_vars; simp only [Nat.gcd_zero_right], rfl⟩
    · skip
      refine e_lload_n (p := 50) dX11_inLowestTerms_49 rfl rfl ?_
      refine e_goto (p := 54) dX11_inLowestTerms_50 (by decide) rfl ?_
      refine e_lstore (ls1 := [.long (lN u), .null, .long (lN d), .null, .int b, .long (lN x), .null, .long (lN y), .null, .long (lN d), .null, .null]) (p := 56) dX11_inLowestTerms_54 rfl rfl ?_
      refine e_lload (p := 58) dX11_inLowestTerms_56 rfl rfl ?_
      refine e_lconst (v := 0) (p := 59) dX11_inLowestTerms_58 (by decide) rfl ?_
      refine e_lcmp (p := 60) dX11_inLowestTerms_59 rfl ?_
      refine e_if_ne (t := 68) (p := 63) dX11_inLowestTerms_60 (by decide) rfl rfl (fun hc60 => ?_) (fun hc60 => absurd hc60 (fun z => absurd ((cmp0 h4).mp z) (by omega)))
      refine e_lload (p := 70) dX11_inLowestTerms_68 rfl rfl ?_
      refine e_lload (p := 72) dX11_inLowestTerms_70 rfl rfl ?_
      refine e_ldiv (p := 73) dX11_inLowestTerms_72 (lN_ne (by omega) (by omega)) rfl ?_
      exact e_lretE dX11_inLowestTerms_73 rfl ⟨by rw [pk_lDiv (by omega) (by omega) (by omega)]; simp only [lowV, hc46, ↓reduceIte]; subst_vars; simp only [Nat.gcd_zero_right], rfl⟩
  | m + 1, j, x, y, z, hj => by
    obtain ⟨h1, h2, h3, h4, h5⟩ := hj
    by_cases hy : y = 0
    · skip
      refine e_iload (p := 11) dX11_inLowestTerms_9 rfl rfl ?_
      refine e_bipush (v := 100) (p := 13) dX11_inLowestTerms_11 (by decide) rfl ?_
      refine e_icmp_ge (t := 44) (p := 16) dX11_inLowestTerms_13 (by decide) rfl rfl (fun hc13 => absurd hc13 (nI_ge (a := j) (b := 100) (by omega) (by omega))) (fun hc13 => ?_)
      refine e_lload (p := 18) dX11_inLowestTerms_16 rfl rfl ?_
      refine e_lconst (v := 0) (p := 19) dX11_inLowestTerms_18 (by decide) rfl ?_
      refine e_lcmp (p := 20) dX11_inLowestTerms_19 rfl ?_
      refine e_if_eq (t := 44) (p := 23) dX11_inLowestTerms_20 (by decide) rfl rfl (fun hc20 => ?_) (fun hc20 => absurd ((cmp0 h5).mpr hy) hc20)
      refine e_iload (p := 46) dX11_inLowestTerms_44 rfl rfl ?_
      refine e_if_eq (t := 53) (p := 49) dX11_inLowestTerms_46 (by decide) rfl rfl (fun hc46 => ?_) (fun hc46 => ?_)
      · skip
        refine e_lload_n (p := 54) dX11_inLowestTerms_53 rfl rfl ?_
        refine e_lstore (ls1 := [.long (lN u), .null, .long (lN d), .null, .int b, .long (lN x), .null, .long (lN y), .null, .long (lN u), .null, .null]) (p := 56) dX11_inLowestTerms_54 rfl rfl ?_
        refine e_lload (p := 58) dX11_inLowestTerms_56 rfl rfl ?_
        refine e_lconst (v := 0) (p := 59) dX11_inLowestTerms_58 (by decide) rfl ?_
        refine e_lcmp (p := 60) dX11_inLowestTerms_59 rfl ?_
        refine e_if_ne (t := 68) (p := 63) dX11_inLowestTerms_60 (by decide) rfl rfl (fun hc60 => ?_) (fun hc60 => absurd hc60 (fun z => absurd ((cmp0 h4).mp z) (by omega)))
        refine e_lload (p := 70) dX11_inLowestTerms_68 rfl rfl ?_
        refine e_lload (p := 72) dX11_inLowestTerms_70 rfl rfl ?_
        refine e_ldiv (p := 73) dX11_inLowestTerms_72 (lN_ne (by omega) (by omega)) rfl ?_
        exact e_lretE dX11_inLowestTerms_73 rfl ⟨by rw [pk_lDiv (by omega) (by omega) (by omega)]; simp only [lowV, hc46, ↓reduceIte]; subst_vars; simp only [Nat.gcd_zero_right], rfl⟩
      · skip
        refine e_lload_n (p := 50) dX11_inLowestTerms_49 rfl rfl ?_
        refine e_goto (p := 54) dX11_inLowestTerms_50 (by decide) rfl ?_
        refine e_lstore (ls1 := [.long (lN u), .null, .long (lN d), .null, .int b, .long (lN x), .null, .long (lN y), .null, .long (lN d), .null, .null]) (p := 56) dX11_inLowestTerms_54 rfl rfl ?_
        refine e_lload (p := 58) dX11_inLowestTerms_56 rfl rfl ?_
        refine e_lconst (v := 0) (p := 59) dX11_inLowestTerms_58 (by decide) rfl ?_
        refine e_lcmp (p := 60) dX11_inLowestTerms_59 rfl ?_
        refine e_if_ne (t := 68) (p := 63) dX11_inLowestTerms_60 (by decide) rfl rfl (fun hc60 => ?_) (fun hc60 => absurd hc60 (fun z => absurd ((cmp0 h4).mp z) (by omega)))
        refine e_lload (p := 70) dX11_inLowestTerms_68 rfl rfl ?_
        refine e_lload (p := 72) dX11_inLowestTerms_70 rfl rfl ?_
        refine e_ldiv (p := 73) dX11_inLowestTerms_72 (lN_ne (by omega) (by omega)) rfl ?_
        exact e_lretE dX11_inLowestTerms_73 rfl ⟨by rw [pk_lDiv (by omega) (by omega) (by omega)]; simp only [lowV, hc46, ↓reduceIte]; subst_vars; simp only [Nat.gcd_zero_right], rfl⟩
    · skip
      refine e_iload (p := 11) dX11_inLowestTerms_9 rfl rfl ?_
      refine e_bipush (v := 100) (p := 13) dX11_inLowestTerms_11 (by decide) rfl ?_
      refine e_icmp_ge (t := 44) (p := 16) dX11_inLowestTerms_13 (by decide) rfl rfl (fun hc13 => absurd hc13 (nI_ge (a := j) (b := 100) (by omega) (by omega))) (fun hc13 => ?_)
      refine e_lload (p := 18) dX11_inLowestTerms_16 rfl rfl ?_
      refine e_lconst (v := 0) (p := 19) dX11_inLowestTerms_18 (by decide) rfl ?_
      refine e_lcmp (p := 20) dX11_inLowestTerms_19 rfl ?_
      refine e_if_eq (t := 44) (p := 23) dX11_inLowestTerms_20 (by decide) rfl rfl (fun hc20 => absurd hc20 (fun z => hy ((cmp0 h5).mp z))) (fun hc20 => ?_)
      refine e_lload (p := 25) dX11_inLowestTerms_23 rfl rfl ?_
      refine e_lload (p := 27) dX11_inLowestTerms_25 rfl rfl ?_
      refine e_lrem (p := 28) dX11_inLowestTerms_27 (lN_ne (by omega) (by omega)) rfl ?_
      refine e_lstore (ls1 := [.long (lN u), .null, .long (lN d), .null, .int b, .long (lN x), .null, .long (lN y), .null, .int (nI j), .long ((lN x) - (lN x) / (lN y) * (lN y)), .null]) (p := 30) dX11_inLowestTerms_28 rfl rfl ?_
      refine e_lload (p := 32) dX11_inLowestTerms_30 rfl rfl ?_
      refine e_lstore (ls1 := [.long (lN u), .null, .long (lN d), .null, .int b, .long (lN y), .null, .long (lN y), .null, .int (nI j), .long ((lN x) - (lN x) / (lN y) * (lN y)), .null]) (p := 34) dX11_inLowestTerms_32 rfl rfl ?_
      refine e_lload (p := 36) dX11_inLowestTerms_34 rfl rfl ?_
      refine e_lstore (ls1 := [.long (lN u), .null, .long (lN d), .null, .int b, .long (lN y), .null, .long ((lN x) - (lN x) / (lN y) * (lN y)), .null, .int (nI j), .long ((lN x) - (lN x) / (lN y) * (lN y)), .null]) (p := 38) dX11_inLowestTerms_36 rfl rfl ?_
      refine e_iinc (ls1 := [.long (lN u), .null, .long (lN d), .null, .int b, .long (lN y), .null, .long ((lN x) - (lN x) / (lN y) * (lN y)), .null, .int ((nI j) + 1), .long ((lN x) - (lN x) / (lN y) * (lN y)), .null]) (p := 41) dX11_inLowestTerms_38 rfl rfl rfl ?_
      refine e_goto (p := 9) dX11_inLowestTerms_41 (by decide) rfl ?_
      rw [nI_1, pk_lRem h4 (by omega) h5]
      exact Ev.l (by rw [Nat.gcd_comm x y, Nat.gcd_rec y x, Nat.gcd_comm]) (x_low_L hu hd m (j + 1) y (x % y) _ ⟨by omega, h2.resolve_left hy, by omega, h5, Nat.lt_of_le_of_lt (Nat.mod_le _ _) h4⟩)
set_option maxRecDepth 10000 in
theorem x_low {I : Nat → Nat → Int32} {J : Nat → Nat → Int64} {F : Nat → Nat → Option Nat} {nc ns : Nat} {u d : Nat} {b : Int32} (hu : u < 2 ^ 63) (hd : d < 2 ^ 63) (h0 : 0 < d) : Ev 0 mX11_inLowestTerms 0 [.long (lN u), .null, .long (lN d), .null, .int b, .null, .null, .null, .null, .null, .null, .null] [] ((SH, nc, ns), I, J, F) (some (.long (lowS u d b))) ((SH, nc, ns), I, J, F) := by
  refine e_lload_n (p := 1) dX11_inLowestTerms_0 rfl rfl ?_
  refine e_lstore (ls1 := [.long (lN u), .null, .long (lN d), .null, .int b, .long (lN d), .null, .null, .null, .null, .null, .null]) (p := 3) dX11_inLowestTerms_1 rfl rfl ?_
  refine e_lload_n (p := 4) dX11_inLowestTerms_3 rfl rfl ?_
  refine e_lstore (ls1 := [.long (lN u), .null, .long (lN d), .null, .int b, .long (lN d), .null, .long (lN u), .null, .null, .null, .null]) (p := 6) dX11_inLowestTerms_4 rfl rfl ?_
  refine e_iconst (v := 0) (p := 7) dX11_inLowestTerms_6 (by decide) rfl ?_
  refine e_istore (ls1 := [.long (lN u), .null, .long (lN d), .null, .int b, .long (lN d), .null, .long (lN u), .null, .int 0, .null, .null]) (p := 9) dX11_inLowestTerms_7 rfl rfl ?_
  exact x_low_L hu hd 100 0 d u _ ⟨rfl, gfin_100 hu, h0, hd, hu⟩
set_option maxRecDepth 10000 in
theorem y_low_L {I : Nat → Nat → Int32} {J : Nat → Nat → Int64} {F : Nat → Nat → Option Nat} {nc ns : Nat} {u d : Nat} {b : Int32} (hu : u < 2 ^ 63) (hd : d < 2 ^ 63)  : ∀ (m x y : Nat) (z : Value), y ≤ m → 0 < x → x < 2 ^ 63 → y < 2 ^ 63 → Ev 0 mX12_lowest 6 [.long (lN u), .null, .long (lN d), .null, .int b, .long (lN x), .null, .long (lN y), .null, z, .null] [] ((SH, nc, ns), I, J, F) (some (.long (lowV u d b (Nat.gcd x y)))) ((SH, nc, ns), I, J, F)
  | 0, x, y, z, hm, h3, h4, h5 => by
    have hy : y = 0 := by omega
    refine e_lload (p := 8) dX12_lowest_6 rfl rfl ?_
    refine e_lconst (v := 0) (p := 9) dX12_lowest_8 (by decide) rfl ?_
    refine e_lcmp (p := 10) dX12_lowest_9 rfl ?_
    refine e_if_eq (t := 31) (p := 13) dX12_lowest_10 (by decide) rfl rfl (fun hc10 => ?_) (fun hc10 => absurd ((cmp0 h5).mpr hy) hc10)
    refine e_iload (p := 33) dX12_lowest_31 rfl rfl ?_
    refine e_if_eq (t := 40) (p := 36) dX12_lowest_33 (by decide) rfl rfl (fun hc33 => ?_) (fun hc33 => ?_)
    · skip
      refine e_lload_n (p := 41) dX12_lowest_40 rfl rfl ?_
      refine e_lload (p := 43) dX12_lowest_41 rfl rfl ?_
      refine e_ldiv (p := 44) dX12_lowest_43 (lN_ne (by omega) (by omega)) rfl ?_
      exact e_lretE dX12_lowest_44 rfl ⟨by rw [pk_lDiv (by omega) (by omega) (by omega)]; simp only [lowV, hc33, ↓reduceIte]; subst_vars; simp only [Nat.gcd_zero_right], rfl⟩
    · skip
      refine e_lload_n (p := 37) dX12_lowest_36 rfl rfl ?_
      refine e_goto (p := 41) dX12_lowest_37 (by decide) rfl ?_
      refine e_lload (p := 43) dX12_lowest_41 rfl rfl ?_
      refine e_ldiv (p := 44) dX12_lowest_43 (lN_ne (by omega) (by omega)) rfl ?_
      exact e_lretE dX12_lowest_44 rfl ⟨by rw [pk_lDiv (by omega) (by omega) (by omega)]; simp only [lowV, hc33, ↓reduceIte]; subst_vars; simp only [Nat.gcd_zero_right], rfl⟩
  | m + 1, x, y, z, hm, h3, h4, h5 => by
    by_cases hy : y = 0
    · skip
      refine e_lload (p := 8) dX12_lowest_6 rfl rfl ?_
      refine e_lconst (v := 0) (p := 9) dX12_lowest_8 (by decide) rfl ?_
      refine e_lcmp (p := 10) dX12_lowest_9 rfl ?_
      refine e_if_eq (t := 31) (p := 13) dX12_lowest_10 (by decide) rfl rfl (fun hc10 => ?_) (fun hc10 => absurd ((cmp0 h5).mpr hy) hc10)
      refine e_iload (p := 33) dX12_lowest_31 rfl rfl ?_
      refine e_if_eq (t := 40) (p := 36) dX12_lowest_33 (by decide) rfl rfl (fun hc33 => ?_) (fun hc33 => ?_)
      · skip
        refine e_lload_n (p := 41) dX12_lowest_40 rfl rfl ?_
        refine e_lload (p := 43) dX12_lowest_41 rfl rfl ?_
        refine e_ldiv (p := 44) dX12_lowest_43 (lN_ne (by omega) (by omega)) rfl ?_
        exact e_lretE dX12_lowest_44 rfl ⟨by rw [pk_lDiv (by omega) (by omega) (by omega)]; simp only [lowV, hc33, ↓reduceIte]; subst_vars; simp only [Nat.gcd_zero_right], rfl⟩
      · skip
        refine e_lload_n (p := 37) dX12_lowest_36 rfl rfl ?_
        refine e_goto (p := 41) dX12_lowest_37 (by decide) rfl ?_
        refine e_lload (p := 43) dX12_lowest_41 rfl rfl ?_
        refine e_ldiv (p := 44) dX12_lowest_43 (lN_ne (by omega) (by omega)) rfl ?_
        exact e_lretE dX12_lowest_44 rfl ⟨by rw [pk_lDiv (by omega) (by omega) (by omega)]; simp only [lowV, hc33, ↓reduceIte]; subst_vars; simp only [Nat.gcd_zero_right], rfl⟩
    · skip
      refine e_lload (p := 8) dX12_lowest_6 rfl rfl ?_
      refine e_lconst (v := 0) (p := 9) dX12_lowest_8 (by decide) rfl ?_
      refine e_lcmp (p := 10) dX12_lowest_9 rfl ?_
      refine e_if_eq (t := 31) (p := 13) dX12_lowest_10 (by decide) rfl rfl (fun hc10 => absurd hc10 (fun z => hy ((cmp0 h5).mp z))) (fun hc10 => ?_)
      refine e_lload (p := 15) dX12_lowest_13 rfl rfl ?_
      refine e_lload (p := 17) dX12_lowest_15 rfl rfl ?_
      refine e_lrem (p := 18) dX12_lowest_17 (lN_ne (by omega) (by omega)) rfl ?_
      refine e_lstore (ls1 := [.long (lN u), .null, .long (lN d), .null, .int b, .long (lN x), .null, .long (lN y), .null, .long ((lN x) - (lN x) / (lN y) * (lN y)), .null]) (p := 20) dX12_lowest_18 rfl rfl ?_
      refine e_lload (p := 22) dX12_lowest_20 rfl rfl ?_
      refine e_lstore (ls1 := [.long (lN u), .null, .long (lN d), .null, .int b, .long (lN y), .null, .long (lN y), .null, .long ((lN x) - (lN x) / (lN y) * (lN y)), .null]) (p := 24) dX12_lowest_22 rfl rfl ?_
      refine e_lload (p := 26) dX12_lowest_24 rfl rfl ?_
      refine e_lstore (ls1 := [.long (lN u), .null, .long (lN d), .null, .int b, .long (lN y), .null, .long ((lN x) - (lN x) / (lN y) * (lN y)), .null, .long ((lN x) - (lN x) / (lN y) * (lN y)), .null]) (p := 28) dX12_lowest_26 rfl rfl ?_
      refine e_goto (p := 6) dX12_lowest_28 (by decide) rfl ?_
      rw [pk_lRem h4 (by omega) h5]
      exact Ev.l (by rw [Nat.gcd_comm x y, Nat.gcd_rec y x, Nat.gcd_comm]) (y_low_L hu hd m y (x % y) _ (by have := Nat.mod_lt x (show 0 < y by omega); omega) (by omega) h5 (Nat.lt_of_le_of_lt (Nat.mod_le _ _) h4))
set_option maxRecDepth 10000 in
theorem y_low {I : Nat → Nat → Int32} {J : Nat → Nat → Int64} {F : Nat → Nat → Option Nat} {nc ns : Nat} {u d : Nat} {b : Int32} (hu : u < 2 ^ 63) (hd : d < 2 ^ 63) (h0 : 0 < d) : Ev 0 mX12_lowest 0 [.long (lN u), .null, .long (lN d), .null, .int b, .null, .null, .null, .null, .null, .null] [] ((SH, nc, ns), I, J, F) (some (.long (lowS u d b))) ((SH, nc, ns), I, J, F) := by
  refine e_lload_n (p := 1) dX12_lowest_0 rfl rfl ?_
  refine e_lstore (ls1 := [.long (lN u), .null, .long (lN d), .null, .int b, .long (lN d), .null, .null, .null, .null, .null]) (p := 3) dX12_lowest_1 rfl rfl ?_
  refine e_lload_n (p := 4) dX12_lowest_3 rfl rfl ?_
  refine e_lstore (ls1 := [.long (lN u), .null, .long (lN d), .null, .int b, .long (lN d), .null, .long (lN u), .null, .null, .null]) (p := 6) dX12_lowest_4 rfl rfl ?_
  exact y_low_L hu hd u d u _ (Nat.le_refl _) h0 hd hu
