/-! The reference: copy; rows of those whom it had nearly been. -/
/-- I' is I but for fields of 95 in [t1, t2) and places in [lo, hi) -/
def Fm (lo hi t1 t2 : Nat) (I I' : Nat → Nat → Int32) : Prop := (∀ p, p ≠ 95 → (p < lo ∨ hi ≤ p) → I' p = I p) ∧ ∀ j, (j < t1 ∨ t2 ≤ j) → I' 95 j = I 95 j
section
variable {lo hi t1 t2 k j : Nat} {v : Int32} {I I' I'' : Nat → Nat → Int32}
theorem Fm.rf : Fm lo hi t1 t2 I I := ⟨fun _ _ _ => rfl, fun _ _ => rfl⟩
theorem Fm.tr (h : Fm lo hi t1 t2 I I') (h2 : Fm lo hi t1 t2 I' I'') : Fm lo hi t1 t2 I I'' := ⟨fun p a b => (h2.1 p a b).trans (h.1 p a b), fun j a => (h2.2 j a).trans (h.2 j a)⟩
theorem Fm.u (h : Fm lo hi t1 t2 I I') (h0 : k ≠ 95) (h1 : lo ≤ k) (h2 : k < hi) : Fm lo hi t1 t2 I (hp_u I' k j v) := ⟨fun p a b => (hu_ne (by omega)).trans (h.1 p a b), fun i a => (congrFun (hu_ne (by omega)) i).trans (h.2 i a)⟩
theorem Fm.f (h : Fm lo hi t1 t2 I I') (h1 : t1 ≤ j) (h2 : j < t2) : Fm lo hi t1 t2 I (hp_u I' 95 j v) := ⟨fun p a b => (hu_ne a).trans (h.1 p a b), fun i a => (hu_nj (by omega)).trans (h.2 i a)⟩
theorem Fm.wd {lo2 hi2 s1 s2 : Nat} (h : Fm lo hi t1 t2 I I') (a : lo2 ≤ lo) (b : hi ≤ hi2) (c : s1 ≤ t1) (d : t2 ≤ s2) : Fm lo2 hi2 s1 s2 I I' := ⟨fun p x y => h.1 p x (by omega), fun j x => h.2 j (by omega)⟩
end
def cpI (I : Nat → Nat → Int32) (p a q b n : Nat) : Nat → Nat → Int32 := fun x i => if x = q ∧ b ≤ i ∧ i < b + n then I p (a + (i - b)) else I x i
theorem cp_ne {I : Nat → Nat → Int32} {p a q b n x : Nat} (h : x ≠ q) : cpI I p a q b n x = I x := by
  funext i
  exact if_neg (fun z => h z.1)
theorem cp_in {I : Nat → Nat → Int32} {p a q b n i : Nat} (h1 : b ≤ i) (h2 : i < b + n) : cpI I p a q b n q i = I p (a + (i - b)) := if_pos ⟨rfl, h1, h2⟩
theorem cp_out {I : Nat → Nat → Int32} {p a q b n i : Nat} (h : i < b ∨ b + n ≤ i) : cpI I p a q b n q i = I q i := if_neg (fun z => by omega)
theorem cp_s {I : Nat → Nat → Int32} {p a q b n : Nat} (h : p ≠ q) : hp_u (cpI I p a q b n) q (b + n) (cpI I p a q b n p (a + n)) = cpI I p a q b (n + 1) := by
  rw [cp_ne h]
  funext x i
  unfold hp_u cpI
  by_cases c : x = q
  · subst c
    rw [if_pos rfl]
    by_cases c2 : i = b + n
    · subst c2
      rw [if_pos rfl, if_pos ⟨rfl, by omega, by omega⟩, show a + (b + n - b) = a + n by omega]
    · rw [if_neg c2]
      by_cases c3 : b ≤ i ∧ i < b + n
      · rw [if_pos ⟨rfl, c3⟩, if_pos ⟨rfl, c3.1, by omega⟩]
      · rw [if_neg (fun z => c3 z.2), if_neg (fun z => c3 ⟨z.2.1, by omega⟩)]
  · rw [if_neg c, if_neg (fun z => c z.1), if_neg (fun z => c z.1)]
theorem cp_0 {I : Nat → Nat → Int32} {p a q b : Nat} : cpI I p a q b 0 = I := by
  funext x i
  exact if_neg (fun z => by omega)
set_option maxRecDepth 10000 in
theorem y_copy_L {I : Nat → Nat → Int32} {J : Nat → Nat → Int64} {F : Nat → Nat → Option Nat} {nc ns : Nat} {p a q b n np nq : Nat} (hp : SH[p]? = some (12, np)) (hp1 : p < 1000000) (hq : SH[q]? = some (12, nq)) (hq1 : q < 1000000) (hpq : p ≠ q) (ha : a + n ≤ np) (hb : b + n ≤ nq) (hnp : np < 1000) (hnq : nq < 1000) : ∀ (m j : Nat), j + m = n → Ev 0 mX12_copy 3 [.ref p, .int (nI a), .ref q, .int (nI b), .int (nI n), .int (nI j)] [] ((SH, nc, ns), cpI I p a q b j, J, F) none ((SH, nc, ns), cpI I p a q b n, J, F)
  | 0, j, hj => by
    obtain rfl : j = n := by omega
    refine e_iload (p := 5) dX12_copy_3 rfl rfl ?_
    refine e_iload (p := 7) dX12_copy_5 rfl rfl ?_
    refine e_icmp_ge (t := 28) (p := 10) dX12_copy_7 (by decide) rfl rfl (fun hc7 => ?_) (fun hc7 => absurd (nI_le (a := j) (b := j) (by omega) (by omega)) hc7)
    exact e_vretE dX12_copy_28 rfl rfl
  | m + 1, j, hj => by
    refine e_iload (p := 5) dX12_copy_3 rfl rfl ?_
    refine e_iload (p := 7) dX12_copy_5 rfl rfl ?_
    refine e_icmp_ge (t := 28) (p := 10) dX12_copy_7 (by decide) rfl rfl (fun hc7 => absurd hc7 (nI_ge (a := j) (b := n) (by omega) (by omega))) (fun hc7 => ?_)
    refine e_aload_n (p := 11) dX12_copy_10 rfl rfl ?_
    refine e_iload_n (p := 12) dX12_copy_11 rfl rfl ?_
    refine e_iload (p := 14) dX12_copy_12 rfl rfl ?_
    refine e_iadd (p := 15) dX12_copy_14 rfl ?_
    refine e_aload_n (p := 16) dX12_copy_15 rfl rfl ?_
    refine e_iload_n (p := 17) dX12_copy_16 rfl rfl ?_
    refine e_iload (p := 19) dX12_copy_17 rfl rfl ?_
    refine e_iadd (p := 20) dX12_copy_19 rfl ?_
    refine f_iald (n := np) (i := (a + j)) (v := (cpI I p a q b j) p (a + j)) (p := 21) dX12_copy_20 hp hp1 (in_ix (nI_add a j) (by omega) (by omega)) (cl_ix (nI_add a j) (by omega)) rfl rfl ?_
    refine f_iast (n := nq) (i := (b + j)) (p := 22) dX12_copy_21 hq hq1 (in_ix (nI_add b j) (by omega) (by omega)) (cl_ix (nI_add b j) (by omega)) rfl ?_
    refine e_iinc (ls1 := [.ref p, .int (nI a), .ref q, .int (nI b), .int (nI n), .int ((nI j) + 1)]) (p := 25) dX12_copy_22 rfl rfl rfl ?_
    refine e_goto (p := 3) dX12_copy_25 (by decide) rfl ?_
    rw [nI_1, cp_s hpq]
    exact y_copy_L hp hp1 hq hq1 hpq ha hb hnp hnq m (j + 1) (by omega)
set_option maxRecDepth 10000 in
theorem y_copy {I : Nat → Nat → Int32} {J : Nat → Nat → Int64} {F : Nat → Nat → Option Nat} {nc ns : Nat} {p a q b n np nq : Nat} (hp : SH[p]? = some (12, np)) (hp1 : p < 1000000) (hq : SH[q]? = some (12, nq)) (hq1 : q < 1000000) (hpq : p ≠ q) (ha : a + n ≤ np) (hb : b + n ≤ nq) (hnp : np < 1000) (hnq : nq < 1000) : Ev 0 mX12_copy 0 [.ref p, .int (nI a), .ref q, .int (nI b), .int (nI n), .null] [] ((SH, nc, ns), I, J, F) none ((SH, nc, ns), cpI I p a q b n, J, F) := by
  refine e_iconst (v := 0) (p := 1) dX12_copy_0 (by decide) rfl ?_
  refine e_istore (ls1 := [.ref p, .int (nI a), .ref q, .int (nI b), .int (nI n), .int 0]) (p := 3) dX12_copy_1 rfl rfl ?_
  exact Ev.h0 (by rw [cp_0]) (y_copy_L hp hp1 hq hq1 hpq ha hb hnp hnq n 0 (by omega))
theorem y_copyE {I : Nat → Nat → Int32} {J : Nat → Nat → Int64} {F : Nat → Nat → Option Nat} {nc ns : Nat} {p a q b n np nq : Nat} (hp : SH[p]? = some (12, np)) (hp1 : p < 1000000) (hq : SH[q]? = some (12, nq)) (hq1 : q < 1000000) (hpq : p ≠ q) (ha : a + n ≤ np) (hb : b + n ≤ nq) (hnp : np < 1000) (hnq : nq < 1000) {xa xb xn : Int32} (ea : xa = nI a) (eb : xb = nI b) (en : xn = nI n) : Ev 0 mX12_copy 0 [.ref p, .int xa, .ref q, .int xb, .int xn, .null] [] ((SH, nc, ns), I, J, F) none ((SH, nc, ns), cpI I p a q b n, J, F) := by
  subst ea eb en
  exact y_copy hp hp1 hq hq1 hpq ha hb hnp hnq
theorem cp_Fm {I : Nat → Nat → Int32} {p a q b n lo hi t1 t2 : Nat} (h0 : q ≠ 95) (h1 : lo ≤ q) (h2 : q < hi) : Fm lo hi t1 t2 I (cpI I p a q b n) := ⟨fun x _ z => cp_ne (by omega), fun j _ => congrFun (cp_ne (by omega)) j⟩
