/-! What can be undone, and the images: the class. -/
theorem isM_of {t : Nat} (h1 : 46 ≤ t) (h2 : t < 65) : isM t := by
  have : ∀ t, t < 65 → 46 ≤ t → SH[t]? = some (3, 6) := by decide
  exact ⟨this t h2 h1, by omega⟩
def pastR (F : Nat → Nat → Option Nat) (pr : Nat → Nat) : Prop := (∀ i, i < 16 → F 44 i = some (pr i) ∧ 46 ≤ pr i ∧ pr i < 62) ∧ ∀ i j, i < 16 → j < 16 → pr i = pr j → i = j
def pastC (I : Nat → Nat → Int32) (F : Nat → Nat → Option Nat) (K : Nat) (U : Nat → Nat → Int32) : Prop := ∃ pr : Nat → Nat, pastR F pr ∧ ∀ i, i < K → mo I (pr i) (U i)
theorem pastC_fr {I I' : Nat → Nat → Int32} {F F' : Nat → Nat → Option Nat} {K : Nat} {U : Nat → Nat → Int32} (h : pastC I F K U) (hI : ∀ k, 46 ≤ k → k < 62 → I' k = I k) (hF : F' 44 = F 44) (hK : K ≤ 16) : pastC I' F' K U := by
  obtain ⟨pr, ⟨h1, h2⟩, h3⟩ := h
  exact ⟨pr, ⟨fun i hi => by rw [hF]; exact h1 i hi, h2⟩, fun i hi => mo_fr (h3 i hi) (hI _ (h1 i (by omega)).2.1 (h1 i (by omega)).2.2)⟩
def rotF (F : Nat → Nat → Option Nat) (pr : Nat → Nat) (j : Nat) : Nat → Nat → Option Nat := fun a b => if a = 44 ∧ b < j then some (pr (b + 1)) else F a b
theorem rot_0 {F : Nat → Nat → Option Nat} {pr : Nat → Nat} : rotF F pr 0 = F := by
  funext a b
  exact if_neg (fun z => by omega)
theorem rot_s {F : Nat → Nat → Option Nat} {pr : Nat → Nat} {j : Nat} : hp_u (rotF F pr j) 44 j (some (pr (j + 1))) = rotF F pr (j + 1) := by
  funext a b
  unfold hp_u rotF
  by_cases c : a = 44
  · rw [if_pos c]
    by_cases c2 : b = j
    · rw [if_pos c2, if_pos ⟨c, by omega⟩, c2]
    · rw [if_neg c2]
      by_cases c3 : b < j
      · rw [if_pos ⟨c, c3⟩, if_pos ⟨c, by omega⟩]
      · rw [if_neg (fun z => c3 z.2), if_neg (fun z => by omega)]
  · rw [if_neg c, if_neg (fun z => c z.1), if_neg (fun z => c z.1)]
theorem rot_ge {F : Nat → Nat → Option Nat} {pr : Nat → Nat} {j i : Nat} (h : j ≤ i) : rotF F pr j 44 i = F 44 i := if_neg (fun z => by omega)
theorem RF_44 {F F' : Nat → Nat → Option Nat} (h : RFok F) (e : ∀ a, a ≠ 44 → F' a = F a) : RFok F' := by
  intro q hq
  have : ∀ q ∈ RT, q.1 ≠ 44 := by decide
  rw [e q.1 (this q hq)]
  exact h q hq
theorem rot_ok {F : Nat → Nat → Option Nat} {pr : Nat → Nat} {j : Nat} (h : RFok F) : RFok (rotF F pr j) := RF_44 h (fun a ha => by funext b; exact if_neg (fun z => ha z.1))
def drpF (F : Nat → Nat → Option Nat) (pr : Nat → Nat) : Nat → Nat → Option Nat := hp_u (rotF F pr 15) 44 15 (some (pr 0))
set_option maxRecDepth 10000 in
theorem x_drop_L {I : Nat → Nat → Int32} {J : Nat → Nat → Int64} {F : Nat → Nat → Option Nat} {nc ns : Nat} {pr : Nat → Nat} (hF : RFok F) (hp : pastR F pr) : ∀ (m j : Nat), j + m = 15 → Ev 0 mX5_dropOldest 9 [.ref 43, .ref (pr 0), .int (nI (j + 1))] [] ((SH, nc, ns), I, J, rotF F pr j) none ((SH, nc, ns), hp_u I 43 2 15, J, drpF F pr)
  | 0, j, hj => by
    obtain rfl : j = 15 := by omega
    refine e_iload_n (p := 10) dX5_dropOldest_9 rfl rfl ?_
    refine e_bipush (v := 16) (p := 12) dX5_dropOldest_10 (by decide) rfl ?_
    refine e_icmp_ge (t := 35) (p := 15) dX5_dropOldest_12 (by decide) rfl rfl (fun hc12 => ?_) (fun hc12 => absurd (nI_le (a := 16) (b := 15 + 1) (by omega) (by omega)) hc12)
    refine e_aload_n (p := 36) dX5_dropOldest_35 rfl rfl ?_
    refine e_getR (c := 5) (j := 0) (n := 4) (b := 44) (p := 39) dX5_dropOldest_36 rfl rfl (by decide) (by decide) rfl (r_43_0 (rot_ok hF)) rfl ?_
    refine e_bipush (v := 15) (p := 41) dX5_dropOldest_39 (by decide) rfl ?_
    refine e_aload_n (p := 42) dX5_dropOldest_41 rfl rfl ?_
    refine f_aast (n := 16) (n2 := 6) (i := 15) (p := 43) dX5_dropOldest_42 rfl (isM_of (hp.1 0 (by omega)).2.1 (by have := (hp.1 0 (by omega)).2.2; omega)).1 (by decide) (by decide) (by decide) rfl ?_
    refine e_aload_n (p := 44) dX5_dropOldest_43 rfl rfl ?_
    refine e_bipush (v := 15) (p := 46) dX5_dropOldest_44 (by decide) rfl ?_
    refine e_putI (c := 5) (j := 2) (n := 4)  (p := 49) dX5_dropOldest_46 rfl rfl (by decide) (by decide) rfl rfl rfl ?_
    exact e_vretE dX5_dropOldest_49 rfl rfl
  | m + 1, j, hj => by
    refine e_iload_n (p := 10) dX5_dropOldest_9 rfl rfl ?_
    refine e_bipush (v := 16) (p := 12) dX5_dropOldest_10 (by decide) rfl ?_
    refine e_icmp_ge (t := 35) (p := 15) dX5_dropOldest_12 (by decide) rfl rfl (fun hc12 => absurd hc12 (nI_ge (a := j + 1) (b := 16) (by omega) (by omega))) (fun hc12 => ?_)
    refine e_aload_n (p := 16) dX5_dropOldest_15 rfl rfl ?_
    refine e_getR (c := 5) (j := 0) (n := 4) (b := 44) (p := 19) dX5_dropOldest_16 rfl rfl (by decide) (by decide) rfl (r_43_0 (rot_ok hF)) rfl ?_
    refine e_iload_n (p := 20) dX5_dropOldest_19 rfl rfl ?_
    refine e_iconst (v := 1) (p := 21) dX5_dropOldest_20 (by decide) rfl ?_
    refine e_isub (p := 22) dX5_dropOldest_21 rfl ?_
    refine e_aload_n (p := 23) dX5_dropOldest_22 rfl rfl ?_
    refine e_getR (c := 5) (j := 0) (n := 4) (b := 44) (p := 26) dX5_dropOldest_23 rfl rfl (by decide) (by decide) rfl (r_43_0 (rot_ok hF)) rfl ?_
    refine e_iload_n (p := 27) dX5_dropOldest_26 rfl rfl ?_
    refine f_aald (c := 15) (n := 16) (b := (pr (j + 1))) (i := (j + 1)) (p := 28) dX5_dropOldest_27 rfl (by decide) (in_nJ (by omega) (by decide)) (nI_cl (by omega)) ((rot_ge (by omega)).trans (hp.1 (j + 1) (by omega)).1) rfl ?_
    refine f_aast (n := 16) (n2 := 6) (i := j) (p := 29) dX5_dropOldest_28 rfl (isM_of (hp.1 (j + 1) (by omega)).2.1 (by have := (hp.1 (j + 1) (by omega)).2.2; omega)).1 (by decide) (in_ix (nI_pred j) (by omega) (by decide)) (cl_ix (nI_pred j) (by omega)) rfl ?_
    refine e_iinc (ls1 := [.ref 43, .ref (pr 0), .int ((nI (j + 1)) + 1)]) (p := 32) dX5_dropOldest_29 rfl rfl rfl ?_
    refine e_goto (p := 9) dX5_dropOldest_32 (by decide) rfl ?_
    rw [rot_s, nI_1]
    exact x_drop_L hF hp m (j + 1) (by omega)
set_option maxRecDepth 10000 in
theorem x_drop {I : Nat → Nat → Int32} {J : Nat → Nat → Int64} {F : Nat → Nat → Option Nat} {nc ns : Nat} {pr : Nat → Nat} (hF : RFok F) (hp : pastR F pr)  : Ev 0 mX5_dropOldest 0 [.ref 43, .null, .null] [] ((SH, nc, ns), I, J, F) (none) ((SH, nc, ns), hp_u I 43 2 15, J, drpF F pr) := by
  refine e_aload_n (p := 1) dX5_dropOldest_0 rfl rfl ?_
  refine e_getR (c := 5) (j := 0) (n := 4) (b := 44) (p := 4) dX5_dropOldest_1 rfl rfl (by decide) (by decide) rfl (r_43_0 hF) rfl ?_
  refine e_iconst (v := 0) (p := 5) dX5_dropOldest_4 (by decide) rfl ?_
  refine f_aald (c := 15) (n := 16) (b := (pr 0)) (i := 0) (p := 6) dX5_dropOldest_5 rfl (by decide) (by decide) (by decide) (hp.1 0 (by omega)).1 rfl ?_
  refine e_astore_n (ls1 := [.ref 43, .ref (pr 0), .null]) (p := 7) dX5_dropOldest_6 rfl rfl ?_
  refine e_iconst (v := 1) (p := 8) dX5_dropOldest_7 (by decide) rfl ?_
  refine e_istore_n (ls1 := [.ref 43, .ref (pr 0), .int 1]) (p := 9) dX5_dropOldest_8 rfl rfl ?_
  exact Ev.h0 (by rw [rot_0]) (x_drop_L hF hp 15 0 (by omega))
def kpN (K : Nat) : Nat := if K = 16 then 16 else K + 1
def kpU (K : Nat) (U : Nat → Nat → Int32) (s : Nat → Int32) : Nat → Nat → Int32 := fun i => if K = 16 then (if i = 15 then s else U (i + 1)) else (if i = K then s else U i)
def AcK (I I' : Nat → Nat → Int32) (F F' : Nat → Nat → Option Nat) (K' : Nat) (U' : Nat → Nat → Int32) : Prop := (∀ k, k ≠ 43 → (k < 46 ∨ 62 ≤ k) → I' k = I k) ∧ I' 43 2 = nI K' ∧ I' 43 3 = I 43 3 ∧ pastC I' F' K' U' ∧ ∀ a, a ≠ 44 → F' a = F a
theorem keep_16 {I : Nat → Nat → Int32} {F : Nat → Nat → Option Nat} {U : Nat → Nat → Int32} {s : Nat → Int32} {pr : Nat → Nat} (hp : pastR F pr) (hU : ∀ i, i < 16 → mo I (pr i) (U i)) (hm : mo I 42 s) : AcK I (hp_u (mcp (hp_u I 43 2 15) (pr 0) 42) 43 2 (15 + 1)) F (drpF F pr) (kpN 16) (kpU 16 U s) := by
  have h0 := hp.1 0 (by omega)
  refine ⟨fun k h1 h2 => ?_, hu_eq, ?_, ?_, fun a ha => ?_⟩
  · rw [hu_ne h1, mcp_ne (by omega), hu_ne h1]
  · rw [hu_nj (by decide), mcp_ne (by omega), hu_nj (by decide)]
  · refine ⟨fun i => if i = 15 then pr 0 else pr (i + 1), ⟨fun i hi => ?_, fun i j hi hj e => ?_⟩, fun i hi => ?_⟩
    · unfold drpF
      rw [hu_if]
      by_cases c : i = 15
      · simp only [c, ↓reduceIte]
        exact ⟨trivial, h0.2⟩
      · simp only [c, ↓reduceIte]
        exact ⟨if_pos ⟨rfl, by omega⟩, (hp.1 (i + 1) (by omega)).2⟩
    · by_cases c : i = 15
      · by_cases c2 : j = 15
        · omega
        · simp only [c, c2, ↓reduceIte] at e
          have := hp.2 0 (j + 1) (by omega) (by omega) e
          omega
      · by_cases c2 : j = 15
        · simp only [c, c2, ↓reduceIte] at e
          have := hp.2 (i + 1) 0 (by omega) (by omega) e
          omega
        · simp only [c, c2, ↓reduceIte] at e
          have := hp.2 (i + 1) (j + 1) (by omega) (by omega) e
          omega
    · have hi : i < 16 := hi
      unfold kpU
      by_cases c : i = 15
      · simp only [c, ↓reduceIte]
        refine mo_u (mcp_mo ?_) (by omega)
        exact mo_u hm (by decide)
      · simp only [c, ↓reduceIte]
        have hi1 := hp.1 (i + 1) (by omega)
        refine mo_u (mo_fr (hU (i + 1) (by omega)) ?_) (by omega)
        rw [mcp_ne (fun z => by have := hp.2 _ _ (by omega) (by omega) z; omega), hu_ne (by omega)]
  · unfold drpF
    rw [hu_ne ha]
    funext b
    exact if_neg (fun z => ha z.1)
theorem keep_lt {I : Nat → Nat → Int32} {F : Nat → Nat → Option Nat} {K : Nat} {U : Nat → Nat → Int32} {s : Nat → Int32} {pr : Nat → Nat} (hK : K < 16) (hp : pastR F pr) (hU : ∀ i, i < K → mo I (pr i) (U i)) (hm : mo I 42 s) : AcK I (hp_u (mcp I (pr K) 42) 43 2 (nI K + 1)) F F (kpN K) (kpU K U s) := by
  have hK' := hp.1 K hK
  refine ⟨fun k h1 h2 => ?_, ?_, ?_, ?_, fun a ha => rfl⟩
  · rw [hu_ne h1, mcp_ne (by omega)]
  · rw [hu_eq, nI_1]
    unfold kpN
    rw [if_neg (by omega)]
  · rw [hu_nj (by decide), mcp_ne (by omega)]
  · refine ⟨pr, hp, fun i hi => ?_⟩
    unfold kpN at hi
    rw [if_neg (by omega)] at hi
    unfold kpU
    rw [if_neg (by omega)]
    by_cases c : i = K
    · simp only [c, ↓reduceIte]
      exact mo_u (mcp_mo hm) (by omega)
    · simp only [c, ↓reduceIte]
      have hi1 := hp.1 i (by omega)
      refine mo_u (mo_fr (hU i (by omega)) ?_) (by omega)
      rw [mcp_ne (fun z => c (hp.2 _ _ (by omega) hK z))]
set_option maxRecDepth 10000 in
theorem x_keep {I : Nat → Nat → Int32} {J : Nat → Nat → Int64} {F : Nat → Nat → Option Nat} {nc ns : Nat} {K : Nat} {U : Nat → Nat → Int32} {s : Nat → Int32} (hF : RFok F) (hK : K ≤ 16) (hk : I 43 2 = nI K) (hp : pastC I F K U) (hm : mo I 42 s) : Ew 1 mX5_keep 0 [.ref 43, .ref 42] [] ((SH, nc, ns), I, J, F) (Ret nc ns none (fun I' J' F' => J' = J ∧ AcK I I' F F' (kpN K) (kpU K U s))) := by
  obtain ⟨pr, hp, hU⟩ := hp
  by_cases c : K = 16
  · subst c
    have h0 := hp.1 0 (by omega)
    refine we_aload_n (p := 1) dX5_keep_0 rfl rfl ?_
    refine wf_getI (c := 5) (j := 2) (n := 4) (v := 16) (p := 4) dX5_keep_1 rfl rfl (by decide) (by decide) (Or.inl rfl) hk rfl ?_
    refine we_bipush (v := 16) (p := 6) dX5_keep_4 (by decide) rfl ?_
    refine we_icmp_ne (t := 13) (p := 9) dX5_keep_6 (by decide) rfl rfl (fun hc6 => absurd (by decide) hc6) (fun hc6 => ?_)
    refine we_aload_n (p := 10) dX5_keep_9 rfl rfl ?_
    refine we_callV_v (p := 13) (k' := 0) (a := [.ref 43]) (rr := []) dX5_keep_10 rfl rfl rfl rfl (rc_of rfl rfl (by decide) ⟨rfl, by decide⟩) (Nat.le_of_ble_eq_true rfl) (Nat.le_of_ble_eq_true rfl) (by decide) (x_drop hF hp) (Or.inl rfl) rfl ?_
    refine we_aload_n (p := 14) dX5_keep_13 rfl rfl ?_
    refine we_getR (c := 5) (j := 0) (n := 4) (b := 44) (p := 17) dX5_keep_14 rfl rfl (by decide) (by decide) rfl (r_43_0 (RF_44 hF (fun a ha => (hu_ne ha).trans (by funext b; exact if_neg (fun z => ha z.1))))) rfl ?_
    refine we_aload_n (p := 18) dX5_keep_17 rfl rfl ?_
    refine wf_getI (c := 5) (j := 2) (n := 4) (v := 15) (p := 21) dX5_keep_18 rfl rfl (by decide) (by decide) (Or.inl rfl) hu_eq rfl ?_
    refine wf_aald (c := 15) (n := 16) (b := (pr 0)) (i := 15) (p := 22) dX5_keep_21 rfl (by decide) (by decide) (by decide) (show drpF F pr 44 15 = some (pr 0) from hu_eq) rfl ?_
    refine we_aload_n (p := 23) dX5_keep_22 rfl rfl ?_
    refine we_callV_v (p := 26) (k' := 0) (a := [.ref (pr 0), .ref 42]) (rr := []) dX5_keep_23 rfl rfl rfl rfl (rc_of rfl (isM_of (hp.1 0 (by omega)).2.1 (by have := (hp.1 0 (by omega)).2.2; omega)).1 (isM_of (hp.1 0 (by omega)).2.1 (by have := (hp.1 0 (by omega)).2.2; omega)).2 ⟨rfl, by decide⟩) (Nat.le_of_ble_eq_true rfl) (Nat.le_of_ble_eq_true rfl) (by decide) (x_copyM (t := (pr 0)) (u := 42) ⟨(isM_of (hp.1 0 (by omega)).2.1 (by have := (hp.1 0 (by omega)).2.2; omega)).1, (isM_of (hp.1 0 (by omega)).2.1 (by have := (hp.1 0 (by omega)).2.2; omega)).2⟩ ⟨rfl, (by decide)⟩ (by omega)) (Or.inl rfl) rfl ?_
    refine we_aload_n (p := 27) dX5_keep_26 rfl rfl ?_
    refine we_dup_ref (p := 28) dX5_keep_27 rfl ?_
    refine wf_getI (c := 5) (j := 2) (n := 4) (v := 15) (p := 31) dX5_keep_28 rfl rfl (by decide) (by decide) (Or.inl rfl) ((congrFun (mcp_ne (by omega)) 2).trans hu_eq) rfl ?_
    refine we_iconst (v := 1) (p := 32) dX5_keep_31 (by decide) rfl ?_
    refine we_iadd (p := 33) dX5_keep_32 rfl ?_
    refine we_putI (c := 5) (j := 2) (n := 4)  (p := 36) dX5_keep_33 rfl rfl (by decide) (by decide) rfl rfl rfl ?_
    exact wv_ret dX5_keep_36 rfl (⟨rfl, _, _, _, rfl, rfl, keep_16 hp hU hm⟩)
  · have h0 := hp.1 K (by omega)
    refine we_aload_n (p := 1) dX5_keep_0 rfl rfl ?_
    refine wf_getI (c := 5) (j := 2) (n := 4) (v := nI K) (p := 4) dX5_keep_1 rfl rfl (by decide) (by decide) (Or.inl rfl) hk rfl ?_
    refine we_bipush (v := 16) (p := 6) dX5_keep_4 (by decide) rfl ?_
    refine we_icmp_ne (t := 13) (p := 9) dX5_keep_6 (by decide) rfl rfl (fun hc6 => ?_) (fun hc6 => absurd hc6 (fun z => absurd ((nI_eq (a := K) (b := 16) (by omega) (by omega)).mp z) (by omega)))
    refine we_aload_n (p := 14) dX5_keep_13 rfl rfl ?_
    refine we_getR (c := 5) (j := 0) (n := 4) (b := 44) (p := 17) dX5_keep_14 rfl rfl (by decide) (by decide) rfl (r_43_0 hF) rfl ?_
    refine we_aload_n (p := 18) dX5_keep_17 rfl rfl ?_
    refine wf_getI (c := 5) (j := 2) (n := 4) (v := nI K) (p := 21) dX5_keep_18 rfl rfl (by decide) (by decide) (Or.inl rfl) hk rfl ?_
    refine wf_aald (c := 15) (n := 16) (b := (pr K)) (i := K) (p := 22) dX5_keep_21 rfl (by decide) (in_nJ (by omega) (by decide)) (nI_cl (by omega)) (hp.1 K (by omega)).1 rfl ?_
    refine we_aload_n (p := 23) dX5_keep_22 rfl rfl ?_
    refine we_callV_v (p := 26) (k' := 0) (a := [.ref (pr K), .ref 42]) (rr := []) dX5_keep_23 rfl rfl rfl rfl (rc_of rfl (isM_of (hp.1 K (by omega)).2.1 (by have := (hp.1 K (by omega)).2.2; omega)).1 (isM_of (hp.1 K (by omega)).2.1 (by have := (hp.1 K (by omega)).2.2; omega)).2 ⟨rfl, by decide⟩) (Nat.le_of_ble_eq_true rfl) (Nat.le_of_ble_eq_true rfl) (by decide) (x_copyM (t := (pr K)) (u := 42) ⟨(isM_of (hp.1 K (by omega)).2.1 (by have := (hp.1 K (by omega)).2.2; omega)).1, (isM_of (hp.1 K (by omega)).2.1 (by have := (hp.1 K (by omega)).2.2; omega)).2⟩ ⟨rfl, (by decide)⟩ (by omega)) (Or.inl rfl) rfl ?_
    refine we_aload_n (p := 27) dX5_keep_26 rfl rfl ?_
    refine we_dup_ref (p := 28) dX5_keep_27 rfl ?_
    refine wf_getI (c := 5) (j := 2) (n := 4) (v := nI K) (p := 31) dX5_keep_28 rfl rfl (by decide) (by decide) (Or.inl rfl) ((congrFun (mcp_ne (by omega)) 2).trans hk) rfl ?_
    refine we_iconst (v := 1) (p := 32) dX5_keep_31 (by decide) rfl ?_
    refine we_iadd (p := 33) dX5_keep_32 rfl ?_
    refine we_putI (c := 5) (j := 2) (n := 4)  (p := 36) dX5_keep_33 rfl rfl (by decide) (by decide) rfl rfl rfl ?_
    exact wv_ret dX5_keep_36 rfl (⟨rfl, _, _, _, rfl, rfl, keep_lt (by omega) hp hU hm⟩)
set_option maxRecDepth 10000 in
theorem x_takeBack {I : Nat → Nat → Int32} {J : Nat → Nat → Int64} {F : Nat → Nat → Option Nat} {nc ns : Nat} {K : Nat} {U : Nat → Nat → Int32} (hF : RFok F) (hK : K < 16) (hk : I 43 2 = nI (K + 1)) (hp : pastC I F (K + 1) U) : Ew 1 mX5_takeBack 0 [.ref 43, .ref 42] [] ((SH, nc, ns), I, J, F) (Ret nc ns none (fun I' J' F' => J' = J ∧ (∀ k, k ≠ 43 → k ≠ 42 → I' k = I k) ∧ I' 43 2 = nI K ∧ I' 43 3 = I 43 3 ∧ mo I' 42 (U K) ∧ F' = F)) := by
  obtain ⟨pr, hp, hU⟩ := hp
  have h0 := hp.1 K (by omega)
  refine we_aload_n (p := 1) dX5_takeBack_0 rfl rfl ?_
  refine wf_getI (c := 5) (j := 2) (n := 4) (v := nI (K + 1)) (p := 4) dX5_takeBack_1 rfl rfl (by decide) (by decide) (Or.inl rfl) hk rfl ?_
  refine we_if_le (t := 30) (p := 7) dX5_takeBack_4 (by decide) rfl rfl (fun hc4 => absurd hc4 (nI_nle (by omega) (by omega))) (fun hc4 => ?_)
  refine we_aload_n (p := 8) dX5_takeBack_7 rfl rfl ?_
  refine we_dup_ref (p := 9) dX5_takeBack_8 rfl ?_
  refine wf_getI (c := 5) (j := 2) (n := 4) (v := nI (K + 1)) (p := 12) dX5_takeBack_9 rfl rfl (by decide) (by decide) (Or.inl rfl) hk rfl ?_
  refine we_iconst (v := 1) (p := 13) dX5_takeBack_12 (by decide) rfl ?_
  refine we_isub (p := 14) dX5_takeBack_13 rfl ?_
  refine we_putI (c := 5) (j := 2) (n := 4)  (p := 17) dX5_takeBack_14 rfl rfl (by decide) (by decide) rfl rfl rfl ?_
  refine we_aload_n (p := 18) dX5_takeBack_17 rfl rfl ?_
  refine we_aload_n (p := 19) dX5_takeBack_18 rfl rfl ?_
  refine we_getR (c := 5) (j := 0) (n := 4) (b := 44) (p := 22) dX5_takeBack_19 rfl rfl (by decide) (by decide) rfl (r_43_0 hF) rfl ?_
  refine we_aload_n (p := 23) dX5_takeBack_22 rfl rfl ?_
  refine wf_getI (c := 5) (j := 2) (n := 4) (v := nI K) (p := 26) dX5_takeBack_23 rfl rfl (by decide) (by decide) (Or.inl rfl) (hu_eq.trans (nI_pred K)) rfl ?_
  refine wf_aald (c := 15) (n := 16) (b := (pr K)) (i := K) (p := 27) dX5_takeBack_26 rfl (by decide) (in_nJ (by omega) (by decide)) (nI_cl (by omega)) (hp.1 K (by omega)).1 rfl ?_
  refine we_callV_v (p := 30) (k' := 0) (a := [.ref 42, .ref (pr K)]) (rr := []) dX5_takeBack_27 rfl rfl rfl rfl (rc_of rfl rfl (by decide) ⟨rfl, by decide⟩) (Nat.le_of_ble_eq_true rfl) (Nat.le_of_ble_eq_true rfl) (by decide) (x_copyM (t := 42) (u := (pr K)) ⟨rfl, (by decide)⟩ ⟨(isM_of (hp.1 K (by omega)).2.1 (by have := (hp.1 K (by omega)).2.2; omega)).1, (isM_of (hp.1 K (by omega)).2.1 (by have := (hp.1 K (by omega)).2.2; omega)).2⟩ (by omega)) (Or.inl rfl) rfl ?_
  exact wv_ret dX5_takeBack_30 rfl (⟨rfl, _, _, _, rfl, rfl, fun k h1 h2 => by rw [mcp_ne h2, hu_ne h1], by rw [mcp_ne (by decide), hu_eq, nI_pred], by rw [mcp_ne (by decide), hu_nj (by decide)], mcp_mo (mo_u (hU K (by omega)) (by omega)), rfl⟩)
set_option maxRecDepth 10000 in
theorem x_hasRoomI {I : Nat → Nat → Int32} {J : Nat → Nat → Int64} {F : Nat → Nat → Option Nat} {nc ns : Nat} {M : Nat} (hM : I 43 3 = nI M)  : Ev 0 mX5_hasRoomForImage 0 [.ref 43] [] ((SH, nc, ns), I, J, F) (some (.int (if 3 ≤ nI M then 0 else 1))) ((SH, nc, ns), I, J, F) := by
  refine e_aload_n (p := 1) dX5_hasRoomForImage_0 rfl rfl ?_
  refine f_getI (c := 5) (j := 3) (n := 4) (v := nI M) (p := 4) dX5_hasRoomForImage_1 rfl rfl (by decide) (by decide) (Or.inl rfl) hM rfl ?_
  refine e_iconst (v := 3) (p := 5) dX5_hasRoomForImage_4 (by decide) rfl ?_
  refine e_icmp_ge (t := 12) (p := 8) dX5_hasRoomForImage_5 (by decide) rfl rfl (fun hc5 => ?_) (fun hc5 => ?_)
  · skip
    refine e_iconst (v := 0) (p := 13) dX5_hasRoomForImage_12 (by decide) rfl ?_
    exact e_iretE dX5_hasRoomForImage_13 rfl (by decide) (by decide) ⟨by simp only [hc5, ↓reduceIte], rfl⟩
  · skip
    refine e_iconst (v := 1) (p := 9) dX5_hasRoomForImage_8 (by decide) rfl ?_
    refine e_goto (p := 13) dX5_hasRoomForImage_9 (by decide) rfl ?_
    exact e_iretE dX5_hasRoomForImage_13 rfl (by decide) (by decide) ⟨by simp only [hc5, ↓reduceIte], rfl⟩
set_option maxRecDepth 10000 in
theorem x_keepImage {I : Nat → Nat → Int32} {J : Nat → Nat → Int64} {F : Nat → Nat → Option Nat} {nc ns : Nat} {M : Nat} (hF : RFok F) (hM3 : M < 3) (hM : I 43 3 = nI M)  : Ev 1 mX5_keepImage 0 [.ref 43, .ref 42] [] ((SH, nc, ns), I, J, F) (some (.int (nI M))) ((SH, nc, ns), hp_u (mcp I (62 + M) 42) 43 3 (nI (M + 1)), J, F) := by
  refine e_aload_n (p := 1) dX5_keepImage_0 rfl rfl ?_
  refine e_callV_int (p := 4) (k' := 0) (a := [.ref 43]) (rr := []) dX5_keepImage_1 rfl rfl rfl rfl (rc_of rfl rfl (by decide) ⟨rfl, by decide⟩) (Nat.le_of_ble_eq_true rfl) (Nat.le_of_ble_eq_true rfl) (by decide) (Ev.i (if_neg (nI_ge (a := M) (b := 3) (by omega) (by omega))) (x_hasRoomI hM)) (Or.inl rfl) rfl ?_
  refine e_if_ne (t := 9) (p := 7) dX5_keepImage_4 (by decide) rfl rfl (fun hc4 => ?_) (fun hc4 => absurd hc4 (by decide))
  refine e_aload_n (p := 10) dX5_keepImage_9 rfl rfl ?_
  refine e_getR (c := 5) (j := 1) (n := 4) (b := 45) (p := 13) dX5_keepImage_10 rfl rfl (by decide) (by decide) rfl (r_43_1 hF) rfl ?_
  refine e_aload_n (p := 14) dX5_keepImage_13 rfl rfl ?_
  refine f_getI (c := 5) (j := 3) (n := 4) (v := nI M) (p := 17) dX5_keepImage_14 rfl rfl (by decide) (by decide) (Or.inl rfl) hM rfl ?_
  refine f_aald (c := 15) (n := 3) (b := (62 + M)) (i := M) (p := 18) dX5_keepImage_17 rfl (by decide) (in_nJ (by omega) (by decide)) (nI_cl (by omega)) (fm_45 hF (by omega)) rfl ?_
  refine e_aload_n (p := 19) dX5_keepImage_18 rfl rfl ?_
  refine e_callV_v (p := 22) (k' := 0) (a := [.ref (62 + M), .ref 42]) (rr := []) dX5_keepImage_19 rfl rfl rfl rfl (rc_of rfl (sf_45 (by omega)) (by omega) ⟨rfl, by decide⟩) (Nat.le_of_ble_eq_true rfl) (Nat.le_of_ble_eq_true rfl) (by decide) (x_copyM (t := (62 + M)) (u := 42) ⟨(sf_45 (by omega)), (by omega)⟩ ⟨rfl, (by decide)⟩ (by omega)) (Or.inl rfl) rfl ?_
  refine e_aload_n (p := 23) dX5_keepImage_22 rfl rfl ?_
  refine e_dup_ref (p := 24) dX5_keepImage_23 rfl ?_
  refine f_getI (c := 5) (j := 3) (n := 4) (v := nI M) (p := 27) dX5_keepImage_24 rfl rfl (by decide) (by decide) (Or.inl rfl) ((congrFun (mcp_ne (by omega)) 3).trans hM) rfl ?_
  refine e_iconst (v := 1) (p := 28) dX5_keepImage_27 (by decide) rfl ?_
  refine e_iadd (p := 29) dX5_keepImage_28 rfl ?_
  refine e_putI (c := 5) (j := 3) (n := 4)  (p := 32) dX5_keepImage_29 rfl rfl (by decide) (by decide) rfl rfl rfl ?_
  refine e_aload_n (p := 33) dX5_keepImage_32 rfl rfl ?_
  refine f_getI (c := 5) (j := 3) (n := 4) (v := nI (M + 1)) (p := 36) dX5_keepImage_33 rfl rfl (by decide) (by decide) (Or.inl rfl) (hu_eq.trans (nI_1 M)) rfl ?_
  refine e_iconst (v := 1) (p := 37) dX5_keepImage_36 (by decide) rfl ?_
  refine e_isub (p := 38) dX5_keepImage_37 rfl ?_
  exact e_iretE dX5_keepImage_38 rfl rfl (by decide) ⟨by rw [nI_pred], by simp only [nI_1]⟩
set_option maxRecDepth 10000 in
theorem x_goBack {I : Nat → Nat → Int32} {J : Nat → Nat → Int64} {F : Nat → Nat → Option Nat} {nc ns : Nat} {M i : Nat} (hF : RFok F) (hM3 : M ≤ 3) (hi : i < M) (hM : I 43 3 = nI M)  : Ev 1 mX5_goBack 0 [.ref 43, .int (nI i), .ref 42] [] ((SH, nc, ns), I, J, F) (none) ((SH, nc, ns), hp_u (mcp I 42 (62 + i)) 43 2 0, J, F) := by
  refine e_iload_n (p := 1) dX5_goBack_0 rfl rfl ?_
  refine e_if_lt (t := 27) (p := 4) dX5_goBack_1 (by decide) rfl rfl (fun hc1 => absurd hc1 (nI_pos (by omega))) (fun hc1 => ?_)
  refine e_iload_n (p := 5) dX5_goBack_4 rfl rfl ?_
  refine e_aload_n (p := 6) dX5_goBack_5 rfl rfl ?_
  refine f_getI (c := 5) (j := 3) (n := 4) (v := nI M) (p := 9) dX5_goBack_6 rfl rfl (by decide) (by decide) (Or.inl rfl) hM rfl ?_
  refine e_icmp_ge (t := 27) (p := 12) dX5_goBack_9 (by decide) rfl rfl (fun hc9 => absurd hc9 (nI_ge (a := i) (b := M) (by omega) (by omega))) (fun hc9 => ?_)
  refine e_aload_n (p := 13) dX5_goBack_12 rfl rfl ?_
  refine e_aload_n (p := 14) dX5_goBack_13 rfl rfl ?_
  refine e_getR (c := 5) (j := 1) (n := 4) (b := 45) (p := 17) dX5_goBack_14 rfl rfl (by decide) (by decide) rfl (r_43_1 hF) rfl ?_
  refine e_iload_n (p := 18) dX5_goBack_17 rfl rfl ?_
  refine f_aald (c := 15) (n := 3) (b := (62 + i)) (i := i) (p := 19) dX5_goBack_18 rfl (by decide) (in_nJ (by omega) (by decide)) (nI_cl (by omega)) (fm_45 hF (by omega)) rfl ?_
  refine e_callV_v (p := 22) (k' := 0) (a := [.ref 42, .ref (62 + i)]) (rr := []) dX5_goBack_19 rfl rfl rfl rfl (rc_of rfl rfl (by decide) ⟨rfl, by decide⟩) (Nat.le_of_ble_eq_true rfl) (Nat.le_of_ble_eq_true rfl) (by decide) (x_copyM (t := 42) (u := (62 + i)) ⟨rfl, (by decide)⟩ ⟨(sf_45 (by omega)), (by omega)⟩ (by omega)) (Or.inl rfl) rfl ?_
  refine e_aload_n (p := 23) dX5_goBack_22 rfl rfl ?_
  refine e_iconst (v := 0) (p := 24) dX5_goBack_23 (by decide) rfl ?_
  refine e_putI (c := 5) (j := 2) (n := 4)  (p := 27) dX5_goBack_24 rfl rfl (by decide) (by decide) rfl rfl rfl ?_
  exact e_vretE dX5_goBack_27 rfl rfl
set_option maxRecDepth 10000 in
theorem x_forget {I : Nat → Nat → Int32} {J : Nat → Nat → Int64} {F : Nat → Nat → Option Nat} {nc ns : Nat}  : Ev 0 mX5_forget 0 [.ref 43] [] ((SH, nc, ns), I, J, F) (none) ((SH, nc, ns), hp_u (hp_u I 43 2 0) 43 3 0, J, F) := by
  refine e_aload_n (p := 1) dX5_forget_0 rfl rfl ?_
  refine e_iconst (v := 0) (p := 2) dX5_forget_1 (by decide) rfl ?_
  refine e_putI (c := 5) (j := 2) (n := 4)  (p := 5) dX5_forget_2 rfl rfl (by decide) (by decide) rfl rfl rfl ?_
  refine e_aload_n (p := 6) dX5_forget_5 rfl rfl ?_
  refine e_iconst (v := 0) (p := 7) dX5_forget_6 (by decide) rfl ?_
  refine e_putI (c := 5) (j := 3) (n := 4)  (p := 10) dX5_forget_7 rfl rfl (by decide) (by decide) rfl rfl rfl ?_
  exact e_vretE dX5_forget_10 rfl rfl
