/-! The reference: rows of those whom it had nearly been. -/
def gM (N : Nat) (I : Nat → Nat → Int32) (a : gA) : Prop := I 95 34 = a.1 ∧ (∀ i, i < N → I 109 i = a.2.1 i) ∧ ∀ i, i < 4 → ∀ w, w < 8 → I 110 (8 * i + w) = a.2.2 i w
theorem ix8 (j w : Nat) : (8 : Int32) * nI j + nI w = nI (8 * j + w) := by
  rw [show (8 : Int32) = nI 8 from rfl, pk_mul, nI_add]
theorem C_u {I : Nat → Nat → Int32} {k j : Nat} {v : Int32} {f : Nat → Nat → Int32} (h : ∀ i, i < 4 → ∀ w, w < 8 → I 110 (8 * i + w) = f i w) (hk : 110 ≠ k) : ∀ i, i < 4 → ∀ w, w < 8 → hp_u I k j v 110 (8 * i + w) = f i w := fun i hi w hw => (congrFun (hu_ne hk) _).trans (h i hi w hw)
set_option maxRecDepth 10000 in
theorem y_often {J : Nat → Nat → Int64} {F : Nat → Nat → Option Nat} {nc ns : Nat} {I0 : Nat → Nat → Int32} {N : Nat} {x u : Int32} {a : gA} {row : Nat → Nat} (hF : RFok F) (hx : x = nI N) (hN : N ≤ 4) (hr : gR I0 108 row N) (hrow : ∀ i, i < N → row i < 8)  {Q : Option Value → hp_H → Prop} : ∀ (m j : Nat) (I : Nat → Nat → Int32), j + m = N → (Fr 110 111 I0 I ∧ ∀ i, i < 4 → ∀ w, w < 8 → I 110 (8 * i + w) = (fun i w => if i < j ∧ w = row i then a.2.2 i w + 1 else a.2.2 i w) i w) → (∀ (I : Nat → Nat → Int32), (Fr 110 111 I0 I ∧ ∀ i, i < 4 → ∀ w, w < 8 → I 110 (8 * i + w) = (fun i w => if i < N ∧ w = row i then a.2.2 i w + 1 else a.2.2 i w) i w) → Ew 3 mX12_tryNear 75 [.ref 95, .int x, .int u, .int (nI N)] [] ((SH, nc, ns), I, J, F) Q) → Ew 3 mX12_tryNear 44 [.ref 95, .int x, .int u, .int (nI j)] [] ((SH, nc, ns), I, J, F) Q
  | 0, j, I, hj, hI, hq => by
    have g108 : ∀ i, i < N → I 108 i = nI (row i) := fun i hi => (congrFun (hI.1 108 (by omega)) i).trans (hr i hi)
    have hjN : j = N := by omega
    refine we_iload_n (p := 45) dX12_tryNear_44 rfl rfl ?_
    refine we_iload_n (p := 46) dX12_tryNear_45 rfl rfl ?_
    refine we_icmp_ge (t := 75) (p := 49) dX12_tryNear_46 (by decide) rfl rfl (fun hc46 => ?_) (fun hc46 => absurd (by rw [hx]; exact nI_le (a := N) (b := j) (by omega) (by omega)) hc46)
    subst hjN; exact hq _ hI
  | m + 1, j, I, hj, hI, hq => by
    have g108 : ∀ i, i < N → I 108 i = nI (row i) := fun i hi => (congrFun (hI.1 108 (by omega)) i).trans (hr i hi)
    refine we_iload_n (p := 45) dX12_tryNear_44 rfl rfl ?_
    refine we_iload_n (p := 46) dX12_tryNear_45 rfl rfl ?_
    refine we_icmp_ge (t := 75) (p := 49) dX12_tryNear_46 (by decide) rfl rfl (fun hc46 => absurd hc46 (by rw [hx]; exact nI_ge (a := j) (b := N) (by omega) (by omega))) (fun hc46 => ?_)
    refine we_aload_n (p := 50) dX12_tryNear_49 rfl rfl ?_
    refine we_getR (c := 11) (j := 33) (n := 37) (b := 110) (p := 53) dX12_tryNear_50 rfl rfl (by decide) (by decide) rfl (r_95_33 hF) rfl ?_
    refine we_bipush (v := 8) (p := 55) dX12_tryNear_53 (by decide) rfl ?_
    refine we_iload_n (p := 56) dX12_tryNear_55 rfl rfl ?_
    refine we_imul (p := 57) dX12_tryNear_56 rfl ?_
    refine we_aload_n (p := 58) dX12_tryNear_57 rfl rfl ?_
    refine we_getR (c := 11) (j := 31) (n := 37) (b := 108) (p := 61) dX12_tryNear_58 rfl rfl (by decide) (by decide) rfl (r_95_31 hF) rfl ?_
    refine we_iload_n (p := 62) dX12_tryNear_61 rfl rfl ?_
    refine wf_iald (n := 4) (i := j) (v := nI (row j)) (p := 63) dX12_tryNear_62 rfl (by decide) (in_nJ (by omega) (by decide)) (nI_cl (by omega)) (g108 j (by omega)) rfl ?_
    refine we_iadd (p := 64) dX12_tryNear_63 rfl ?_
    refine we_dup2 (p := 65) dX12_tryNear_64 rfl ?_
    refine wf_iald (n := 32) (i := (8 * j + (row j))) (v := (fun i w => if i < j ∧ w = row i then a.2.2 i w + 1 else a.2.2 i w) j (row j)) (p := 66) dX12_tryNear_65 rfl (by decide) (in_ix (ix8 j (row j)) (by have := hrow j (by omega); omega) (by decide)) (cl_ix (ix8 j (row j)) (by have := hrow j (by omega); omega)) (hI.2 j (by omega) (row j) (hrow _ (by omega))) rfl ?_
    refine we_iconst (v := 1) (p := 67) dX12_tryNear_66 (by decide) rfl ?_
    refine we_iadd (p := 68) dX12_tryNear_67 rfl ?_
    refine wf_iast (n := 32) (i := (8 * j + (row j))) (p := 69) dX12_tryNear_68 rfl (by decide) (in_ix (ix8 j (row j)) (by have := hrow j (by omega); omega) (by decide)) (cl_ix (ix8 j (row j)) (by have := hrow j (by omega); omega)) rfl ?_
    refine we_iinc (ls1 := [.ref 95, .int x, .int u, .int ((nI j) + 1)]) (p := 72) dX12_tryNear_69 rfl rfl rfl ?_
    refine we_goto (p := 44) dX12_tryNear_72 (by decide) rfl ?_
    rw [nI_1]
    refine y_often hF hx hN hr hrow m (j + 1) _  (by omega) ?_ hq
    refine ⟨hI.1.u (by omega) (by omega), fun i hi w hw => ?_⟩
    have hrj := hrow j (by omega)
    rw [hu_if]
    by_cases c : i = j
    · subst c
      by_cases c2 : w = row i
      · subst c2
        simp
      · rw [if_neg (by omega), hI.2 i hi w hw]
        simp [c2]
    · rw [if_neg (by omega), hI.2 i hi w hw]
      have : (i < j + 1 ∧ w = row i) ↔ (i < j ∧ w = row i) := by omega
      simp only [this]
theorem gM_u {N : Nat} {I : Nat → Nat → Int32} {a : gA} {k j : Nat} {v : Int32} (h : gM N I a) (hk : k ≠ 95 ∧ k ≠ 109 ∧ k ≠ 110) : gM N (hp_u I k j v) a := ⟨(congrFun (hu_ne (by omega)) 34).trans h.1, A_u h.2.1 (by omega), C_u h.2.2 (by omega)⟩
set_option maxRecDepth 10000 in
theorem y_tryNear_L {J : Nat → Nat → Int64} {F : Nat → Nat → Option Nat} {nc ns : Nat} {D : oD} (hF : RFok F) (hW : WF D) {d k : Nat} {x u : Int32} {row : Nat → Nat} (hS : ∀ (k : Nat) (x u : Int32) (row : Nat → Nat) (a : gA) (I : Nat → Nat → Int32), x = nI k → k + d = dN D 6 → oM I 98 D → gM (dN D 6) I a → gR I 108 row k → (∀ i, i < k → row i < 8) → Ew (d + 3) mX12_tryNear 0 [.ref 95, .int x, .int u, .null] [] ((SH, nc, ns), I, J, F) (Ret nc ns none (fun I' J' F' => Fm 108 111 34 35 I I' ∧ J' = J ∧ F' = F ∧ gM (dN D 6) I' (nrS D (dN D 6) d k u row a) ∧ gR I' 108 row k))) (hx : x = nI k) (hk : k + (d + 1) = dN D 6) (hrow : ∀ i, i < k → row i < 8) : ∀ (m j : Nat) (I : Nat → Nat → Int32) (a : gA), j + m = dN D 2 → oM I 98 D → gM (dN D 6) I a → gR I 108 row k → Ew (d + 1 + 3) mX12_tryNear 78 [.ref 95, .int x, .int u, .int (nI j)] [] ((SH, nc, ns), I, J, F) (Ret nc ns none (fun I' J' F' => Fm 108 111 34 35 I I' ∧ J' = J ∧ F' = F ∧ gM (dN D 6) I' (gN (fun w a => if hbS u (nI w) = 0 then (if wasS D k w = 0 then a else nrS D (dN D 6) d (k + 1) (u ||| bit w) (upN row k w) a) else a) j m a) ∧ gR I' 108 row k))
  | 0, j, I, a, hj, hM, hg, hr => by
    have hD := hW.c
    have hH := hW.h
    have hT := hW.t
    have bt := hT.2
    obtain ⟨b0, b1, b2, b3, b4, b5, b6⟩ := hD.2
    refine we_iload_n (p := 79) dX12_tryNear_78 rfl rfl ?_
    refine we_aload_n (p := 80) dX12_tryNear_79 rfl rfl ?_
    refine we_getR (c := 11) (j := 15) (n := 37) (b := 98) (p := 83) dX12_tryNear_80 rfl rfl (by decide) (by decide) rfl (r_95_15 hF) rfl ?_
    refine we_iconst (v := 4) (p := 84) dX12_tryNear_83 (by decide) rfl ?_
    refine wf_iald (n := 276) (i := 4) (v := nI (dN D 2)) (p := 85) dX12_tryNear_84 rfl (by decide) (by decide) (by decide) (mNn (i := 2) hM hD (by decide)) rfl ?_
    refine we_icmp_ge (t := 133) (p := 88) dX12_tryNear_85 (by decide) rfl rfl (fun hc85 => ?_) (fun hc85 => absurd (nle (by omega) (by omega)) hc85)
    exact wv_ret dX12_tryNear_133 rfl (⟨rfl, _, _, _, rfl, Fm.rf, rfl, rfl, hg, hr⟩)
  | m + 1, j, I, a, hj, hM, hg, hr => by
    have hD := hW.c
    have hH := hW.h
    have hT := hW.t
    have bt := hT.2
    obtain ⟨b0, b1, b2, b3, b4, b5, b6⟩ := hD.2
    refine we_iload_n (p := 79) dX12_tryNear_78 rfl rfl ?_
    refine we_aload_n (p := 80) dX12_tryNear_79 rfl rfl ?_
    refine we_getR (c := 11) (j := 15) (n := 37) (b := 98) (p := 83) dX12_tryNear_80 rfl rfl (by decide) (by decide) rfl (r_95_15 hF) rfl ?_
    refine we_iconst (v := 4) (p := 84) dX12_tryNear_83 (by decide) rfl ?_
    refine wf_iald (n := 276) (i := 4) (v := nI (dN D 2)) (p := 85) dX12_tryNear_84 rfl (by decide) (by decide) (by decide) (mNn (i := 2) hM hD (by decide)) rfl ?_
    refine we_icmp_ge (t := 133) (p := 88) dX12_tryNear_85 (by decide) rfl rfl (fun hc85 => absurd hc85 (nge (by omega) (by omega))) (fun hc85 => ?_)
    refine we_iload_n (p := 89) dX12_tryNear_88 rfl rfl ?_
    refine we_iload_n (p := 90) dX12_tryNear_89 rfl rfl ?_
    refine we_callS_int (p := 93) (k' := 0) (a := [.int u, .int (nI j)]) (rr := []) dX12_tryNear_90 rfl rfl rfl rfl rfl (rc_st rfl) (Nat.le_of_ble_eq_true rfl) (Nat.le_of_ble_eq_true rfl) (by omega) (y_hasBit  ) (Or.inl rfl) rfl ?_
    refine we_if_ne (t := 127) (p := 96) dX12_tryNear_93 (by decide) rfl rfl (fun hc93 => ?_) (fun hc93 => ?_)
    · skip
      refine we_iinc (ls1 := [.ref 95, .int x, .int u, .int ((nI j) + 1)]) (p := 130) dX12_tryNear_127 rfl rfl rfl ?_
      refine we_goto (p := 78) dX12_tryNear_130 (by decide) rfl ?_
      rw [nI_1]
      refine (y_tryNear_L hF hW hS hx hk hrow m (j + 1) I a (by omega) hM hg hr).mono ?_
      rw [gN_s, nr_no (by simp [hc93])]
      exact fun _ _ z => z
    · skip
      refine we_aload_n (p := 97) dX12_tryNear_96 rfl rfl ?_
      refine we_iload_n (p := 98) dX12_tryNear_97 rfl rfl ?_
      refine we_iload_n (p := 99) dX12_tryNear_98 rfl rfl ?_
      refine we_callV_int (p := 102) (k' := 2) (a := [.ref 95, .int x, .int (nI j)]) (rr := []) dX12_tryNear_99 rfl rfl rfl rfl (rc_of rfl rfl (by decide) ⟨rfl, by decide⟩) (Nat.le_of_ble_eq_true rfl) (Nat.le_of_ble_eq_true rfl) (by omega) (hx ▸ y_wasNear hF hM hW (k := k) (w := j) (by omega) (by omega)) (Or.inl rfl) rfl ?_
      refine we_if_ne (t := 108) (p := 105) dX12_tryNear_102 (by decide) rfl rfl (fun hc102 => ?_) (fun hc102 => ?_)
      · skip
        refine we_aload_n (p := 109) dX12_tryNear_108 rfl rfl ?_
        refine we_getR (c := 11) (j := 31) (n := 37) (b := 108) (p := 112) dX12_tryNear_109 rfl rfl (by decide) (by decide) rfl (r_95_31 hF) rfl ?_
        refine we_iload_n (p := 113) dX12_tryNear_112 rfl rfl ?_
        refine we_iload_n (p := 114) dX12_tryNear_113 rfl rfl ?_
        refine wf_iast (n := 4) (i := k) (p := 115) dX12_tryNear_114 rfl (by decide) (in_ix hx (by omega) (by decide)) (cl_ix hx (by omega)) rfl ?_
        refine we_aload_n (p := 116) dX12_tryNear_115 rfl rfl ?_
        refine we_iload_n (p := 117) dX12_tryNear_116 rfl rfl ?_
        refine we_iconst (v := 1) (p := 118) dX12_tryNear_117 (by decide) rfl ?_
        refine we_iadd (p := 119) dX12_tryNear_118 rfl ?_
        refine we_iload_n (p := 120) dX12_tryNear_119 rfl rfl ?_
        refine we_iconst (v := 1) (p := 121) dX12_tryNear_120 (by decide) rfl ?_
        refine we_iload_n (p := 122) dX12_tryNear_121 rfl rfl ?_
        refine we_ishl (p := 123) dX12_tryNear_122 rfl ?_
        refine we_ior (p := 124) dX12_tryNear_123 rfl ?_
        obtain ⟨_, _, e1, rfl, I1, J1, F1, rfl, ⟨f1, rfl, rfl, g1, r1⟩⟩ := hS (k + 1) (x + 1) (u ||| bit j) (upN row k j) a (hp_u I 108 k (nI j)) (by rw [hx, nI_1]) (by omega) (oM_u hM (by decide)) (gM_u hg (by omega)) (gR_up hr) (up8 hrow (by omega))
        refine we_callV_v (p := 127) (k' := (d + 3)) (a := [.ref 95, .int (x + 1), .int (u ||| (1 <<< ((nI j) &&& 31)))]) (rr := []) dX12_tryNear_124 rfl rfl rfl rfl (rc_of rfl rfl (by decide) ⟨rfl, by decide⟩) (Nat.le_of_ble_eq_true rfl) (Nat.le_of_ble_eq_true rfl) (by omega) e1 (Or.inl rfl) rfl ?_
        refine we_iinc (ls1 := [.ref 95, .int x, .int u, .int ((nI j) + 1)]) (p := 130) dX12_tryNear_127 rfl rfl rfl ?_
        refine we_goto (p := 78) dX12_tryNear_130 (by decide) rfl ?_
        rw [nI_1]
        refine (y_tryNear_L hF hW hS hx hk hrow m (j + 1) I1 _ (by omega) (oM_fr hM ((f1.1 98 (by omega) (by omega)).trans (hu_ne (by omega)))) g1 (gR_dn r1)).mono ?_
        rw [gN_s, nr_yes ⟨hc93, hc102⟩]
        rintro r h ⟨h1, I2, J2, F2, h2, h3, h4, h5, h6, h7⟩
        exact ⟨h1, I2, J2, F2, h2, ((Fm.rf.u (by omega) (by omega) (by omega)).tr f1).tr h3, h4, h5, h6, h7⟩
      · skip
        refine we_goto (p := 127) dX12_tryNear_105 (by decide) rfl ?_
        refine we_iinc (ls1 := [.ref 95, .int x, .int u, .int ((nI j) + 1)]) (p := 130) dX12_tryNear_127 rfl rfl rfl ?_
        refine we_goto (p := 78) dX12_tryNear_130 (by decide) rfl ?_
        rw [nI_1]
        refine (y_tryNear_L hF hW hS hx hk hrow m (j + 1) I a (by omega) hM hg hr).mono ?_
        rw [gN_s, nr_no (by simp [hc93, hc102])]
        exact fun _ _ z => z
set_option maxRecDepth 10000 in
theorem y_tryNear {J : Nat → Nat → Int64} {F : Nat → Nat → Option Nat} {nc ns : Nat} {D : oD} (hF : RFok F) (hW : WF D) : ∀ d, ∀ (k : Nat) (x u : Int32) (row : Nat → Nat) (a : gA) (I : Nat → Nat → Int32), x = nI k → k + d = dN D 6 → oM I 98 D → gM (dN D 6) I a → gR I 108 row k → (∀ i, i < k → row i < 8) → Ew (d + 3) mX12_tryNear 0 [.ref 95, .int x, .int u, .null] [] ((SH, nc, ns), I, J, F) (Ret nc ns none (fun I' J' F' => Fm 108 111 34 35 I I' ∧ J' = J ∧ F' = F ∧ gM (dN D 6) I' (nrS D (dN D 6) d k u row a) ∧ gR I' 108 row k))
  | 0 => by
    intro k x u row a I hx hk hM hg hr hrow
    have hD := hW.c
    have hH := hW.h
    have hT := hW.t
    have bt := hT.2
    obtain ⟨b0, b1, b2, b3, b4, b5, b6⟩ := hD.2
    refine we_iload_n (p := 1) dX12_tryNear_0 rfl rfl ?_
    refine we_aload_n (p := 2) dX12_tryNear_1 rfl rfl ?_
    refine we_getR (c := 11) (j := 15) (n := 37) (b := 98) (p := 5) dX12_tryNear_2 rfl rfl (by decide) (by decide) rfl (r_95_15 hF) rfl ?_
    refine we_bipush (v := 8) (p := 7) dX12_tryNear_5 (by decide) rfl ?_
    refine wf_iald (n := 276) (i := 8) (v := nI (dN D 6)) (p := 8) dX12_tryNear_7 rfl (by decide) (by decide) (by decide) (mNn (i := 6) hM hD (by decide)) rfl ?_
    refine we_icmp_ne (t := 76) (p := 11) dX12_tryNear_8 (by decide) rfl rfl (fun hc8 => absurd (by rw [hx, show k = dN D 6 by omega]) hc8) (fun hc8 => ?_)
    refine we_aload_n (p := 12) dX12_tryNear_11 rfl rfl ?_
    refine wf_getI (c := 11) (j := 34) (n := 37) (v := a.1) (p := 15) dX12_tryNear_12 rfl rfl (by decide) (by decide) (Or.inl rfl) hg.1 rfl ?_
    refine we_if_ne (t := 32) (p := 18) dX12_tryNear_15 (by decide) rfl rfl (fun hc15 => ?_) (fun hc15 => ?_)
    · skip
      refine we_aload_n (p := 33) dX12_tryNear_32 rfl rfl ?_
      refine we_dup_ref (p := 34) dX12_tryNear_33 rfl ?_
      refine wf_getI (c := 11) (j := 34) (n := 37) (v := a.1) (p := 37) dX12_tryNear_34 rfl rfl (by decide) (by decide) (Or.inl rfl) hg.1 rfl ?_
      refine we_iconst (v := 1) (p := 38) dX12_tryNear_37 (by decide) rfl ?_
      refine we_iadd (p := 39) dX12_tryNear_38 rfl ?_
      refine we_putI (c := 11) (j := 34) (n := 37)  (p := 42) dX12_tryNear_39 rfl rfl (by decide) (by decide) rfl rfl rfl ?_
      refine we_iconst (v := 0) (p := 43) dX12_tryNear_42 (by decide) rfl ?_
      refine we_istore_n (ls1 := [.ref 95, .int x, .int u, .int 0]) (p := 44) dX12_tryNear_43 rfl rfl ?_
      have q109 : ∀ i, i < dN D 6 → (hp_u I 95 34 (a.1 + 1)) 109 i = (setS (dN D 6) row a).2.1 i := (fun i hi => (congrFun (hu_ne (by decide)) i).trans ((hg.2.1 i hi).trans (by simp [setS, hc15])))
      have q110 : ∀ i, i < 4 → ∀ w, w < 8 → (hp_u I 95 34 (a.1 + 1)) 110 (8 * i + w) = (fun i w => if i < 0 ∧ w = row i then a.2.2 i w + 1 else a.2.2 i w) i w := (fun i hi w hw => (congrFun (hu_ne (by decide)) _).trans ((hg.2.2 i hi w hw).trans (by simp)))
      have q108 : gR (hp_u I 95 34 (a.1 + 1)) 108 row (dN D 6) := (fun i hi => (congrFun (hu_ne (by decide)) i).trans ((hr i (by omega))))
      have qf : Fm 108 111 34 35 I (hp_u I 95 34 (a.1 + 1)) := (Fm.rf.f (by omega) (by omega))
      have q34 : (hp_u I 95 34 (a.1 + 1)) 95 34 = a.1 + 1 := hu_eq
      refine y_often (N := dN D 6) (a := a) (row := row) hF (hx.trans (by rw [show k = dN D 6 by omega])) b6 q108 (fun i hi => hrow i (by omega)) (dN D 6) 0 _ (by omega) ⟨Fr.rf, q110⟩ (fun I3 hI3 => ?_)
      exact wv_ret dX12_tryNear_75 rfl (⟨rfl, _, _, _, rfl, qf.tr ⟨fun p h1 h2 => hI3.1 p (by omega), fun j h1 => congrFun (hI3.1 95 (by omega)) j⟩, rfl, rfl, ⟨(congrFun (hI3.1 95 (by omega)) 34).trans q34, fun i hi => (congrFun (hI3.1 109 (by omega)) i).trans (q109 i hi), hI3.2⟩, fun i hi => (congrFun (hI3.1 108 (by omega)) i).trans (q108 i (by omega))⟩)
    · skip
      refine we_aload_n (p := 19) dX12_tryNear_18 rfl rfl ?_
      refine we_getR (c := 11) (j := 31) (n := 37) (b := 108) (p := 22) dX12_tryNear_19 rfl rfl (by decide) (by decide) rfl (r_95_31 hF) rfl ?_
      refine we_iconst (v := 0) (p := 23) dX12_tryNear_22 (by decide) rfl ?_
      refine we_aload_n (p := 24) dX12_tryNear_23 rfl rfl ?_
      refine we_getR (c := 11) (j := 32) (n := 37) (b := 109) (p := 27) dX12_tryNear_24 rfl rfl (by decide) (by decide) rfl (r_95_32 hF) rfl ?_
      refine we_iconst (v := 0) (p := 28) dX12_tryNear_27 (by decide) rfl ?_
      refine we_iload_n (p := 29) dX12_tryNear_28 rfl rfl ?_
      refine we_callS_v (p := 32) (k' := 0) (a := [.ref 108, .int 0, .ref 109, .int 0, .int x]) (rr := []) dX12_tryNear_29 rfl rfl rfl rfl rfl (rc_st rfl) (Nat.le_of_ble_eq_true rfl) (Nat.le_of_ble_eq_true rfl) (by omega) (y_copyE (p := 108) (a := 0) (q := 109) (b := 0) (n := k) rfl (by decide) rfl (by decide) (by decide) (by omega) (by omega) (by decide) (by decide) rfl rfl hx) (Or.inl rfl) rfl ?_
      refine we_aload_n (p := 33) dX12_tryNear_32 rfl rfl ?_
      refine we_dup_ref (p := 34) dX12_tryNear_33 rfl ?_
      refine wf_getI (c := 11) (j := 34) (n := 37) (v := a.1) (p := 37) dX12_tryNear_34 rfl rfl (by decide) (by decide) (Or.inl rfl) ((congrFun (cp_ne (by decide)) 34).trans hg.1) rfl ?_
      refine we_iconst (v := 1) (p := 38) dX12_tryNear_37 (by decide) rfl ?_
      refine we_iadd (p := 39) dX12_tryNear_38 rfl ?_
      refine we_putI (c := 11) (j := 34) (n := 37)  (p := 42) dX12_tryNear_39 rfl rfl (by decide) (by decide) rfl rfl rfl ?_
      refine we_iconst (v := 0) (p := 43) dX12_tryNear_42 (by decide) rfl ?_
      refine we_istore_n (ls1 := [.ref 95, .int x, .int u, .int 0]) (p := 44) dX12_tryNear_43 rfl rfl ?_
      have q109 : ∀ i, i < dN D 6 → (hp_u (cpI I 108 0 109 0 k) 95 34 (a.1 + 1)) 109 i = (setS (dN D 6) row a).2.1 i := (fun i hi => (congrFun (hu_ne (by decide)) i).trans ((cp_in (by omega) (by omega)).trans (by simp only [Nat.zero_add, Nat.sub_zero]; exact (hr i (by omega)).trans (by simp [setS, hc15, hi]))))
      have q110 : ∀ i, i < 4 → ∀ w, w < 8 → (hp_u (cpI I 108 0 109 0 k) 95 34 (a.1 + 1)) 110 (8 * i + w) = (fun i w => if i < 0 ∧ w = row i then a.2.2 i w + 1 else a.2.2 i w) i w := (fun i hi w hw => (congrFun (hu_ne (by decide)) _).trans ((congrFun (cp_ne (by decide)) _).trans <| (hg.2.2 i hi w hw).trans (by simp)))
      have q108 : gR (hp_u (cpI I 108 0 109 0 k) 95 34 (a.1 + 1)) 108 row (dN D 6) := (fun i hi => (congrFun (hu_ne (by decide)) i).trans ((congrFun (cp_ne (by decide)) i).trans <| (hr i (by omega))))
      have qf : Fm 108 111 34 35 I (hp_u (cpI I 108 0 109 0 k) 95 34 (a.1 + 1)) := ((cp_Fm (by decide) (by decide) (by decide)).f (by omega) (by omega))
      have q34 : (hp_u (cpI I 108 0 109 0 k) 95 34 (a.1 + 1)) 95 34 = a.1 + 1 := hu_eq
      refine y_often (N := dN D 6) (a := a) (row := row) hF (hx.trans (by rw [show k = dN D 6 by omega])) b6 q108 (fun i hi => hrow i (by omega)) (dN D 6) 0 _ (by omega) ⟨Fr.rf, q110⟩ (fun I3 hI3 => ?_)
      exact wv_ret dX12_tryNear_75 rfl (⟨rfl, _, _, _, rfl, qf.tr ⟨fun p h1 h2 => hI3.1 p (by omega), fun j h1 => congrFun (hI3.1 95 (by omega)) j⟩, rfl, rfl, ⟨(congrFun (hI3.1 95 (by omega)) 34).trans q34, fun i hi => (congrFun (hI3.1 109 (by omega)) i).trans (q109 i hi), hI3.2⟩, fun i hi => (congrFun (hI3.1 108 (by omega)) i).trans (q108 i (by omega))⟩)
  | d + 1 => by
    intro k x u row a I hx hk hM hg hr hrow
    have hD := hW.c
    have hH := hW.h
    have hT := hW.t
    have bt := hT.2
    obtain ⟨b0, b1, b2, b3, b4, b5, b6⟩ := hD.2
    refine we_iload_n (p := 1) dX12_tryNear_0 rfl rfl ?_
    refine we_aload_n (p := 2) dX12_tryNear_1 rfl rfl ?_
    refine we_getR (c := 11) (j := 15) (n := 37) (b := 98) (p := 5) dX12_tryNear_2 rfl rfl (by decide) (by decide) rfl (r_95_15 hF) rfl ?_
    refine we_bipush (v := 8) (p := 7) dX12_tryNear_5 (by decide) rfl ?_
    refine wf_iald (n := 276) (i := 8) (v := nI (dN D 6)) (p := 8) dX12_tryNear_7 rfl (by decide) (by decide) (by decide) (mNn (i := 6) hM hD (by decide)) rfl ?_
    refine we_icmp_ne (t := 76) (p := 11) dX12_tryNear_8 (by decide) rfl rfl (fun hc8 => ?_) (fun hc8 => absurd hc8 (by rw [hx]; exact fun z => absurd ((nI_eq (by omega) (by omega)).mp z) (by omega)))
    refine we_iconst (v := 0) (p := 77) dX12_tryNear_76 (by decide) rfl ?_
    refine we_istore_n (ls1 := [.ref 95, .int x, .int u, .int 0]) (p := 78) dX12_tryNear_77 rfl rfl ?_
    exact y_tryNear_L hF hW (y_tryNear hF hW d) hx hk hrow (dN D 2) 0 I a (by omega) hM hg hr
