/-! Class and reference side by side: what is told of them, seed, acts. -/
def Cq (x : sg) (kC kM : Nat) (mC mM : ev_M) (aC aM : List Value) : Prop := ∃ v y, WD y ∧ (∀ I J F nc ns, CR I J F x → Ew kC mC 0 (.ref 0 :: aC) [] ((SH, nc, ns), I, J, F) (Ret nc ns (some v) (fun I' J' F' => CR I' J' F' y ∧ fC I I' J J' F F'))) ∧
  ∀ I J F nc ns, RFok F → MR I x → Ew kM mM 0 (.ref 95 :: aM) [] ((SH, nc, ns), I, J, F) (Ret nc ns (some v) (fun I' J' F' => MR I' y ∧ fM2 I I' J J' F F'))
section
variable {I I' : Nat → Nat → Int32} {J J' : Nat → Nat → Int64} {F F' : Nat → Nat → Option Nat} {D : oD} {s : Nat → Int32} {K : Nat} {U : Nat → Nat → Int32} {M : Nat} {V : Nat → Nat → Int32} {L : Nat} {T : Nat → Nat} {t f p pm : Int32} {t' : Int32} {kC kM : Nat} {mC mM : ev_M} {aC aM : List Value} {v : Value}
theorem fC.rf : fC I I J J F F := fun _ _ => ⟨rfl, rfl, rfl⟩
theorem fM2.rf : fM2 I I J J F F := ⟨rfl, fun _ _ => ⟨rfl, rfl⟩⟩
theorem CRe.ut (h : CRe I J F D s K U M V L T t f p) (hK : K ≤ 16) (hM : M ≤ 3) : CRe (hp_u I 0 10 t') J F D s K U M V L T t' f p := h.fr hK hM (fun k h1 _ => hu_ne h1) hu_eq (hu_nj (by decide)) (hu_nj (by decide)) rfl rfl
theorem MRe.ut (h : MRe I D s K U M V L T t f p) : MRe (hp_u (hp_u I 95 0 0) 95 11 t') D s K U M V L T t' f p := h.fr (fun k hk => by rw [hu_ne (by omega), hu_ne (by omega)]) (by rw [hu_nj (by decide), hu_nj (by decide)]) (by rw [hu_nj (by decide), hu_nj (by decide)]) (by rw [hu_nj (by decide), hu_nj (by decide)]) (by rw [hu_nj (by decide), hu_nj (by decide)]) (by rw [hu_nj (by decide), hu_nj (by decide)]) (by rw [hu_nj (by decide), hu_nj (by decide)]) hu_eq
theorem MRe.uz {x : Int32} (h : MRe I D s K U M V L T t f p) : MRe (hp_u I 95 0 x) D s K U M V L T t f p := h.fr (fun k hk => by rw [hu_ne (by omega)]) (by rw [hu_nj (by decide)]) (by rw [hu_nj (by decide)]) (by rw [hu_nj (by decide)]) (by rw [hu_nj (by decide)]) (by rw [hu_nj (by decide)]) (by rw [hu_nj (by decide)]) (by rw [hu_nj (by decide)]; exact h.2.2.2.2.2.2.2.2.2.1)
theorem fC.u0 {j : Nat} {x : Int32} (h : fC I I' J J' F F') : fC I (hp_u I' 0 j x) J J' F F' := fun k hk => ⟨(hu_ne (by omega)).trans (h k hk).1, (h k hk).2⟩
theorem fM2.u {j : Nat} {x : Int32} (h : fM2 I I' J J' F F') : fM2 I (hp_u I' 95 j x) J J' F F' := ⟨h.1, fun k hk => ⟨(hu_ne (by omega)).trans (h.2 k hk).1, (h.2 k hk).2⟩⟩
/-- refused: trouble t' on both sides -/
theorem Cq.no (hw : WDe D s K U M V L T t p pm) (h4 : ¬ t' = 4) (hc : ∀ I J F nc ns, CRe I J F D s K U M V L T t f p → Ev kC mC 0 (.ref 0 :: aC) [] ((SH, nc, ns), I, J, F) (some v) ((SH, nc, ns), hp_u I 0 10 t', J, F))
    (hm : ∀ I J F nc ns, RFok F → MRe I D s K U M V L T t f pm → Ev kM mM 0 (.ref 95 :: aM) [] ((SH, nc, ns), I, J, F) (some v) ((SH, nc, ns), hp_u (hp_u I 95 0 0) 95 11 t', J, F)) : Cq (D, s, K, U, M, V, L, T, t, f, p, pm) kC kM mC mM aC aM :=
  ⟨v, (D, s, K, U, M, V, L, T, t', f, p, pm), hw.tr h4, fun I J F nc ns hC => (hc I J F nc ns hC).ret2 ⟨CRe.ut hC hw.2.2.1 hw.2.2.2.2.1, fC.rf.u0⟩, fun I J F nc ns hF hM => (hm I J F nc ns hF hM).ret2 ⟨MRe.ut hM, fM2.rf.u.u⟩⟩
/-- nothing changes -/
theorem Cq.pl (hw : WDe D s K U M V L T t p pm) (hc : ∀ I J F nc ns, CRe I J F D s K U M V L T t f p → Ev kC mC 0 (.ref 0 :: aC) [] ((SH, nc, ns), I, J, F) (some v) ((SH, nc, ns), I, J, F))
    (hm : ∀ I J F nc ns, RFok F → MRe I D s K U M V L T t f pm → Ev kM mM 0 (.ref 95 :: aM) [] ((SH, nc, ns), I, J, F) (some v) ((SH, nc, ns), hp_u I 95 0 0, J, F)) : Cq (D, s, K, U, M, V, L, T, t, f, p, pm) kC kM mC mM aC aM :=
  ⟨v, (D, s, K, U, M, V, L, T, t, f, p, pm), hw, fun I J F nc ns hC => (hc I J F nc ns hC).ret2 ⟨hC, fC.rf⟩, fun I J F nc ns hF hM => (hm I J F nc ns hF hM).ret2 ⟨MRe.uz hM, fM2.rf.u⟩⟩
end
theorem k_fault : Cl 0 0 mX11_fault mX12_fault [] [] := by
  rintro ⟨D, s, K, U, M, V, L, T, t, f, p, pm⟩ hw
  exact Cq.pl (v := .int f) hw (fun I J F nc ns ⟨o, q, g1, g2, g3, g4, g5, g6, g7, g8, g9, g10, g11, g12, g13, g14, g15, g16, g17, g18⟩ => Ev.res (by rw [g16]) c_fault) (fun I J F nc ns hF ⟨m1, m2, m3, m4, m5, m6, m7, m8, m9, m10, m11, m12⟩ => Ev.res (by rw [m11]) (q_fault hF))
theorem k_trouble : Cl 0 0 mX11_trouble mX12_trouble [] [] := by
  rintro ⟨D, s, K, U, M, V, L, T, t, f, p, pm⟩ hw
  exact Cq.pl (v := .int t) hw (fun I J F nc ns ⟨o, q, g1, g2, g3, g4, g5, g6, g7, g8, g9, g10, g11, g12, g13, g14, g15, g16, g17, g18⟩ => Ev.res (by rw [g15]) c_trouble) (fun I J F nc ns hF ⟨m1, m2, m3, m4, m5, m6, m7, m8, m9, m10, m11, m12⟩ => Ev.res (by rw [m10]) (q_trouble hF))
theorem k_where : Cl 0 0 mX11_where mX12_where [] [] := by
  rintro ⟨D, s, K, U, M, V, L, T, t, f, p, pm⟩ hw
  have h4 : t = 4 → p = pm := hw.2.2.2.2.2.2.2.2.2
  refine Cq.pl (v := .int (if t = 4 then p else -1)) hw (fun I J F nc ns ⟨o, q, g1, g2, g3, g4, g5, g6, g7, g8, g9, g10, g11, g12, g13, g14, g15, g16, g17, g18⟩ => Ev.res (by rw [g15, g17]) c_where) (fun I J F nc ns hF ⟨m1, m2, m3, m4, m5, m6, m7, m8, m9, m10, m11, m12⟩ => Ev.res ?_ (q_where hF))
  rw [m10, m12]
  by_cases c : t = 4
  · rw [if_pos c, if_pos c, h4 c]
  · rw [if_neg c, if_neg c]
theorem tol0 {D : oD} (hW : WF D) (h : tol D = 0) : D 0 0 = 0 ∧ ∀ i, i < 7 → dN D i = 0 := by
  rcases hW.u with z | ⟨-, z, -⟩
  · exact z
  · have := tol_0 hW h (i := 0) (by omega)
    omega
theorem k_size {x : Int32} : Cl 1 1 mX11_size mX12_size [.int x] [.int x] := by
  rintro ⟨D, s, K, U, M, V, L, T, t, f, p, pm⟩ hw
  obtain ⟨hW, hS, -, -, -, -, -, -, hz, -⟩ := id hw
  by_cases c15 : x = 15
  · subst c15
    exact Cq.pl (v := .int (nI L)) hw (fun I J F nc ns ⟨o, q, g1, g2, g3, g4, g5, g6, g7, g8, g9, g10, g11, g12, g13, g14, g15, g16, g17, g18⟩ => Ev.res (by rw [g13]) (c_size_15 g1 g4 g5 g7 hW g8 hS)) (fun I J F nc ns hF ⟨m1, m2, m3, m4, m5, m6, m7, m8, m9, m10, m11, m12⟩ => Ev.res (by rw [m8]) (q_size_15 hF m1 hW m2 m3))
  by_cases c14 : inS x 0 14 = 0
  · rcases tol_01 (D := D) with h | h
    · exact Cq.pl (v := .int (-1)) hw (fun I J F nc ns ⟨o, q, g1, g2, g3, g4, g5, g6, g7, g8, g9, g10, g11, g12, g13, g14, g15, g16, g17, g18⟩ => c_size_o g1 g4 g5 g7 hW g8 hS c15 c14) (fun I J F nc ns hF ⟨m1, m2, m3, m4, m5, m6, m7, m8, m9, m10, m11, m12⟩ => q_size_uo hF m1 hW m2 m3 h c15 c14)
    · exact Cq.pl (v := .int (-1)) hw (fun I J F nc ns ⟨o, q, g1, g2, g3, g4, g5, g6, g7, g8, g9, g10, g11, g12, g13, g14, g15, g16, g17, g18⟩ => c_size_o g1 g4 g5 g7 hW g8 hS c15 c14) (fun I J F nc ns hF ⟨m1, m2, m3, m4, m5, m6, m7, m8, m9, m10, m11, m12⟩ => q_size_to hF m1 hW m2 m3 h c15 c14)
  obtain ⟨n, -, hn, rfl⟩ := nu_of (v := x) (a := 0) (b := 14) (by omega) (by omega) (by rw [nu_in]; exact if_neg c14)
  rcases tol_01 (D := D) with h | h
  · obtain ⟨z1, z2, z3, z4, z5, z6⟩ := hz h
    obtain ⟨d0, dn⟩ := tol0 hW h
    have zt : tN D = 0 := by unfold tN; rw [z1]; rfl
    rcases (by omega : n = 0 ∨ n = 1 ∨ n = 2 ∨ n = 3 ∨ n = 4 ∨ n = 5 ∨ n = 6 ∨ n = 7 ∨ n = 8 ∨ n = 9 ∨ n = 10 ∨ n = 11 ∨ n = 12 ∨ n = 13 ∨ n = 14) with rfl | rfl | rfl | rfl | rfl | rfl | rfl | rfl | rfl | rfl | rfl | rfl | rfl | rfl | rfl
    · exact Cq.pl (v := .int 0) hw (fun I J F nc ns ⟨o, q, g1, g2, g3, g4, g5, g6, g7, g8, g9, g10, g11, g12, g13, g14, g15, g16, g17, g18⟩ => Ev.res (by rw [d0]) (c_size_0 g1 g4 g5 g7 hW g8 hS)) (fun I J F nc ns hF ⟨m1, m2, m3, m4, m5, m6, m7, m8, m9, m10, m11, m12⟩ => q_size_u0 hF m1 hW m2 m3 h)
    · exact Cq.pl (v := .int 0) hw (fun I J F nc ns ⟨o, q, g1, g2, g3, g4, g5, g6, g7, g8, g9, g10, g11, g12, g13, g14, g15, g16, g17, g18⟩ => Ev.res (by rw [zt]; rfl) (c_size_1 g1 g4 g5 g7 hW g8 hS)) (fun I J F nc ns hF ⟨m1, m2, m3, m4, m5, m6, m7, m8, m9, m10, m11, m12⟩ => q_size_u1 hF m1 hW m2 m3 h)
    · exact Cq.pl (v := .int 0) hw (fun I J F nc ns ⟨o, q, g1, g2, g3, g4, g5, g6, g7, g8, g9, g10, g11, g12, g13, g14, g15, g16, g17, g18⟩ => Ev.res (by rw [dn 0 (by omega)]; rfl) (c_size_2 g1 g4 g5 g7 hW g8 hS)) (fun I J F nc ns hF ⟨m1, m2, m3, m4, m5, m6, m7, m8, m9, m10, m11, m12⟩ => q_size_u2 hF m1 hW m2 m3 h)
    · exact Cq.pl (v := .int 0) hw (fun I J F nc ns ⟨o, q, g1, g2, g3, g4, g5, g6, g7, g8, g9, g10, g11, g12, g13, g14, g15, g16, g17, g18⟩ => Ev.res (by rw [dn 1 (by omega)]; rfl) (c_size_3 g1 g4 g5 g7 hW g8 hS)) (fun I J F nc ns hF ⟨m1, m2, m3, m4, m5, m6, m7, m8, m9, m10, m11, m12⟩ => q_size_u3 hF m1 hW m2 m3 h)
    · exact Cq.pl (v := .int 0) hw (fun I J F nc ns ⟨o, q, g1, g2, g3, g4, g5, g6, g7, g8, g9, g10, g11, g12, g13, g14, g15, g16, g17, g18⟩ => Ev.res (by rw [dn 2 (by omega)]; rfl) (c_size_4 g1 g4 g5 g7 hW g8 hS)) (fun I J F nc ns hF ⟨m1, m2, m3, m4, m5, m6, m7, m8, m9, m10, m11, m12⟩ => q_size_u4 hF m1 hW m2 m3 h)
    · exact Cq.pl (v := .int 0) hw (fun I J F nc ns ⟨o, q, g1, g2, g3, g4, g5, g6, g7, g8, g9, g10, g11, g12, g13, g14, g15, g16, g17, g18⟩ => Ev.res (by rw [dn 3 (by omega)]; rfl) (c_size_5 g1 g4 g5 g7 hW g8 hS)) (fun I J F nc ns hF ⟨m1, m2, m3, m4, m5, m6, m7, m8, m9, m10, m11, m12⟩ => q_size_u5 hF m1 hW m2 m3 h)
    · exact Cq.pl (v := .int 0) hw (fun I J F nc ns ⟨o, q, g1, g2, g3, g4, g5, g6, g7, g8, g9, g10, g11, g12, g13, g14, g15, g16, g17, g18⟩ => Ev.res (by rw [dn 4 (by omega)]; rfl) (c_size_6 g1 g4 g5 g7 hW g8 hS)) (fun I J F nc ns hF ⟨m1, m2, m3, m4, m5, m6, m7, m8, m9, m10, m11, m12⟩ => q_size_u6 hF m1 hW m2 m3 h)
    · exact Cq.pl (v := .int 0) hw (fun I J F nc ns ⟨o, q, g1, g2, g3, g4, g5, g6, g7, g8, g9, g10, g11, g12, g13, g14, g15, g16, g17, g18⟩ => Ev.res (by rw [dn 5 (by omega)]; rfl) (c_size_7 g1 g4 g5 g7 hW g8 hS)) (fun I J F nc ns hF ⟨m1, m2, m3, m4, m5, m6, m7, m8, m9, m10, m11, m12⟩ => q_size_u7 hF m1 hW m2 m3 h)
    · exact Cq.pl (v := .int 0) hw (fun I J F nc ns ⟨o, q, g1, g2, g3, g4, g5, g6, g7, g8, g9, g10, g11, g12, g13, g14, g15, g16, g17, g18⟩ => Ev.res (by rw [dn 6 (by omega)]; rfl) (c_size_8 g1 g4 g5 g7 hW g8 hS)) (fun I J F nc ns hF ⟨m1, m2, m3, m4, m5, m6, m7, m8, m9, m10, m11, m12⟩ => q_size_u8 hF m1 hW m2 m3 h)
    · exact Cq.pl (v := .int 0) hw (fun I J F nc ns ⟨o, q, g1, g2, g3, g4, g5, g6, g7, g8, g9, g10, g11, g12, g13, g14, g15, g16, g17, g18⟩ => Ev.res (by rw [z2]) (c_size_9 g1 g4 g5 g7 hW g8 hS)) (fun I J F nc ns hF ⟨m1, m2, m3, m4, m5, m6, m7, m8, m9, m10, m11, m12⟩ => q_size_u9 hF m1 hW m2 m3 h)
    · exact Cq.pl (v := .int 0) hw (fun I J F nc ns ⟨o, q, g1, g2, g3, g4, g5, g6, g7, g8, g9, g10, g11, g12, g13, g14, g15, g16, g17, g18⟩ => Ev.res (by rw [z3]) (c_size_10 g1 g4 g5 g7 hW g8 hS)) (fun I J F nc ns hF ⟨m1, m2, m3, m4, m5, m6, m7, m8, m9, m10, m11, m12⟩ => q_size_u10 hF m1 hW m2 m3 h)
    · exact Cq.pl (v := .int 0) hw (fun I J F nc ns ⟨o, q, g1, g2, g3, g4, g5, g6, g7, g8, g9, g10, g11, g12, g13, g14, g15, g16, g17, g18⟩ => Ev.res (by rw [if_pos h]) (c_size_11 g1 g4 g5 g7 hW g8 hS)) (fun I J F nc ns hF ⟨m1, m2, m3, m4, m5, m6, m7, m8, m9, m10, m11, m12⟩ => q_size_u11 hF m1 hW m2 m3 h)
    · exact Cq.pl (v := .int 0) hw (fun I J F nc ns ⟨o, q, g1, g2, g3, g4, g5, g6, g7, g8, g9, g10, g11, g12, g13, g14, g15, g16, g17, g18⟩ => Ev.res (by rw [z4]) (c_size_12 g1 g4 g5 g7 hW g8 hS)) (fun I J F nc ns hF ⟨m1, m2, m3, m4, m5, m6, m7, m8, m9, m10, m11, m12⟩ => q_size_u12 hF m1 hW m2 m3 h)
    · exact Cq.pl (v := .int 0) hw (fun I J F nc ns ⟨o, q, g1, g2, g3, g4, g5, g6, g7, g8, g9, g10, g11, g12, g13, g14, g15, g16, g17, g18⟩ => Ev.res (by rw [g9, z5]; rfl) (c_size_13 g1 g4 g5 g7 hW g8 hS)) (fun I J F nc ns hF ⟨m1, m2, m3, m4, m5, m6, m7, m8, m9, m10, m11, m12⟩ => q_size_u13 hF m1 hW m2 m3 h)
    · exact Cq.pl (v := .int 0) hw (fun I J F nc ns ⟨o, q, g1, g2, g3, g4, g5, g6, g7, g8, g9, g10, g11, g12, g13, g14, g15, g16, g17, g18⟩ => Ev.res (by rw [g10, z6]; rfl) (c_size_14 g1 g4 g5 g7 hW g8 hS)) (fun I J F nc ns hF ⟨m1, m2, m3, m4, m5, m6, m7, m8, m9, m10, m11, m12⟩ => q_size_u14 hF m1 hW m2 m3 h)
  · rcases (by omega : n = 0 ∨ n = 1 ∨ n = 2 ∨ n = 3 ∨ n = 4 ∨ n = 5 ∨ n = 6 ∨ n = 7 ∨ n = 8 ∨ n = 9 ∨ n = 10 ∨ n = 11 ∨ n = 12 ∨ n = 13 ∨ n = 14) with rfl | rfl | rfl | rfl | rfl | rfl | rfl | rfl | rfl | rfl | rfl | rfl | rfl | rfl | rfl
    · exact Cq.pl (v := .int (D 0 0)) hw (fun I J F nc ns ⟨o, q, g1, g2, g3, g4, g5, g6, g7, g8, g9, g10, g11, g12, g13, g14, g15, g16, g17, g18⟩ => (c_size_0 g1 g4 g5 g7 hW g8 hS)) (fun I J F nc ns hF ⟨m1, m2, m3, m4, m5, m6, m7, m8, m9, m10, m11, m12⟩ => (q_size_t0 hF m1 hW m2 m3 h))
    · exact Cq.pl (v := .int (nI (tN D))) hw (fun I J F nc ns ⟨o, q, g1, g2, g3, g4, g5, g6, g7, g8, g9, g10, g11, g12, g13, g14, g15, g16, g17, g18⟩ => (c_size_1 g1 g4 g5 g7 hW g8 hS)) (fun I J F nc ns hF ⟨m1, m2, m3, m4, m5, m6, m7, m8, m9, m10, m11, m12⟩ => (q_size_t1 hF m1 hW m2 m3 h))
    · exact Cq.pl (v := .int (nI (dN D 0))) hw (fun I J F nc ns ⟨o, q, g1, g2, g3, g4, g5, g6, g7, g8, g9, g10, g11, g12, g13, g14, g15, g16, g17, g18⟩ => (c_size_2 g1 g4 g5 g7 hW g8 hS)) (fun I J F nc ns hF ⟨m1, m2, m3, m4, m5, m6, m7, m8, m9, m10, m11, m12⟩ => (q_size_t2 hF m1 hW m2 m3 h))
    · exact Cq.pl (v := .int (nI (dN D 1))) hw (fun I J F nc ns ⟨o, q, g1, g2, g3, g4, g5, g6, g7, g8, g9, g10, g11, g12, g13, g14, g15, g16, g17, g18⟩ => (c_size_3 g1 g4 g5 g7 hW g8 hS)) (fun I J F nc ns hF ⟨m1, m2, m3, m4, m5, m6, m7, m8, m9, m10, m11, m12⟩ => (q_size_t3 hF m1 hW m2 m3 h))
    · exact Cq.pl (v := .int (nI (dN D 2))) hw (fun I J F nc ns ⟨o, q, g1, g2, g3, g4, g5, g6, g7, g8, g9, g10, g11, g12, g13, g14, g15, g16, g17, g18⟩ => (c_size_4 g1 g4 g5 g7 hW g8 hS)) (fun I J F nc ns hF ⟨m1, m2, m3, m4, m5, m6, m7, m8, m9, m10, m11, m12⟩ => (q_size_t4 hF m1 hW m2 m3 h))
    · exact Cq.pl (v := .int (nI (dN D 3))) hw (fun I J F nc ns ⟨o, q, g1, g2, g3, g4, g5, g6, g7, g8, g9, g10, g11, g12, g13, g14, g15, g16, g17, g18⟩ => (c_size_5 g1 g4 g5 g7 hW g8 hS)) (fun I J F nc ns hF ⟨m1, m2, m3, m4, m5, m6, m7, m8, m9, m10, m11, m12⟩ => (q_size_t5 hF m1 hW m2 m3 h))
    · exact Cq.pl (v := .int (nI (dN D 4))) hw (fun I J F nc ns ⟨o, q, g1, g2, g3, g4, g5, g6, g7, g8, g9, g10, g11, g12, g13, g14, g15, g16, g17, g18⟩ => (c_size_6 g1 g4 g5 g7 hW g8 hS)) (fun I J F nc ns hF ⟨m1, m2, m3, m4, m5, m6, m7, m8, m9, m10, m11, m12⟩ => (q_size_t6 hF m1 hW m2 m3 h))
    · exact Cq.pl (v := .int (nI (dN D 5))) hw (fun I J F nc ns ⟨o, q, g1, g2, g3, g4, g5, g6, g7, g8, g9, g10, g11, g12, g13, g14, g15, g16, g17, g18⟩ => (c_size_7 g1 g4 g5 g7 hW g8 hS)) (fun I J F nc ns hF ⟨m1, m2, m3, m4, m5, m6, m7, m8, m9, m10, m11, m12⟩ => (q_size_t7 hF m1 hW m2 m3 h))
    · exact Cq.pl (v := .int (nI (dN D 6))) hw (fun I J F nc ns ⟨o, q, g1, g2, g3, g4, g5, g6, g7, g8, g9, g10, g11, g12, g13, g14, g15, g16, g17, g18⟩ => (c_size_8 g1 g4 g5 g7 hW g8 hS)) (fun I J F nc ns hF ⟨m1, m2, m3, m4, m5, m6, m7, m8, m9, m10, m11, m12⟩ => (q_size_t8 hF m1 hW m2 m3 h))
    · exact Cq.pl (v := .int (s 0)) hw (fun I J F nc ns ⟨o, q, g1, g2, g3, g4, g5, g6, g7, g8, g9, g10, g11, g12, g13, g14, g15, g16, g17, g18⟩ => (c_size_9 g1 g4 g5 g7 hW g8 hS)) (fun I J F nc ns hF ⟨m1, m2, m3, m4, m5, m6, m7, m8, m9, m10, m11, m12⟩ => (q_size_t9 hF m1 hW m2 m3 h))
    · exact Cq.pl (v := .int (s 1)) hw (fun I J F nc ns ⟨o, q, g1, g2, g3, g4, g5, g6, g7, g8, g9, g10, g11, g12, g13, g14, g15, g16, g17, g18⟩ => (c_size_10 g1 g4 g5 g7 hW g8 hS)) (fun I J F nc ns hF ⟨m1, m2, m3, m4, m5, m6, m7, m8, m9, m10, m11, m12⟩ => (q_size_t10 hF m1 hW m2 m3 h))
    · exact Cq.pl (v := .int (frS (s 2))) hw (fun I J F nc ns ⟨o, q, g1, g2, g3, g4, g5, g6, g7, g8, g9, g10, g11, g12, g13, g14, g15, g16, g17, g18⟩ => Ev.res (by rw [if_neg (by rw [h]; decide)]) (c_size_11 g1 g4 g5 g7 hW g8 hS)) (fun I J F nc ns hF ⟨m1, m2, m3, m4, m5, m6, m7, m8, m9, m10, m11, m12⟩ => (q_size_t11 hF m1 hW m2 m3 h))
    · exact Cq.pl (v := .int (s 3)) hw (fun I J F nc ns ⟨o, q, g1, g2, g3, g4, g5, g6, g7, g8, g9, g10, g11, g12, g13, g14, g15, g16, g17, g18⟩ => (c_size_12 g1 g4 g5 g7 hW g8 hS)) (fun I J F nc ns hF ⟨m1, m2, m3, m4, m5, m6, m7, m8, m9, m10, m11, m12⟩ => (q_size_t12 hF m1 hW m2 m3 h))
    · exact Cq.pl (v := .int (nI K)) hw (fun I J F nc ns ⟨o, q, g1, g2, g3, g4, g5, g6, g7, g8, g9, g10, g11, g12, g13, g14, g15, g16, g17, g18⟩ => Ev.res (by rw [g9]) (c_size_13 g1 g4 g5 g7 hW g8 hS)) (fun I J F nc ns hF ⟨m1, m2, m3, m4, m5, m6, m7, m8, m9, m10, m11, m12⟩ => Ev.res (by rw [m4]) (q_size_t13 hF m1 hW m2 m3 h))
    · exact Cq.pl (v := .int (nI M)) hw (fun I J F nc ns ⟨o, q, g1, g2, g3, g4, g5, g6, g7, g8, g9, g10, g11, g12, g13, g14, g15, g16, g17, g18⟩ => Ev.res (by rw [g10]) (c_size_14 g1 g4 g5 g7 hW g8 hS)) (fun I J F nc ns hF ⟨m1, m2, m3, m4, m5, m6, m7, m8, m9, m10, m11, m12⟩ => Ev.res (by rw [m5]) (q_size_t14 hF m1 hW m2 m3 h))
