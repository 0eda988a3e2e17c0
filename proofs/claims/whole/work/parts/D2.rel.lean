/-! Class and reference on one heap: what holds between any two calls. -/
theorem ev_Estep {call call2 rec : ev_M → Nat → List Value → List Value → hp_H → ev_Re} (hr : ∀ M pc ls st h r h', rec M pc ls st h = some (r, h') → ∃ pc' st', sm_end M r pc' st') :
    ∀ M pc ls st h r h', ev_step call call2 rec M pc ls st h = some (r, h') → ∃ pc' st', sm_end M r pc' st' := by
  intro M pc ls st h r h' he
  obtain ⟨i, len, hd, hl, q | q | q | q⟩ := ev_step_inv he
  · obtain ⟨pc1, ls1, st1, h1, q1, q2⟩ := q
    exact hr _ _ _ _ _ _ _ q2
  · obtain ⟨q1, rfl⟩ := q
    exact ⟨_, _, q1⟩
  · obtain ⟨x, k, M', a, rr, v, h1, -, -, -, -, -, -, -, -, q1, -, -, q2⟩ := q
    exact hr _ _ _ _ _ _ _ q2
  · obtain ⟨x, o, k, a, rr, h1, h2, u, v, -, -, -, -, -, -, -, q1, q0, q2, q4⟩ := q
    exact hr _ _ _ _ _ _ _ q4
theorem ev_E : ∀ n d M pc ls st h r h', ev d n M pc ls st h = some (r, h') → ∃ pc' st', sm_end M r pc' st'
  | 0, d, _, _, _, _, _, _, _, he => by simp [ev] at he
  | n + 1, 0, M, pc, ls, st, h, r, h', he => ev_Estep (call := fun _ _ _ _ _ => none) (call2 := fun _ _ _ _ _ => none) (rec := ev 0 n) (ev_E n 0) M pc ls st h r h' he
  | n + 1, 1, M, pc, ls, st, h, r, h', he => ev_Estep (call := ev 0 n) (call2 := fun _ _ _ _ _ => none) (rec := ev 1 n) (ev_E n 1) M pc ls st h r h' he
  | n + 1, d + 2, M, pc, ls, st, h, r, h', he => ev_Estep (call := ev (d + 1) n) (call2 := ev d n) (rec := ev (d + 2) n) (ev_E n (d + 2)) M pc ls st h r h' he
section
variable {k : Nat} {M : ev_M} {pc : Nat} {ls st : List Value} {h : hp_H} {nc ns : Nat} {v : Value} {P : (Nat → Nat → Int32) → (Nat → Nat → Int64) → (Nat → Nat → Option Nat) → Prop}
theorem Ew.int (q : Ew k M pc ls st h (Ret nc ns (some v) P)) (hR : mR M ≠ some .long) (hO : mO M ≠ 10) : ∃ x, v = .int x := by
  obtain ⟨r, h', ⟨n, e⟩, rfl, -⟩ := q
  obtain ⟨pc', st', z⟩ := ev_E _ _ _ _ _ _ _ _ _ e
  unfold sm_end at z
  split at z
  · rename_i hz; cases hz
  · rename_i x hz; cases hz; exact ⟨x, rfl⟩
  · exact absurd z.2.2 hR
  · exact absurd z.2.2 hO
  · exact z.elim
theorem Ew.long (q : Ew k M pc ls st h (Ret nc ns (some v) P)) (hR : mR M = some .long) (hO : mO M ≠ 10) (hn : ∀ x : Int32, narrow .long (.int x) ≠ .int x) : ∃ x, v = .long x := by
  obtain ⟨r, h', ⟨n, e⟩, rfl, -⟩ := q
  obtain ⟨pc', st', z⟩ := ev_E _ _ _ _ _ _ _ _ _ e
  unfold sm_end at z
  split at z
  · rename_i hz; cases hz
  · rename_i x hz
    obtain ⟨-, -, ty, e1, e2⟩ := z
    rw [hR] at e1
    cases e1
    exact absurd e2 (hn x)
  · rename_i x hz; cases hz; exact ⟨x, rfl⟩
  · exact absurd z.2.2 hO
  · exact z.elim
end
/-- oath, now, acts, images, tape, trouble, fault, places of both -/
abbrev sg : Type := oD × (Nat → Int32) × Nat × (Nat → Nat → Int32) × Nat × (Nat → Nat → Int32) × Nat × (Nat → Nat) × Int32 × Int32 × Int32 × Int32
def CRe (I : Nat → Nat → Int32) (J : Nat → Nat → Int64) (F : Nat → Nat → Option Nat) (D : oD) (s : Nat → Int32) (K : Nat) (U : Nat → Nat → Int32) (M : Nat) (V : Nat → Nat → Int32) (L : Nat) (T : Nat → Nat) (t f p : Int32) : Prop :=
  ∃ o q, isO o ∧ isO q ∧ o ≠ q ∧ RFok F ∧ F 0 2 = some o ∧ F 3 0 = some q ∧ oC I o D ∧ mo I 42 s ∧ I 43 2 = nI K ∧ I 43 3 = nI M ∧ pastC I F K U ∧ (∀ i, i < M → mo I (62 + i) (V i)) ∧ I 1 1 = nI L ∧ (∀ i, i < L → I 2 i = sB (T i)) ∧ I 0 10 = t ∧ I 0 11 = f ∧ I 0 12 = p ∧ ∀ k, k < 25 → J 21 k = lN (KWf k)
def MRe (I : Nat → Nat → Int32) (D : oD) (s : Nat → Int32) (K : Nat) (U : Nat → Nat → Int32) (M : Nat) (V : Nat → Nat → Int32) (L : Nat) (T : Nat → Nat) (t f p : Int32) : Prop :=
  oM I 98 D ∧ I 95 14 = tol D ∧ stM I s ∧ I 95 20 = nI K ∧ I 95 21 = nI M ∧ undM I K U ∧ (∀ i, i < M → ∀ j, j < 6 → I 102 (6 * i + j) = V i j) ∧ I 95 2 = nI L ∧ (∀ i, i < L → I 96 i = nI (T i)) ∧ I 95 11 = t ∧ I 95 9 = f ∧ I 95 10 = p
def WDe (D : oD) (s : Nat → Int32) (K : Nat) (U : Nat → Nat → Int32) (M : Nat) (V : Nat → Nat → Int32) (L : Nat) (T : Nat → Nat) (t p pm : Int32) : Prop :=
  WF D ∧ WFs D s ∧ K ≤ 16 ∧ (∀ i, i < K → WFs D (U i)) ∧ M ≤ 3 ∧ (∀ i, i < M → WFs D (V i)) ∧ L ≤ 900 ∧ (∀ i, i < L → T i < 256) ∧ (tol D = 0 → D 1 0 = 0 ∧ s 0 = 0 ∧ s 1 = 0 ∧ s 3 = 0 ∧ K = 0 ∧ M = 0) ∧ (t = 4 → p = pm)
def CR (I : Nat → Nat → Int32) (J : Nat → Nat → Int64) (F : Nat → Nat → Option Nat) (x : sg) : Prop := match x with
  | (D, s, K, U, M, V, L, T, t, f, p, _) => CRe I J F D s K U M V L T t f p
def MR (I : Nat → Nat → Int32) (x : sg) : Prop := match x with
  | (D, s, K, U, M, V, L, T, t, f, _, pm) => MRe I D s K U M V L T t f pm
def WD (x : sg) : Prop := match x with
  | (D, s, K, U, M, V, L, T, t, _, p, pm) => WDe D s K U M V L T t p pm
/-- what the class may change, and the reference -/
def fC (I I' : Nat → Nat → Int32) (J J' : Nat → Nat → Int64) (F F' : Nat → Nat → Option Nat) : Prop := ∀ k, 95 ≤ k → I' k = I k ∧ J' k = J k ∧ F' k = F k
def fM2 (I I' : Nat → Nat → Int32) (J J' : Nat → Nat → Int64) (F F' : Nat → Nat → Option Nat) : Prop := F' = F ∧ ∀ k, k < 95 ∨ 111 ≤ k → I' k = I k ∧ J' k = J k
def Cl (kC kM : Nat) (mC mM : ev_M) (aC aM : List Value) : Prop := ∀ x, WD x → ∃ v y, WD y ∧ (∀ I J F nc ns, CR I J F x → Ew kC mC 0 (.ref 0 :: aC) [] ((SH, nc, ns), I, J, F) (Ret nc ns (some v) (fun I' J' F' => CR I' J' F' y ∧ fC I I' J J' F F'))) ∧
  ∀ I J F nc ns, RFok F → MR I x → Ew kM mM 0 (.ref 95 :: aM) [] ((SH, nc, ns), I, J, F) (Ret nc ns (some v) (fun I' J' F' => MR I' y ∧ fM2 I I' J J' F F'))
section
variable {I I' : Nat → Nat → Int32} {J J' : Nat → Nat → Int64} {F F' : Nat → Nat → Option Nat} {D : oD} {s : Nat → Int32} {K : Nat} {U : Nat → Nat → Int32} {M : Nat} {V : Nat → Nat → Int32} {L : Nat} {T : Nat → Nat} {t t' f p pm : Int32}
theorem Ew.ret {k : Nat} {m : ev_M} {pc : Nat} {ls st : List Value} {h : hp_H} {nc ns : Nat} {v : Value} {P Q : (Nat → Nat → Int32) → (Nat → Nat → Int64) → (Nat → Nat → Option Nat) → Prop} (q : Ew k m pc ls st h (Ret nc ns (some v) P)) (i : ∀ I J F, P I J F → Q I J F) : Ew k m pc ls st h (Ret nc ns (some v) Q) :=
  q.mono (fun r h' ⟨h1, I, J, F, h2, h3⟩ => ⟨h1, I, J, F, h2, i I J F h3⟩)
theorem Ev.ret2 {k : Nat} {m : ev_M} {pc : Nat} {ls st : List Value} {h : hp_H} {nc ns : Nat} {v : Value} {Q : (Nat → Nat → Int32) → (Nat → Nat → Int64) → (Nat → Nat → Option Nat) → Prop} (q : Ev k m pc ls st h (some v) ((SH, nc, ns), I, J, F)) (i : Q I J F) : Ew k m pc ls st h (Ret nc ns (some v) Q) := q.w ⟨rfl, I, J, F, rfl, i⟩
theorem CRe.fr (h : CRe I J F D s K U M V L T t f p) (hK : K ≤ 16) (hM : M ≤ 3) (hI : ∀ k, k ≠ 0 → k < 65 → I' k = I k) (h10 : I' 0 10 = t') (h11 : I' 0 11 = I 0 11) (h12 : I' 0 12 = I 0 12) (hJ : J' 21 = J 21) (hF : F' = F) : CRe I' J' F' D s K U M V L T t' f p := by
  subst hF
  obtain ⟨o, q, g1, g2, g3, g4, g5, g6, g7, g8, g9, g10, g11, g12, g13, g14, g15, g16, g17, g18⟩ := h
  refine ⟨o, q, g1, g2, g3, g4, g5, g6, oC_fr g7 g1 (fun k h1 h2 => hI k (by omega) (by omega)), mo_fr g8 (hI 42 (by omega) (by omega)), ?_, ?_, pastC_fr g11 (fun k h1 h2 => hI k (by omega) (by omega)) rfl hK, fun i hi => mo_fr (g12 i hi) (hI _ (by omega) (by omega)), ?_, fun i hi => ?_, h10, h11.trans g16, h12.trans g17, fun k hk => ?_⟩
  · rw [hI 43 (by omega) (by omega)]; exact g9
  · rw [hI 43 (by omega) (by omega)]; exact g10
  · rw [hI 1 (by omega) (by omega)]; exact g13
  · rw [hI 2 (by omega) (by omega)]; exact g14 i hi
  · rw [hJ]; exact g18 k hk
theorem MRe.fr (h : MRe I D s K U M V L T t f p) (hI : ∀ k, k = 96 ∨ k = 98 ∨ k = 100 ∨ k = 101 ∨ k = 102 → I' k = I k) (h2 : I' 95 2 = I 95 2) (h9 : I' 95 9 = I 95 9) (h10 : I' 95 10 = I 95 10) (h14 : I' 95 14 = I 95 14) (h20 : I' 95 20 = I 95 20) (h21 : I' 95 21 = I 95 21) (h11 : I' 95 11 = t') : MRe I' D s K U M V L T t' f p := by
  obtain ⟨g1, g2, g3, g4, g5, g6, g7, g8, g9, g10, g11, g12⟩ := h
  refine ⟨oM_fr g1 (hI 98 (by omega)), h14.trans g2, stM_fr g3 (hI 100 (by omega)), h20.trans g4, h21.trans g5, fun i hi j hj => ?_, fun i hi j hj => ?_, h2.trans g8, fun i hi => ?_, h11, h9.trans g11, h10.trans g12⟩
  · rw [hI 101 (by omega)]; exact g6 i hi j hj
  · rw [hI 102 (by omega)]; exact g7 i hi j hj
  · rw [hI 96 (by omega)]; exact g9 i hi
theorem WDe.tr (h : WDe D s K U M V L T t p pm) (h4 : ¬ t' = 4) : WDe D s K U M V L T t' p pm := by
  obtain ⟨g1, g2, g3, g4, g5, g6, g7, g8, g9, g10⟩ := h
  exact ⟨g1, g2, g3, g4, g5, g6, g7, g8, g9, fun z => absurd z h4⟩
end
theorem fC.of {I I' : Nat → Nat → Int32} {J J' : Nat → Nat → Int64} {F F' : Nat → Nat → Option Nat} (h1 : ∀ k, 95 ≤ k → I' k = I k) (h2 : ∀ k, 95 ≤ k → J' k = J k) (h3 : ∀ k, 95 ≤ k → F' k = F k) : fC I I' J J' F F' := fun k hk => ⟨h1 k hk, h2 k hk, h3 k hk⟩
theorem PQ.cl {kC kM : Nat} {mC mM : ev_M} {aC aM : List Value} (h : ∀ D s, WF D → WFs D s → PQ D s kC kM mC mM aC aM) : Cl kC kM mC mM aC aM := by
  rintro ⟨D, s, K, U, M, V, L, T, t, f, p, pm⟩ hw
  have hw : WDe D s K U M V L T t p pm := hw
  obtain ⟨v, t', h4, hc, hm⟩ := h D s hw.1 hw.2.1
  refine ⟨v, (D, s, K, U, M, V, L, T, t', f, p, pm), hw.tr h4, fun I J F nc ns hC => ?_, fun I J F nc ns hF hM => ?_⟩
  · have hC : CRe I J F D s K U M V L T t f p := hC
    have hC' := hC
    obtain ⟨o, q, g1, g2, g3, g4, g5, g6, g7, g8, -⟩ := hC'
    refine (hc I J F nc ns o ⟨g1, g4, g5, g7, g8⟩).ret (fun I' J' F' ⟨z1, z2, z3⟩ => ⟨?_, ?_⟩)
    · have e0 : I' 0 = hp_u I 0 10 t' 0 := z1 0 (by omega)
      refine hC.fr (t' := t') hw.2.2.1 hw.2.2.2.2.1 (fun k h1 h2 => (z1 k (by omega)).trans (hu_ne h1)) ?_ ?_ ?_ (z2 21 (by omega)) z3
      · rw [e0]; exact hu_eq
      · rw [e0]; exact hu_nj (by decide)
      · rw [e0]; exact hu_nj (by decide)
    · exact fC.of (fun k hk => (z1 k (by omega)).trans (hu_ne (by omega))) (fun k hk => z2 k (by omega)) (fun k hk => by rw [z3])
  · have hM : MRe I D s K U M V L T t f pm := hM
    refine (hm I J F nc ns ⟨hF, hM.1, hM.2.1, hM.2.2.1⟩).ret (fun I' J' F' ⟨⟨z1, z2⟩, z3, z4⟩ => ⟨?_, z4, ?_⟩)
    · refine hM.fr (t' := t') (fun k hk => ?_) ?_ ?_ ?_ ?_ ?_ ?_ ?_
      · rw [z1 k (by omega) (by omega), hu_ne (by omega), hu_ne (by omega)]
      · rw [z2 2 (by omega), hu_nj (by decide), hu_nj (by decide)]
      · rw [z2 9 (by omega), hu_nj (by decide), hu_nj (by decide)]
      · rw [z2 10 (by omega), hu_nj (by decide), hu_nj (by decide)]
      · rw [z2 14 (by omega), hu_nj (by decide), hu_nj (by decide)]
      · rw [z2 20 (by omega), hu_nj (by decide), hu_nj (by decide)]
      · rw [z2 21 (by omega), hu_nj (by decide), hu_nj (by decide)]
      · rw [z2 11 (by omega), hu_eq]
    · intro k hk
      exact ⟨by rw [z1 k (by omega) (by omega), hu_ne (by omega), hu_ne (by omega)], z3 k (by omega)⟩
