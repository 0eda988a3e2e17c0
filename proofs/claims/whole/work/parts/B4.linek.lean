/-! The reference's lines: what each step keeps. -/
def cl (j i : Nat) : Nat := if j < 2 then j else if j = 2 then 2 + i else if j < 6 then 9 + 3 * i + (j - 3) else if j < 10 then 27 + 4 * i + (j - 6) else if j < 12 then 59 + 2 * i + (j - 10) else if j < 14 then 75 + 2 * i + (j - 12) else if j < 16 then 87 + 2 * i + (j - 14) else 97 + 2 * i + (j - 16)
def cap (j : Nat) : Nat := if j < 2 then 1 else if j = 2 then 7 else if j < 6 then 6 else if j < 12 then 8 else if j < 14 then 6 else if j < 16 then 5 else 4
def bd (D : oD) (j : Nat) : Nat := if j < 2 then 1 else if j = 2 then 7 else if j < 5 then dN D 0 else if j = 5 then 6 else if j < 10 then dN D 2 else if j < 12 then dN D 3 else if j < 14 then dN D 4 else if j < 16 then dN D 5 else dN D 6
theorem cl_lt {j i : Nat} (hj : j < 18) (hi : i < cap j) : cl j i < 105 := by
  unfold cap at hi
  unfold cl
  repeat' split
  all_goals (repeat' split at hi) <;> omega
def ucl (x : Nat) : Nat × Nat := if x < 2 then (x, 0) else if x < 9 then (2, x - 2) else if x < 27 then (3 + (x - 9) % 3, (x - 9) / 3) else if x < 59 then (6 + (x - 27) % 4, (x - 27) / 4) else if x < 75 then (10 + (x - 59) % 2, (x - 59) / 2) else if x < 87 then (12 + (x - 75) % 2, (x - 75) / 2) else if x < 97 then (14 + (x - 87) % 2, (x - 87) / 2) else (16 + (x - 97) % 2, (x - 97) / 2)
theorem ucl_cl : ∀ j, j < 18 → ∀ i, i < 8 → i < cap j → ucl (cl j i) = (j, i) := by decide +kernel
theorem cl2 (i : Nat) : cl 2 i = 2 + i := rfl
theorem cap2 : cap 2 = 7 := rfl
theorem cl_inj {j i j' i' : Nat} (hj : j < 18) (hi : i < cap j) (hj' : j' < 18) (hi' : i' < cap j') (h : cl j i = cl j' i') : j = j' ∧ i = i' := by
  have c8 : ∀ j, j < 18 → cap j ≤ 8 := by decide
  have a := ucl_cl j hj i (by have := c8 j hj; omega) hi
  have b := ucl_cl j' hj' i' (by have := c8 j' hj'; omega) hi'
  rw [h, b] at a
  have p := congrArg Prod.fst a
  have q := congrArg Prod.snd a
  exact ⟨p.symm, q.symm⟩
theorem bd_cap {D : oD} (hD : WFc D) {j : Nat} (hj : j < 18) : bd D j ≤ cap j := by
  obtain ⟨-, b0, b1, b2, b3, b4, b5, b6⟩ := hD
  unfold bd cap
  repeat' split
  all_goals omega
theorem oM_iff {I : Nat → Nat → Int32} {D : oD} : oM I 99 D ↔ ∀ j, j < 18 → ∀ i, i < bd D j → I 99 (cl j i) = D j i := by
  constructor
  · rintro ⟨a0, a1, a2, a3, a5, a6, a10, a12, a14, a16⟩ j hj i hi
    rcases (by omega : j = 0 ∨ j = 1 ∨ j = 2 ∨ j = 3 ∨ j = 4 ∨ j = 5 ∨ j = 6 ∨ j = 7 ∨ j = 8 ∨ j = 9 ∨ j = 10 ∨ j = 11 ∨ j = 12 ∨ j = 13 ∨ j = 14 ∨ j = 15 ∨ j = 16 ∨ j = 17) with rfl | rfl | rfl | rfl | rfl | rfl | rfl | rfl | rfl | rfl | rfl | rfl | rfl | rfl | rfl | rfl | rfl | rfl
    · obtain rfl : i = 0 := by have : i < 1 := hi; omega
      exact a0
    · obtain rfl : i = 0 := by have : i < 1 := hi; omega
      exact a1
    · exact a2 i hi
    · exact (a3 i hi).1
    · exact (a3 i hi).2
    · exact a5 i hi
    · exact (a6 i hi).1
    · exact (a6 i hi).2.1
    · exact (a6 i hi).2.2.1
    · exact (a6 i hi).2.2.2
    · exact (a10 i hi).1
    · exact (a10 i hi).2
    · exact (a12 i hi).1
    · exact (a12 i hi).2
    · exact (a14 i hi).1
    · exact (a14 i hi).2
    · exact (a16 i hi).1
    · exact (a16 i hi).2
  · intro h
    exact ⟨h 0 (by decide) 0 (show 0 < 1 by decide), h 1 (by decide) 0 (show 0 < 1 by decide), fun i hi => h 2 (by decide) i hi, fun i hi => ⟨h 3 (by decide) i hi, h 4 (by decide) i hi⟩, fun i hi => h 5 (by decide) i hi, fun i hi => ⟨h 6 (by decide) i hi, h 7 (by decide) i hi, h 8 (by decide) i hi, h 9 (by decide) i hi⟩, fun i hi => ⟨h 10 (by decide) i hi, h 11 (by decide) i hi⟩, fun i hi => ⟨h 12 (by decide) i hi, h 13 (by decide) i hi⟩, fun i hi => ⟨h 14 (by decide) i hi, h 15 (by decide) i hi⟩, fun i hi => ⟨h 16 (by decide) i hi, h 17 (by decide) i hi⟩⟩
theorem dN_st {D : oD} {j i k : Nat} {v : Int32} (h : j ≠ 2) : dN (hp_u D j i v) k = dN D k := by
  unfold dN
  rw [hu_ne (by omega)]
theorem bd_st {D : oD} {j i x : Nat} {v : Int32} (h : j ≠ 2) : bd (hp_u D j i v) x = bd D x := by
  unfold bd
  rw [dN_st h, dN_st h, dN_st h, dN_st h, dN_st h, dN_st h]
theorem WFc_st {D : oD} {j i : Nat} {v : Int32} (h : j ≠ 2) (w : WFc D) : WFc (hp_u D j i v) := by
  unfold WFc
  rw [dN_st h, dN_st h, dN_st h, dN_st h, dN_st h, dN_st h, dN_st h]
  exact ⟨fun i hi => by rw [dN_st h, hu_ne (by omega)]; exact w.1 i hi, w.2⟩
/-- a line under way: the row r of sort k is written at js -/
def lM (T : Nat → Nat) (n : Nat) (S : pZ) (I0 I : Nat → Nat → Int32) (k r : Nat) (js : List Nat) : Prop := FrL I0 I ∧ zF S = 0 ∧ tM T n (zP S) I ∧ cM T S I ∧ WFc (zD S) ∧ dN (zD S) k = r ∧ ∀ j ∈ js, I 99 (cl j r) = zD S j r
def fM (T : Nat → Nat) (n : Nat) (X : pZ) (I0 I : Nat → Nat → Int32) : Prop := FrL I0 I ∧ ¬ zF X = 0 ∧ mF T n X I
def RmL (nc ns : Nat) (T : Nat → Nat) (n : Nat) (I : Nat → Nat → Int32) (J : Nat → Nat → Int64) (F : Nat → Nat → Option Nat) (S' : pZ) : Option Value → hp_H → Prop := fun r h' => ∃ I', h' = ((SH, nc, ns), I', J, F) ∧ FrL I I' ∧ ((zF S' = 0 ∧ r = none ∧ tM T n (zP S') I' ∧ cM T S' I' ∧ WFc (zD S')) ∨ (¬ zF S' = 0 ∧ r = none ∧ mF T n S' I'))
section
variable {T : Nat → Nat} {n k r : Nat} {S X : pZ} {I0 I I' : Nat → Nat → Int32} {js : List Nat} {J : Nat → Nat → Int64} {F : Nat → Nat → Option Nat} {nc ns : Nat}
theorem tM.u {p j : Nat} {v : Int32} (h : tM T n p I) : tM T n p (hp_u I 99 j v) := by
  have e : ∀ a, a ≠ 99 → hp_u I 99 j v a = I a := fun a ha => hu_ne ha
  unfold tM txM rkM
  rw [e 95 (by decide), e 96 (by decide), e 97 (by decide)]
  exact h
theorem mF.u {j : Nat} {v : Int32} (h : mF T n X I) : mF T n X (hp_u I 99 j v) := by
  unfold mF
  rw [hu_ne (by decide)]
  exact h
theorem cM.sm (h : cM T S I) (e : I' 99 = I 99) (e1 : zC X = zC S) (e2 : zN X = zN S) (e3 : zD X = zD S) : cM T X I' := by
  unfold cM nmM nmV oM at *
  rw [e, e1, e2, e3]
  exact h
theorem lM.sm (h : lM T n S I0 I k r js) (f : FrT I I') (z : zF X = 0) (t : tM T n (zP X) I') (e1 : zC X = zC S) (e2 : zN X = zN S) (e3 : zD X = zD S) : lM T n X I0 I' k r js := by
  obtain ⟨a, b, c, d, e, g, i⟩ := h
  have e9 : I' 99 = I 99 := f.1 99 (by decide) (by decide)
  exact ⟨a.tr f.l, z, t, d.sm e9 e1 e2 e3, by rw [e3]; exact e, by rw [e3]; exact g, fun j hj => by rw [e9, e3]; exact i j hj⟩
theorem lM.tk {w lo hi : Nat} (h : lM T n S I0 I k r js) (f : FrT I I') (z : zF (pTk T n w lo hi S) = 0) (t : tM T n (zP (pTk T n w lo hi S)) I') : lM T n (pTk T n w lo hi S) I0 I' k r js := by
  obtain ⟨v, -, -, e⟩ := tk_of z
  exact h.sm f z t (by rw [e]; rfl) (by rw [e]; rfl) (by rw [e]; rfl)
theorem lM.fn {so : Nat} (h : lM T n S I0 I k r js) (f : FrT I I') (z : zF (pFn T n so S) = 0) (t : tM T n (zP (pFn T n so S)) I') : lM T n (pFn T n so S) I0 I' k r js := by
  obtain ⟨-, i, -, -, -, e⟩ := fn_of z
  exact h.sm f z t (by rw [e]; rfl) (by rw [e]; rfl) (by rw [e]; rfl)
theorem lM.fa {so : Nat} (h : lM T n S I0 I k r js) (f : FrT I I') (z : zF (pFn T n so S) = 0) (t : tM T n (zP (pAv T n (pFn T n so S))) I') : lM T n (pAv T n (pFn T n so S)) I0 I' k r js := by
  obtain ⟨-, i, -, -, -, e⟩ := fn_of z
  exact h.sm f z t (by rw [e]; rfl) (by rw [e]; rfl) (by rw [e]; rfl)
theorem lM.nx (h : lM T n S I0 I k r js) (f : Fm 97 98 4 9 I I') (q : rkM T n (tE T n (zP S)) I') : lM T n (pAv T n S) I0 I' k r js := h.sm (FrT.fm f) h.2.1 (tM.nx h.2.2.1 f q) rfl rfl rfl
theorem lM.nt (h : lM T n S I0 I k r js) (f : Fm 97 98 4 9 I I') (q : tM T n (tE T n (zP S)) I') : lM T n (pAv T n S) I0 I' k r js := h.sm (FrT.fm f) h.2.1 q rfl rfl rfl
theorem lM.nw {so row : Nat} (h : lM T n S I0 I k r []) (f : FrL I I') (z : zF (pNw T n so row S) = 0) (t : tM T n (zP (pNw T n so row S)) I' ∧ cM T (pNw T n so row S) I' ∧ ∀ i, i < 105 → I' 99 i = I 99 i) : lM T n (pNw T n so row S) I0 I' k r [] := by
  obtain ⟨a, b, c, d, e, g, i⟩ := h
  obtain ⟨-, -, e2⟩ := nw_of z
  exact ⟨a.tr f, z, t.1, t.2.1, by rw [e2]; exact e, by rw [e2]; exact g, fun j hj => absurd hj (by simp)⟩
theorem lM.no (h : lM T n S I0 I k r js) (f : FrT I I') (z : ¬ zF X = 0) (g : mF T n X I') : fM T n X I0 I' := ⟨h.1.tr f.l, z, g⟩
theorem lM.nl (h : lM T n S I0 I k r js) (f : FrL I I') (z : ¬ zF X = 0) (g : mF T n X I') : fM T n X I0 I' := ⟨h.1.tr f, z, g⟩
theorem lM.wr {q : Nat} (h : lM T n S I0 I k r js) (hq : ¬ q = 0) : fM T n (pFl q S) I0 (wrI I (nI q) (tS T n (zP S))) := ⟨h.1.tr FrT.wr.l, hq, mF.wr (k := q) rfl rfl⟩
theorem fM.u {j : Nat} {v : Int32} (h : fM T n X I0 I) : fM T n X I0 (hp_u I 99 j v) := ⟨h.1.u, h.2.1, h.2.2.u⟩
theorem fM.eq {Y : pZ} (h : fM T n X I0 I) (e1 : zF Y = zF X) (e2 : zP Y = zP X) : fM T n Y I0 I := by
  unfold fM mF
  rw [e1, e2]
  exact h
theorem fM.cg {Y : pZ} (h : fM T n X I0 I) (e : X = Y) : fM T n Y I0 I := e ▸ h
theorem lM.st {j i : Nat} {v : Int32} (h : lM T n S I0 I k r js) (hj : j < 18) (h2 : j ≠ 2) (hi : i < cap j) (hjs : ∀ x ∈ js, x ≠ j ∧ x < 18 ∧ r < cap x) : lM T n (pSt j i v S) I0 (hp_u I 99 (cl j i) v) k r js := by
  obtain ⟨a, b, c, ⟨d1, d2, d3⟩, e, g, q⟩ := h
  have l5 := cl_lt hj hi
  refine ⟨a.u, b, c.u, ⟨?_, ⟨fun x hx => ?_, fun t ht hu => ?_⟩, d3⟩, WFc_st h2 e, ?_, fun x hx => ?_⟩
  · rw [oM_iff] at d1 ⊢
    intro x hx y hy
    rw [show zD (pSt j i v S) = hp_u (zD S) j i v from rfl] at hy ⊢
    rw [bd_st h2] at hy
    have hy2 := bd_cap e hx
    by_cases cc : x = j ∧ y = i
    · obtain ⟨rfl, rfl⟩ := cc
      rw [hu_eq, hu_eq]
    · have ne : cl x y ≠ cl j i := fun z => cc (cl_inj hx (by omega) hj hi z)
      rw [hu_nj ne, d1 x hx y hy]
      by_cases c2 : x = j
      · subst c2
        rw [hu_nj (fun z => cc ⟨rfl, z⟩)]
      · rw [hu_ne c2]
  · obtain ⟨m1, m2⟩ := d2.1 x hx
    refine ⟨?_, fun y hy => ?_⟩
    · rw [hu_nj (by omega)]
      exact m1
    · rw [hu_nj (by omega)]
      exact m2 y hy
  · rw [hu_nj (by omega)]
    exact d2.2 t ht hu
  · show dN (hp_u (zD S) j i v) k = r
    rw [dN_st h2]
    exact g
  · obtain ⟨n1, n2, n3⟩ := hjs x hx
    rw [hu_nj (fun z => n1 (cl_inj n2 n3 hj hi z).1), q x hx]
    show _ = hp_u (zD S) j i v x r
    rw [hu_ne n1]
theorem lM.sr {j : Nat} {v : Int32} (h : lM T n S I0 I k r js) (hj : j < 18) (h2 : j ≠ 2) (hr : r < cap j) (hjs : ∀ x ∈ js, x ≠ j ∧ x < 18 ∧ r < cap x) : lM T n (pSt j r v S) I0 (hp_u I 99 (cl j r) v) k r (j :: js) := by
  obtain ⟨a, b, c, d, e, g, q⟩ := h.st (i := r) (v := v) hj h2 hr hjs
  refine ⟨a, b, c, d, e, g, fun x hx => ?_⟩
  rcases List.mem_cons.mp hx with rfl | hx
  · rw [hu_eq]
    show v = hp_u (zD S) x r v x r
    rw [hu_eq]
  · exact q x hx
theorem lM.cnt (h : lM T n S I0 I k r js) (hk : k < 7) : I 99 (2 + k) = nI r := by
  obtain ⟨a, b, c, ⟨d1, -, -⟩, e, g, q⟩ := h
  rw [d1.2.2.1 k hk, e.1 k hk, g]
def rowL (k : Nat) : List Nat := [[3, 4], [], [6, 7, 8, 9], [10, 11], [12, 13], [14, 15], [16, 17]].getD k []
theorem bd_in {D D' : oD} {k r : Nat} (hk : k < 7) (hr : dN D k = r) (hs : dN D' k = r + 1) (ho : ∀ i, i ≠ k → dN D' i = dN D i) {j i : Nat} (hj : j < 18) (hi : i < bd D' j) : i < bd D j ∨ (i = r ∧ j ∈ rowL k) := by
  unfold bd at *
  rcases (by omega : k = 0 ∨ k = 1 ∨ k = 2 ∨ k = 3 ∨ k = 4 ∨ k = 5 ∨ k = 6) with rfl | rfl | rfl | rfl | rfl | rfl | rfl
  all_goals
    simp only [rowL, List.getD_cons_zero, List.getD_cons_succ, List.mem_cons, List.not_mem_nil, or_false]
    have o0 := ho 0
    have o1 := ho 1
    have o2 := ho 2
    have o3 := ho 3
    have o4 := ho 4
    have o5 := ho 5
    have o6 := ho 6
    (repeat' split at hi) <;> (repeat' split) <;> omega
theorem lM.inc {x : Nat} (h : lM T n S I0 I k r js) (hk : k < 7) (hr : r < rmN k) (hc : ∀ j ∈ rowL k, j ∈ js) (hx : x = 2 + k) : tM T n (zP S) (hp_u I 99 x (nI (r + 1))) ∧ cM T (pIn k S) (hp_u I 99 x (nI (r + 1))) ∧ WFc (zD (pIn k S)) ∧ FrL I0 (hp_u I 99 x (nI (r + 1))) := by
  subst hx
  obtain ⟨a, b, c, ⟨d1, d2, d3⟩, e, g, q⟩ := h
  have rm8 : ∀ k, k < 7 → rmN k ≤ 10 := by decide
  have hr8 := rm8 k hk
  have ev : zD S 2 k + 1 = nI (r + 1) := by rw [e.1 k hk, g, nI_1]
  have eD : zD (pIn k S) = hp_u (zD S) 2 k (nI (r + 1)) := by
    show hp_u (zD S) 2 k (zD S 2 k + 1) = _
    rw [ev]
  have n1 : dN (zD (pIn k S)) k = r + 1 := by
    rw [eD]
    unfold dN
    rw [hu_eq, nI_cl (by omega)]
  have n2 : ∀ i, i ≠ k → dN (zD (pIn k S)) i = dN (zD S) i := fun i hi => by
    rw [eD]
    unfold dN
    rw [hu_nj hi]
  have wf : WFc (zD (pIn k S)) := by
    obtain ⟨b0, b1, b2, b3, b4, b5, b6, b7⟩ := e
    refine ⟨fun i hi => ?_, ?_⟩
    · by_cases cc : i = k
      · subst cc
        rw [n1, eD, hu_eq]
      · rw [n2 i cc, eD, hu_nj cc]
        exact b0 i hi
    · have m0 := n2 0
      have m1 := n2 1
      have m2 := n2 2
      have m3 := n2 3
      have m4 := n2 4
      have m5 := n2 5
      have m6 := n2 6
      rcases (by omega : k = 0 ∨ k = 1 ∨ k = 2 ∨ k = 3 ∨ k = 4 ∨ k = 5 ∨ k = 6) with rfl | rfl | rfl | rfl | rfl | rfl | rfl
      all_goals
        simp only [rmN, List.getD_cons_zero, List.getD_cons_succ] at hr
        omega
  have i2 : k < cap 2 := by rw [cap2]; exact hk
  refine ⟨c.u, ⟨?_, ⟨fun x hx => ?_, fun t ht hu => ?_⟩, d3⟩, wf, a.u⟩
  · rw [oM_iff] at d1 ⊢
    intro x hx y hy
    have hc2 := bd_cap wf hx
    by_cases cc : x = 2
    · subst cc
      rw [cl2, eD]
      by_cases c3 : y = k
      · subst c3
        rw [hu_eq, hu_eq]
      · have hy7 : y < 7 := hy
        have d := d1 2 hx y hy7
        rw [cl2] at d
        rw [hu_nj (by omega), hu_nj c3, d]
    · have ne : cl x y ≠ 2 + k := fun z => cc (cl_inj (j' := 2) (i' := k) hx (by omega) (by omega) i2 (z.trans (cl2 k).symm)).1
      rw [hu_nj ne, eD, hu_ne cc]
      rcases bd_in hk g n1 n2 hx hy with h1 | ⟨rfl, h2⟩
      · exact d1 x hx y h1
      · exact q x (hc x h2)
  · obtain ⟨m1, m2⟩ := d2.1 x hx
    refine ⟨?_, fun y hy => ?_⟩
    · rw [hu_nj (by omega)]
      exact m1
    · rw [hu_nj (by omega)]
      exact m2 y hy
  · rw [hu_nj (by omega)]
    exact d2.2 t ht hu
theorem RmL.no {S' : pZ} (hE : S' = X) (h : fM T n X I0 I) : RmL nc ns T n I0 J F S' none ((SH, nc, ns), I, J, F) := by
  subst hE
  exact ⟨I, rfl, h.1, Or.inr ⟨h.2.1, rfl, h.2.2⟩⟩
theorem RmL.ok {S' : pZ} {x : Nat} (hE : S' = pIn k S) (h : lM T n S I0 I k r js) (hk : k < 7) (hr : r < rmN k) (hc : ∀ j ∈ rowL k, j ∈ js) (hx : x = 2 + k) : RmL nc ns T n I0 J F S' none ((SH, nc, ns), hp_u I 99 x (nI (r + 1)), J, F) := by
  subst hE
  obtain ⟨h1, h2, h3, h4⟩ := h.inc hk hr hc hx
  exact ⟨_, rfl, h4, Or.inl ⟨h.2.1, rfl, h1, h2, h3⟩⟩
theorem RmL.oo {S' : pZ} (hE : S' = S) (h : lM T n S I0 I k r js) : RmL nc ns T n I0 J F S' none ((SH, nc, ns), I, J, F) := by
  subst hE
  exact ⟨_, rfl, h.1, Or.inl ⟨h.2.1, rfl, h.2.2.1, h.2.2.2.1, h.2.2.2.2.1⟩⟩
theorem y_afterW {j w lo hi : Nat} (hw : kwS j = w) (hF : RFok F) (hm : tM T n (zP S) I) (hz : zF S = 0) (hj : j < 27) (hj2 : 2 ≤ j) (hlo : lo < 1000) (hhi : hi < 1000) : Ew 5 mX12_after 0 [.ref 95, .ref (sp_S + j), .int (nI lo), .int (nI hi)] [] ((SH, nc, ns), I, J, F) (RmP nc ns T n I J F (pTk T n w lo hi S) (some (.int (nI lo))) (some (.int (nI (zV (pTk T n w lo hi S)))))) := by
  subst hw
  exact y_after hF hm hz hj hj2 hlo hhi
end
def RmA (nc ns : Nat) (T : Nat → Nat) (n : Nat) (I : Nat → Nat → Int32) (J : Nat → Nat → Int64) (F : Nat → Nat → Option Nat) (S' : pZ) (v0 v1 : Option Value) : Option Value → hp_H → Prop := fun r h' => ∃ I', h' = ((SH, nc, ns), I', J, F) ∧ FrT I I' ∧ ((zF S' = 0 ∧ r = v1 ∧ tM T n (zP (pAv T n S')) I') ∨ (¬ zF S' = 0 ∧ r = v0 ∧ mF T n S' I'))
set_option maxRecDepth 10000 in
theorem y_harbourHere_f {I : Nat → Nat → Int32} {J : Nat → Nat → Int64} {F : Nat → Nat → Option Nat} {nc ns : Nat} (hF : RFok F) (hf : I 95 13 = 1)  : Ev 5 mX12_harbourHere 0 [.ref 95] [] ((SH, nc, ns), I, J, F) (some (.int 0)) ((SH, nc, ns), I, J, F) := by
  refine e_aload_n (p := 1) dX12_harbourHere_0 rfl rfl ?_
  refine e_iconst (v := 0) (p := 2) dX12_harbourHere_1 (by decide) rfl ?_
  refine e_iconst (v := 5) (p := 3) dX12_harbourHere_2 (by decide) rfl ?_
  refine e_callV_int (p := 6) (k' := 4) (a := [.ref 95, .int 0, .int 5]) (rr := []) dX12_harbourHere_3 rfl rfl rfl rfl (rc_of rfl rfl (by decide) ⟨rfl, by decide⟩) (Nat.le_of_ble_eq_true rfl) (Nat.le_of_ble_eq_true rfl) (by decide) (y_named_f hF hf) (Or.inl rfl) rfl ?_
  exact e_iretE dX12_harbourHere_6 rfl rfl (by decide) ⟨rfl, rfl⟩
set_option maxRecDepth 10000 in
theorem y_harbourHere {I : Nat → Nat → Int32} {J : Nat → Nat → Int64} {F : Nat → Nat → Option Nat} {nc ns : Nat} {T : Nat → Nat} {n : Nat} {S : pZ} (hF : RFok F) (hm : tM T n (zP S) I) (hz : zF S = 0) (hc : cM T S I) : Ew 5 mX12_harbourHere 0 [.ref 95] [] ((SH, nc, ns), I, J, F) (RmP nc ns T n I J F (pFn T n 0 S) (some (.int 0)) (some (.int (nI (zV (pFn T n 0 S)))))) := by
  refine we_aload_n (p := 1) dX12_harbourHere_0 rfl rfl ?_
  refine we_iconst (v := 0) (p := 2) dX12_harbourHere_1 (by decide) rfl ?_
  refine we_iconst (v := 5) (p := 3) dX12_harbourHere_2 (by decide) rfl ?_
  obtain ⟨_, _, e1, I1, rfl, f1, ⟨z1, rfl, t1⟩ | ⟨z1, rfl, g1⟩⟩ := y_named (S := S) (so := 0) (lo := 0) (hi := 5) hF hm hz hc (Or.inl ⟨rfl, rfl, rfl⟩)
  · skip
    refine we_callV_int (p := 6) (k' := 4) (a := [.ref 95, .int 0, .int 5]) (rr := []) dX12_harbourHere_3 rfl rfl rfl rfl (rc_of rfl rfl (by decide) ⟨rfl, by decide⟩) (Nat.le_of_ble_eq_true rfl) (Nat.le_of_ble_eq_true rfl) (by decide) e1 (Or.inl rfl) rfl ?_
    exact wi_ret dX12_harbourHere_6 rfl rfl (by decide) (⟨_, rfl, f1, Or.inl ⟨z1, rfl, t1⟩⟩)
  · skip
    refine we_callV_int (p := 6) (k' := 4) (a := [.ref 95, .int 0, .int 5]) (rr := []) dX12_harbourHere_3 rfl rfl rfl rfl (rc_of rfl rfl (by decide) ⟨rfl, by decide⟩) (Nat.le_of_ble_eq_true rfl) (Nat.le_of_ble_eq_true rfl) (by decide) e1 (Or.inl rfl) rfl ?_
    exact wi_ret dX12_harbourHere_6 rfl rfl (by decide) (⟨_, rfl, f1, Or.inr ⟨z1, rfl, g1⟩⟩)
set_option maxRecDepth 10000 in
theorem y_harbourPassed_f {I : Nat → Nat → Int32} {J : Nat → Nat → Int64} {F : Nat → Nat → Option Nat} {nc ns : Nat} (hF : RFok F) (hf : I 95 13 = 1)  : Ev 6 mX12_harbourPassed 0 [.ref 95, .null] [] ((SH, nc, ns), I, J, F) (some (.int 0)) ((SH, nc, ns), I, J, F) := by
  refine e_aload_n (p := 1) dX12_harbourPassed_0 rfl rfl ?_
  refine e_callV_int (p := 4) (k' := 5) (a := [.ref 95]) (rr := []) dX12_harbourPassed_1 rfl rfl rfl rfl (rc_of rfl rfl (by decide) ⟨rfl, by decide⟩) (Nat.le_of_ble_eq_true rfl) (Nat.le_of_ble_eq_true rfl) (by decide) (y_harbourHere_f hF hf) (Or.inl rfl) rfl ?_
  refine e_istore_n (ls1 := [.ref 95, .int 0]) (p := 5) dX12_harbourPassed_4 rfl rfl ?_
  refine e_aload_n (p := 6) dX12_harbourPassed_5 rfl rfl ?_
  refine f_getI (c := 11) (j := 13) (n := 37) (v := 1) (p := 9) dX12_harbourPassed_6 rfl rfl (by decide) (by decide) (Or.inr rfl) hf rfl ?_
  refine e_if_ne (t := 16) (p := 12) dX12_harbourPassed_9 (by decide) rfl rfl (fun hc9 => ?_) (fun hc9 => absurd hc9 (by decide))
  refine e_iload_n (p := 17) dX12_harbourPassed_16 rfl rfl ?_
  exact e_iretE dX12_harbourPassed_17 rfl rfl (by decide) ⟨rfl, rfl⟩
set_option maxRecDepth 10000 in
theorem y_harbourPassed {I : Nat → Nat → Int32} {J : Nat → Nat → Int64} {F : Nat → Nat → Option Nat} {nc ns : Nat} {T : Nat → Nat} {n : Nat} {S : pZ} (hF : RFok F) (hm : tM T n (zP S) I) (hz : zF S = 0) (hc : cM T S I) : Ew 6 mX12_harbourPassed 0 [.ref 95, .null] [] ((SH, nc, ns), I, J, F) (RmA nc ns T n I J F (pFn T n 0 S) (some (.int 0)) (some (.int (nI (zV (pFn T n 0 S)))))) := by
  refine we_aload_n (p := 1) dX12_harbourPassed_0 rfl rfl ?_
  obtain ⟨_, _, e1, I1, rfl, f1, ⟨z1, rfl, t1⟩ | ⟨z1, rfl, g1⟩⟩ := y_harbourHere hF hm hz hc
  · skip
    refine we_callV_int (p := 4) (k' := 5) (a := [.ref 95]) (rr := []) dX12_harbourPassed_1 rfl rfl rfl rfl (rc_of rfl rfl (by decide) ⟨rfl, by decide⟩) (Nat.le_of_ble_eq_true rfl) (Nat.le_of_ble_eq_true rfl) (by decide) e1 (Or.inl rfl) rfl ?_
    refine we_istore_n (ls1 := [.ref 95, .int (nI (zV (pFn T n 0 S)))]) (p := 5) dX12_harbourPassed_4 rfl rfl ?_
    refine we_aload_n (p := 6) dX12_harbourPassed_5 rfl rfl ?_
    refine wf_getI (c := 11) (j := 13) (n := 37) (v := 0) (p := 9) dX12_harbourPassed_6 rfl rfl (by decide) (by decide) (Or.inr rfl) t1.2.2.2.1 rfl ?_
    refine we_if_ne (t := 16) (p := 12) dX12_harbourPassed_9 (by decide) rfl rfl (fun hc9 => absurd (by decide) hc9) (fun hc9 => ?_)
    refine we_aload_n (p := 13) dX12_harbourPassed_12 rfl rfl ?_
    obtain ⟨_, _, e2, rfl, I2, J2, F2, rfl, rfl, rfl, f2, r2⟩ := y_next hF t1.1 (tE_le t1.2.1).1 t1.2.2.1.2.1
    refine we_callV_v (p := 16) (k' := 1) (a := [.ref 95]) (rr := []) dX12_harbourPassed_13 rfl rfl rfl rfl (rc_of rfl rfl (by decide) ⟨rfl, by decide⟩) (Nat.le_of_ble_eq_true rfl) (Nat.le_of_ble_eq_true rfl) (by decide) e2 (Or.inl rfl) rfl ?_
    refine we_iload_n (p := 17) dX12_harbourPassed_16 rfl rfl ?_
    exact wi_ret dX12_harbourPassed_17 rfl rfl (by decide) (⟨_, rfl, f1.tr (FrT.fm f2), Or.inl ⟨z1, rfl, tM.nx t1 f2 r2⟩⟩)
  · skip
    refine we_callV_int (p := 4) (k' := 5) (a := [.ref 95]) (rr := []) dX12_harbourPassed_1 rfl rfl rfl rfl (rc_of rfl rfl (by decide) ⟨rfl, by decide⟩) (Nat.le_of_ble_eq_true rfl) (Nat.le_of_ble_eq_true rfl) (by decide) e1 (Or.inl rfl) rfl ?_
    refine we_istore_n (ls1 := [.ref 95, .int 0]) (p := 5) dX12_harbourPassed_4 rfl rfl ?_
    refine we_aload_n (p := 6) dX12_harbourPassed_5 rfl rfl ?_
    refine wf_getI (c := 11) (j := 13) (n := 37) (v := 1) (p := 9) dX12_harbourPassed_6 rfl rfl (by decide) (by decide) (Or.inr rfl) g1.1 rfl ?_
    refine we_if_ne (t := 16) (p := 12) dX12_harbourPassed_9 (by decide) rfl rfl (fun hc9 => ?_) (fun hc9 => absurd hc9 (by decide))
    refine we_iload_n (p := 17) dX12_harbourPassed_16 rfl rfl ?_
    exact wi_ret dX12_harbourPassed_17 rfl rfl (by decide) (⟨_, rfl, f1, Or.inr ⟨z1, rfl, g1⟩⟩)
