/-! A line keeps what a reading keeps. -/
theorem pB_0 {S : pZ} {K : pZ → pZ} (h : zF (pB S K) = 0) : zF S = 0 ∧ pB S K = K S := by
  by_cases c : zF S = 0
  · exact ⟨c, if_pos c⟩
  · rw [pB_n c] at h
    exact absurd h c
theorem it_0 {c : Prop} [Decidable c] {A X : pZ} {k : Nat} (hk : k ≠ 0) (h : zF (if c then A else pFl k X) = 0) : c := by
  by_cases q : c
  · exact q
  · rw [if_neg q] at h
    exact absurd h hk
theorem nms_same {T : Nat → Nat} {n f p v : Nat} {S : pZ} {D' : oD} (h : nmsI T n S) (h0 : dN D' 0 = dN (zD S) 0) (h2 : dN D' 2 = dN (zD S) 2) (h5 : dN D' 5 = dN (zD S) 5) : nmsI T n (f, p, v, zC S, zN S, D') := by
  obtain ⟨a, b, c⟩ := h
  refine ⟨by show zC S = dN D' 0 + dN D' 2 + dN D' 5; rw [h0, h2, h5]; exact a, fun i hi => ?_, c⟩
  obtain ⟨q1, q2, q3, q4, q5, q6⟩ := b i hi
  refine ⟨q1, q2, q3, q4, q5, ?_⟩
  show (zN S i).2.2.2 < dN D' (zN S i).2.2.1
  rcases q5 with e | e | e
  · rw [e] at q6 ⊢; rw [h0]; exact q6
  · rw [e] at q6 ⊢; rw [h2]; exact q6
  · rw [e] at q6 ⊢; rw [h5]; exact q6
theorem nms_ad {T : Nat → Nat} {n k f p v : Nat} {S : pZ} {D' : oD} {p0 : Nat} (hk : k = 0 ∨ k = 2 ∨ k = 5) (h : nmsI T n S) (hn : tK T n p0 = 1) (hK : fnd T (zN S) (tW T n p0) (zC S) 0 = none) (hd : ∀ i, i < 7 → dN D' i = if i = k then dN (zD S) k + 1 else dN (zD S) i) : nmsI T n (f, p, v, zC S + 1, (fun i => if i = zC S then (tS T n p0, rn isLt T n (tS T n p0), k, dN (zD S) k) else zN S i), D') := by
  obtain ⟨a, b, c⟩ := h
  obtain ⟨t1, t2, t3, t4, t5, t6⟩ := tK_1 hn
  have hnew := fnd_none _ _ hK
  have e0 := hd 0 (by decide)
  have e2 := hd 2 (by decide)
  have e5 := hd 5 (by decide)
  refine ⟨?_, fun i hi => ?_, fun i j hi hj hij => ?_⟩
  · show zC S + 1 = dN D' 0 + dN D' 2 + dN D' 5
    rw [e0, e2, e5]
    rcases hk with rfl | rfl | rfl <;> simp <;> omega
  · have hi : i < zC S + 1 := hi
    show nmI T n D' (if i = zC S then (tS T n p0, rn isLt T n (tS T n p0), k, dN (zD S) k) else zN S i)
    by_cases z : i = zC S
    · rw [if_pos z]
      refine ⟨t4, t3, t5, fun q h1 h2 => (rn_all (n := n) h1 h2).2, hk, ?_⟩
      show dN (zD S) k < dN D' k
      rw [hd k (by omega), if_pos rfl]
      omega
    · rw [if_neg z]
      obtain ⟨q1, q2, q3, q4, q5, q6⟩ := b i (by omega)
      refine ⟨q1, q2, q3, q4, q5, ?_⟩
      have hs : (zN S i).2.2.1 < 7 := by omega
      rw [hd _ hs]
      split
      · rename_i e
        rw [e] at q6
        omega
      · exact q6
  · have hi : i < zC S + 1 := hi
    have hj : j < zC S + 1 := hj
    show ¬ pkw T (if i = zC S then (tS T n p0, rn isLt T n (tS T n p0), k, dN (zD S) k) else zN S i).1 (if i = zC S then (tS T n p0, rn isLt T n (tS T n p0), k, dN (zD S) k) else zN S i).2.1 = pkw T (if j = zC S then (tS T n p0, rn isLt T n (tS T n p0), k, dN (zD S) k) else zN S j).1 (if j = zC S then (tS T n p0, rn isLt T n (tS T n p0), k, dN (zD S) k) else zN S j).2.1 ∧ ¬ ((if i = zC S then (tS T n p0, rn isLt T n (tS T n p0), k, dN (zD S) k) else zN S i).2.2.1 = (if j = zC S then (tS T n p0, rn isLt T n (tS T n p0), k, dN (zD S) k) else zN S j).2.2.1 ∧ (if i = zC S then (tS T n p0, rn isLt T n (tS T n p0), k, dN (zD S) k) else zN S i).2.2.2 = (if j = zC S then (tS T n p0, rn isLt T n (tS T n p0), k, dN (zD S) k) else zN S j).2.2.2)
    by_cases zi : i = zC S
    · by_cases zj : j = zC S
      · omega
      · rw [if_pos zi, if_neg zj]
        refine ⟨fun e => hnew j (by omega) (by omega) e.symm, fun e => ?_⟩
        obtain ⟨q1, q2, q3, q4, q5, q6⟩ := b j (by omega)
        have e1 : k = (zN S j).2.2.1 := e.1
        have e2 : dN (zD S) k = (zN S j).2.2.2 := e.2
        rw [← e1] at q6
        omega
    · by_cases zj : j = zC S
      · rw [if_neg zi, if_pos zj]
        refine ⟨fun e => hnew i (by omega) (by omega) e, fun e => ?_⟩
        obtain ⟨q1, q2, q3, q4, q5, q6⟩ := b i (by omega)
        have e1 : (zN S i).2.2.1 = k := e.1
        have e2 : (zN S i).2.2.2 = dN (zD S) k := e.2
        rw [e1] at q6
        omega
      · rw [if_neg zi, if_neg zj]
        exact c i j (by omega) (by omega) hij
theorem fn_num {T : Nat → Nat} {n i k : Nat} {S : pZ} (h : nmsI T n S) (hi : i < zC S) (hk : (zN S i).2.2.1 = k) : (zN S i).2.2.2 < dN (zD S) k := by
  have := (h.2.1 i hi).2.2.2.2.2
  rw [hk] at this
  exact this
theorem yr_in {D D' : oD} (h : yrI D) (hp : ¬ D 0 0 ≤ 0) (h0 : D' 0 = D 0) (h1 : D' 1 = D 1) : yrI D' := by
  rcases h with ⟨e, -⟩ | ⟨⟨y, a, b, e⟩, t⟩
  · rw [e] at hp
    exact absurd (by decide : (0 : Int32) ≤ 0) hp
  · refine Or.inr ⟨⟨y, a, b, by rw [h0]; exact e⟩, ?_⟩
    unfold tN
    rw [h1]
    exact t
theorem wt_in {D D' : oD} (h : WFt D) (h1 : D' 1 = D 1) : WFt D' := by
  unfold WFt tN
  rw [h1]
  exact h
theorem zI_0 {T : Nat → Nat} {n : Nat} {S : pZ} (h : zI T n S) (hp : ¬ zD S 0 0 ≤ 0) (hr : dN (zD S) 0 < rmN 0) (hz : zF (pHarb T n (dN (zD S) 0) (pAv T n S)) = 0) : zI T n (pIn 0 (pHarb T n (dN (zD S) 0) (pAv T n S))) := by
  obtain ⟨i1, i2, i3, i4, i5, i6, i7⟩ := h
  unfold pHarb at hz ⊢
  obtain ⟨z1, y1⟩ := pB_0 hz
  rw [y1] at hz ⊢
  obtain ⟨n1, n2, t1⟩ := nw_of z1
  rw [t1] at hz ⊢
  obtain ⟨z2, y2⟩ := pB_0 hz
  rw [y2] at hz ⊢
  obtain ⟨v, l2, u2, t2⟩ := tk_of z2
  rw [t2] at hz ⊢
  obtain ⟨z3, y3⟩ := pB_0 hz
  rw [y3] at hz ⊢
  obtain ⟨w, l3, u3, t3⟩ := tk_of z3
  rw [t3] at hz ⊢

  have e2 : (hp_u (hp_u (zD S) 3 (dN (zD S) 0) (nI v)) 4 (dN (zD S) 0) (nI w)) 2 = zD S 2 := by rw [hu_ne (by decide), hu_ne (by decide)]
  have hc : WFc (hp_u (hp_u (zD S) 3 (dN (zD S) 0) (nI v)) 4 (dN (zD S) 0) (nI w)) := by
    unfold WFc
    simp only [dN_same e2, e2]
    exact i2
  have hdd : ∀ i, i < 7 → dN (hp_u (hp_u (hp_u (zD S) 3 (dN (zD S) 0) (nI v)) 4 (dN (zD S) 0) (nI w)) 2 0 (zD S 2 0 + 1)) i = if i = 0 then dN (zD S) 0 + 1 else dN (zD S) i := by
    intro i hi
    have := dN_in (k := 0) (by decide) hi hc
    rw [e2, dN_same e2, dN_same e2] at this
    exact this
  have hcc : WFc (hp_u (hp_u (hp_u (zD S) 3 (dN (zD S) 0) (nI v)) 4 (dN (zD S) 0) (nI w)) 2 0 (zD S 2 0 + 1)) := by
    have := wf_in (k := 0) (by decide) hc (by rw [dN_same e2]; exact hr)
    rw [e2] at this
    exact this
  have hww := wr_0 i2 i3 i6 rfl hr ⟨v, l2, u2, rfl⟩ ⟨w, l3, u3, rfl⟩
  refine ⟨?_, hcc, hww.1, wt_in i4 ?_, yr_in i5 hp ?_ ?_, hww.2, ?_⟩
  · exact (tE_le (tE_le (tE_le (tE_le (tE_le (tE_le i1).1).1).1).1).1).1
  · show (hp_u (hp_u (hp_u (zD S) 3 (dN (zD S) 0) (nI v)) 4 (dN (zD S) 0) (nI w)) 2 0 (zD S 2 0 + 1)) 1 = _
    rw [hu_ne (by decide), hu_ne (by decide), hu_ne (by decide)]
  · show (hp_u (hp_u (hp_u (zD S) 3 (dN (zD S) 0) (nI v)) 4 (dN (zD S) 0) (nI w)) 2 0 (zD S 2 0 + 1)) 0 = _
    rw [hu_ne (by decide), hu_ne (by decide), hu_ne (by decide)]
  · show (hp_u (hp_u (hp_u (zD S) 3 (dN (zD S) 0) (nI v)) 4 (dN (zD S) 0) (nI w)) 2 0 (zD S 2 0 + 1)) 1 = _
    rw [hu_ne (by decide), hu_ne (by decide), hu_ne (by decide)]
  · exact nms_ad (k := 0) (p0 := zP (pAv T n S)) (by decide) i7 n1.1 n2 hdd
theorem zI_3 {T : Nat → Nat} {n : Nat} {S : pZ} (h : zI T n S) (hp : ¬ zD S 0 0 ≤ 0) (hr : dN (zD S) 3 < rmN 3) (hz : zF (pRiv T n (dN (zD S) 3) (pAv T n S)) = 0) : zI T n (pIn 3 (pRiv T n (dN (zD S) 3) (pAv T n S))) := by
  obtain ⟨i1, i2, i3, i4, i5, i6, i7⟩ := h
  unfold pRiv at hz ⊢
  obtain ⟨z1, y1⟩ := pB_0 hz
  rw [y1] at hz ⊢
  obtain ⟨-, j, k1, c1, s1, t1⟩ := fn_of z1
  rw [t1] at hz ⊢
  obtain ⟨z2, y2⟩ := pB_0 hz
  rw [y2] at hz ⊢
  obtain ⟨w, l2, u2, t2⟩ := tk_of z2
  rw [t2] at hz ⊢

  have e2 : (hp_u (hp_u (zD S) 10 (dN (zD S) 3) (nI (zN S j).2.2.2)) 11 (dN (zD S) 3) (nI w)) 2 = zD S 2 := by rw [hu_ne (by decide), hu_ne (by decide)]
  have hc : WFc (hp_u (hp_u (zD S) 10 (dN (zD S) 3) (nI (zN S j).2.2.2)) 11 (dN (zD S) 3) (nI w)) := by
    unfold WFc
    simp only [dN_same e2, e2]
    exact i2
  have hdd : ∀ i, i < 7 → dN (hp_u (hp_u (hp_u (zD S) 10 (dN (zD S) 3) (nI (zN S j).2.2.2)) 11 (dN (zD S) 3) (nI w)) 2 3 (zD S 2 3 + 1)) i = if i = 3 then dN (zD S) 3 + 1 else dN (zD S) i := by
    intro i hi
    have := dN_in (k := 3) (by decide) hi hc
    rw [e2, dN_same e2, dN_same e2] at this
    exact this
  have hcc : WFc (hp_u (hp_u (hp_u (zD S) 10 (dN (zD S) 3) (nI (zN S j).2.2.2)) 11 (dN (zD S) 3) (nI w)) 2 3 (zD S 2 3 + 1)) := by
    have := wf_in (k := 3) (by decide) hc (by rw [dN_same e2]; exact hr)
    rw [e2] at this
    exact this
  have hww := wr_3 i2 i3 i6 rfl ⟨_, fn_num i7 c1 s1, rfl⟩ ⟨w, l2, u2, rfl⟩
  refine ⟨?_, hcc, hww.1, wt_in i4 ?_, yr_in i5 hp ?_ ?_, hww.2, ?_⟩
  · exact (tE_le (tE_le (tE_le (tE_le i1).1).1).1).1
  · show (hp_u (hp_u (hp_u (zD S) 10 (dN (zD S) 3) (nI (zN S j).2.2.2)) 11 (dN (zD S) 3) (nI w)) 2 3 (zD S 2 3 + 1)) 1 = _
    rw [hu_ne (by decide), hu_ne (by decide), hu_ne (by decide)]
  · show (hp_u (hp_u (hp_u (zD S) 10 (dN (zD S) 3) (nI (zN S j).2.2.2)) 11 (dN (zD S) 3) (nI w)) 2 3 (zD S 2 3 + 1)) 0 = _
    rw [hu_ne (by decide), hu_ne (by decide), hu_ne (by decide)]
  · show (hp_u (hp_u (hp_u (zD S) 10 (dN (zD S) 3) (nI (zN S j).2.2.2)) 11 (dN (zD S) 3) (nI w)) 2 3 (zD S 2 3 + 1)) 1 = _
    rw [hu_ne (by decide), hu_ne (by decide), hu_ne (by decide)]
  · exact nms_same i7 ((hdd 0 (by decide)).trans (if_neg (by decide))) ((hdd 2 (by decide)).trans (if_neg (by decide))) ((hdd 5 (by decide)).trans (if_neg (by decide)))
theorem zI_4 {T : Nat → Nat} {n : Nat} {S : pZ} (h : zI T n S) (hp : ¬ zD S 0 0 ≤ 0) (hr : dN (zD S) 4 < rmN 4) (hz : zF (pLet T n (dN (zD S) 4) (pAv T n S)) = 0) : zI T n (pIn 4 (pLet T n (dN (zD S) 4) (pAv T n S))) := by
  obtain ⟨i1, i2, i3, i4, i5, i6, i7⟩ := h
  unfold pLet at hz ⊢
  obtain ⟨z1, y1⟩ := pB_0 hz
  rw [y1] at hz ⊢
  obtain ⟨-, j, k1, c1, s1, t1⟩ := fn_of z1
  rw [t1] at hz ⊢
  obtain ⟨z2, y2⟩ := pB_0 hz
  rw [y2] at hz ⊢
  obtain ⟨w, l2, u2, t2⟩ := tk_of z2
  rw [t2] at hz ⊢

  have e2 : (hp_u (hp_u (zD S) 12 (dN (zD S) 4) (nI (zN S j).2.2.2)) 13 (dN (zD S) 4) (nI w)) 2 = zD S 2 := by rw [hu_ne (by decide), hu_ne (by decide)]
  have hc : WFc (hp_u (hp_u (zD S) 12 (dN (zD S) 4) (nI (zN S j).2.2.2)) 13 (dN (zD S) 4) (nI w)) := by
    unfold WFc
    simp only [dN_same e2, e2]
    exact i2
  have hdd : ∀ i, i < 7 → dN (hp_u (hp_u (hp_u (zD S) 12 (dN (zD S) 4) (nI (zN S j).2.2.2)) 13 (dN (zD S) 4) (nI w)) 2 4 (zD S 2 4 + 1)) i = if i = 4 then dN (zD S) 4 + 1 else dN (zD S) i := by
    intro i hi
    have := dN_in (k := 4) (by decide) hi hc
    rw [e2, dN_same e2, dN_same e2] at this
    exact this
  have hcc : WFc (hp_u (hp_u (hp_u (zD S) 12 (dN (zD S) 4) (nI (zN S j).2.2.2)) 13 (dN (zD S) 4) (nI w)) 2 4 (zD S 2 4 + 1)) := by
    have := wf_in (k := 4) (by decide) hc (by rw [dN_same e2]; exact hr)
    rw [e2] at this
    exact this
  have hww := wr_4 i2 i3 i6 rfl ⟨_, fn_num i7 c1 s1, rfl⟩ ⟨w, l2, u2, rfl⟩
  refine ⟨?_, hcc, hww.1, wt_in i4 ?_, yr_in i5 hp ?_ ?_, hww.2, ?_⟩
  · exact (tE_le (tE_le (tE_le (tE_le i1).1).1).1).1
  · show (hp_u (hp_u (hp_u (zD S) 12 (dN (zD S) 4) (nI (zN S j).2.2.2)) 13 (dN (zD S) 4) (nI w)) 2 4 (zD S 2 4 + 1)) 1 = _
    rw [hu_ne (by decide), hu_ne (by decide), hu_ne (by decide)]
  · show (hp_u (hp_u (hp_u (zD S) 12 (dN (zD S) 4) (nI (zN S j).2.2.2)) 13 (dN (zD S) 4) (nI w)) 2 4 (zD S 2 4 + 1)) 0 = _
    rw [hu_ne (by decide), hu_ne (by decide), hu_ne (by decide)]
  · show (hp_u (hp_u (hp_u (zD S) 12 (dN (zD S) 4) (nI (zN S j).2.2.2)) 13 (dN (zD S) 4) (nI w)) 2 4 (zD S 2 4 + 1)) 1 = _
    rw [hu_ne (by decide), hu_ne (by decide), hu_ne (by decide)]
  · exact nms_same i7 ((hdd 0 (by decide)).trans (if_neg (by decide))) ((hdd 2 (by decide)).trans (if_neg (by decide))) ((hdd 5 (by decide)).trans (if_neg (by decide)))
theorem zI_5 {T : Nat → Nat} {n : Nat} {S : pZ} (h : zI T n S) (hp : ¬ zD S 0 0 ≤ 0) (hr : dN (zD S) 5 < rmN 5) (hz : zF (pHan T n (dN (zD S) 5) (pAv T n S)) = 0) : zI T n (pIn 5 (pHan T n (dN (zD S) 5) (pAv T n S))) := by
  obtain ⟨i1, i2, i3, i4, i5, i6, i7⟩ := h
  unfold pHan at hz ⊢
  obtain ⟨z1, y1⟩ := pB_0 hz
  rw [y1] at hz ⊢
  obtain ⟨n1, n2, t1⟩ := nw_of z1
  rw [t1] at hz ⊢
  obtain ⟨z2, y2⟩ := pB_0 hz
  rw [y2] at hz ⊢
  obtain ⟨v, l2, u2, t2⟩ := tk_of z2
  rw [t2] at hz ⊢
  obtain ⟨z3, y3⟩ := pB_0 hz
  rw [y3] at hz ⊢
  obtain ⟨w, l3, u3, t3⟩ := tk_of z3
  rw [t3] at hz ⊢

  have e2 : (hp_u (hp_u (zD S) 14 (dN (zD S) 5) (nI v)) 15 (dN (zD S) 5) (nI w)) 2 = zD S 2 := by rw [hu_ne (by decide), hu_ne (by decide)]
  have hc : WFc (hp_u (hp_u (zD S) 14 (dN (zD S) 5) (nI v)) 15 (dN (zD S) 5) (nI w)) := by
    unfold WFc
    simp only [dN_same e2, e2]
    exact i2
  have hdd : ∀ i, i < 7 → dN (hp_u (hp_u (hp_u (zD S) 14 (dN (zD S) 5) (nI v)) 15 (dN (zD S) 5) (nI w)) 2 5 (zD S 2 5 + 1)) i = if i = 5 then dN (zD S) 5 + 1 else dN (zD S) i := by
    intro i hi
    have := dN_in (k := 5) (by decide) hi hc
    rw [e2, dN_same e2, dN_same e2] at this
    exact this
  have hcc : WFc (hp_u (hp_u (hp_u (zD S) 14 (dN (zD S) 5) (nI v)) 15 (dN (zD S) 5) (nI w)) 2 5 (zD S 2 5 + 1)) := by
    have := wf_in (k := 5) (by decide) hc (by rw [dN_same e2]; exact hr)
    rw [e2] at this
    exact this
  have hww := wr_5 i2 i3 i6 rfl ⟨v, l2, u2, rfl⟩ ⟨w, l3, u3, rfl⟩
  refine ⟨?_, hcc, hww.1, wt_in i4 ?_, yr_in i5 hp ?_ ?_, hww.2, ?_⟩
  · exact (tE_le (tE_le (tE_le (tE_le (tE_le (tE_le i1).1).1).1).1).1).1
  · show (hp_u (hp_u (hp_u (zD S) 14 (dN (zD S) 5) (nI v)) 15 (dN (zD S) 5) (nI w)) 2 5 (zD S 2 5 + 1)) 1 = _
    rw [hu_ne (by decide), hu_ne (by decide), hu_ne (by decide)]
  · show (hp_u (hp_u (hp_u (zD S) 14 (dN (zD S) 5) (nI v)) 15 (dN (zD S) 5) (nI w)) 2 5 (zD S 2 5 + 1)) 0 = _
    rw [hu_ne (by decide), hu_ne (by decide), hu_ne (by decide)]
  · show (hp_u (hp_u (hp_u (zD S) 14 (dN (zD S) 5) (nI v)) 15 (dN (zD S) 5) (nI w)) 2 5 (zD S 2 5 + 1)) 1 = _
    rw [hu_ne (by decide), hu_ne (by decide), hu_ne (by decide)]
  · exact nms_ad (k := 5) (p0 := zP (pAv T n S)) (by decide) i7 n1.1 n2 hdd
theorem zI_6 {T : Nat → Nat} {n : Nat} {S : pZ} (h : zI T n S) (hp : ¬ zD S 0 0 ≤ 0) (hr : dN (zD S) 6 < rmN 6) (hz : zF (pNea T n (dN (zD S) 6) (pAv T n S)) = 0) : zI T n (pIn 6 (pNea T n (dN (zD S) 6) (pAv T n S))) := by
  obtain ⟨i1, i2, i3, i4, i5, i6, i7⟩ := h
  unfold pNea at hz ⊢
  obtain ⟨z1, y1⟩ := pB_0 hz
  rw [y1] at hz ⊢
  obtain ⟨v, l1, u1, t1⟩ := tk_of z1
  rw [t1] at hz ⊢
  obtain ⟨z2, y2⟩ := pB_0 hz
  rw [y2] at hz ⊢
  obtain ⟨w, l2, u2, t2⟩ := tk_of z2
  rw [t2] at hz ⊢

  have e2 : (hp_u (hp_u (zD S) 16 (dN (zD S) 6) (nI v)) 17 (dN (zD S) 6) (nI w)) 2 = zD S 2 := by rw [hu_ne (by decide), hu_ne (by decide)]
  have hc : WFc (hp_u (hp_u (zD S) 16 (dN (zD S) 6) (nI v)) 17 (dN (zD S) 6) (nI w)) := by
    unfold WFc
    simp only [dN_same e2, e2]
    exact i2
  have hdd : ∀ i, i < 7 → dN (hp_u (hp_u (hp_u (zD S) 16 (dN (zD S) 6) (nI v)) 17 (dN (zD S) 6) (nI w)) 2 6 (zD S 2 6 + 1)) i = if i = 6 then dN (zD S) 6 + 1 else dN (zD S) i := by
    intro i hi
    have := dN_in (k := 6) (by decide) hi hc
    rw [e2, dN_same e2, dN_same e2] at this
    exact this
  have hcc : WFc (hp_u (hp_u (hp_u (zD S) 16 (dN (zD S) 6) (nI v)) 17 (dN (zD S) 6) (nI w)) 2 6 (zD S 2 6 + 1)) := by
    have := wf_in (k := 6) (by decide) hc (by rw [dN_same e2]; exact hr)
    rw [e2] at this
    exact this
  have hww := wr_6 i2 i3 i6 rfl ⟨v, l1, u1, rfl⟩ ⟨w, l2, u2, rfl⟩
  refine ⟨?_, hcc, hww.1, wt_in i4 ?_, yr_in i5 hp ?_ ?_, hww.2, ?_⟩
  · exact (tE_le (tE_le (tE_le (tE_le (tE_le i1).1).1).1).1).1
  · show (hp_u (hp_u (hp_u (zD S) 16 (dN (zD S) 6) (nI v)) 17 (dN (zD S) 6) (nI w)) 2 6 (zD S 2 6 + 1)) 1 = _
    rw [hu_ne (by decide), hu_ne (by decide), hu_ne (by decide)]
  · show (hp_u (hp_u (hp_u (zD S) 16 (dN (zD S) 6) (nI v)) 17 (dN (zD S) 6) (nI w)) 2 6 (zD S 2 6 + 1)) 0 = _
    rw [hu_ne (by decide), hu_ne (by decide), hu_ne (by decide)]
  · show (hp_u (hp_u (hp_u (zD S) 16 (dN (zD S) 6) (nI v)) 17 (dN (zD S) 6) (nI w)) 2 6 (zD S 2 6 + 1)) 1 = _
    rw [hu_ne (by decide), hu_ne (by decide), hu_ne (by decide)]
  · exact nms_same i7 ((hdd 0 (by decide)).trans (if_neg (by decide))) ((hdd 2 (by decide)).trans (if_neg (by decide))) ((hdd 5 (by decide)).trans (if_neg (by decide)))
theorem zI_2 {T : Nat → Nat} {n : Nat} {S : pZ} (h : zI T n S) (hp : ¬ zD S 0 0 ≤ 0) (hr : dN (zD S) 2 < rmN 2) (hz : zF (pWom T n (dN (zD S) 2) (pAv T n S)) = 0) : zI T n (pIn 2 (pWom T n (dN (zD S) 2) (pAv T n S))) := by
  obtain ⟨i1, i2, i3, i4, i5, i6, i7⟩ := h
  unfold pWom at hz ⊢
  obtain ⟨z1, y1⟩ := pB_0 hz
  rw [y1] at hz ⊢
  obtain ⟨n1, n2, t1⟩ := nw_of z1
  split at hz
  · exact absurd hz (by show ¬ (1 : Nat) = 0; decide)
  rename_i q8
  rw [if_neg q8]
  split at hz
  · exact absurd hz (by show ¬ (1 : Nat) = 0; decide)
  rename_i q11
  rw [if_neg q11]
  have hkd : inR (tQ T n (zP (pNw T n 2 (dN (zD S) 2) (pAv T n S))) - 8) 0 3 := by
    obtain ⟨q, hq1, hq⟩ := nI_of (x := tQ T n (zP (pNw T n 2 (dN (zD S) 2) (pAv T n S)))) (fun z => q8 (Int32.lt_of_lt_of_le z (by decide)))
    rw [hq] at q8 q11 ⊢
    have a8 : 8 ≤ q := Nat.le_of_not_lt (fun z => q8 (nI_lt (a := q) (b := 8) z (by omega)))
    have a11 : q ≤ 11 := Nat.le_of_not_lt (fun z => q11 (nI_lt (a := 11) (b := q) z hq1))
    rw [show (8 : Int32) = nI 8 from rfl, pk_sub a8]
    exact ⟨q - 8, by omega, by omega, rfl⟩
  generalize tQ T n (zP (pNw T n 2 (dN (zD S) 2) (pAv T n S))) - 8 = kd at hkd hz ⊢
  rw [t1] at hz ⊢
  unfold pWom2 at hz ⊢
  have q16 := it_0 (by decide) hz
  rw [if_pos q16] at hz ⊢
  obtain ⟨z2, y2⟩ := pB_0 hz
  rw [y2] at hz ⊢
  obtain ⟨-, j, k2, c2, s2, t2⟩ := fn_of z2
  rw [t2] at hz ⊢
  obtain ⟨z3, y3⟩ := pB_0 hz
  rw [y3] at hz ⊢
  obtain ⟨v, l3, u3, t3⟩ := tk_of z3
  rw [t3] at hz ⊢
  obtain ⟨z4, y4⟩ := pB_0 hz
  rw [y4] at hz ⊢
  obtain ⟨w, l4, u4, t4⟩ := tk_of z4
  rw [t4] at hz ⊢
  have hv0 : ∃ q, q < dN (zD S) 0 ∧ nI (zN (pAd T n 2 (dN (zD S) 2) (pAv T n S)) j).2.2.2 = nI q := by
    have s2' : (zN (pAd T n 2 (dN (zD S) 2) (pAv T n S)) j).2.2.1 = 0 := s2
    have c2' : j < zC S + 1 := c2
    have ee : zN (pAd T n 2 (dN (zD S) 2) (pAv T n S)) j = if j = zC S then (tS T n (zP (pAv T n S)), rn isLt T n (tS T n (zP (pAv T n S))), 2, dN (zD S) 2) else zN S j := rfl
    by_cases q : j = zC S
    · rw [ee, if_pos q] at s2'
      exact absurd s2' (by show ¬ (2 : Nat) = 0; decide)
    · rw [ee, if_neg q] at s2' ⊢
      exact ⟨_, fn_num i7 (by omega) s2', rfl⟩

  have e2 : (hp_u (hp_u (hp_u (hp_u (zD S) 6 (dN (zD S) 2) kd) 7 (dN (zD S) 2) (nI (zN (pAd T n 2 (dN (zD S) 2) (pAv T n S)) j).2.2.2)) 8 (dN (zD S) 2) (nI v)) 9 (dN (zD S) 2) (nI w)) 2 = zD S 2 := by rw [hu_ne (by decide), hu_ne (by decide), hu_ne (by decide), hu_ne (by decide)]
  have hc : WFc (hp_u (hp_u (hp_u (hp_u (zD S) 6 (dN (zD S) 2) kd) 7 (dN (zD S) 2) (nI (zN (pAd T n 2 (dN (zD S) 2) (pAv T n S)) j).2.2.2)) 8 (dN (zD S) 2) (nI v)) 9 (dN (zD S) 2) (nI w)) := by
    unfold WFc
    simp only [dN_same e2, e2]
    exact i2
  have hdd : ∀ i, i < 7 → dN (hp_u (hp_u (hp_u (hp_u (hp_u (zD S) 6 (dN (zD S) 2) kd) 7 (dN (zD S) 2) (nI (zN (pAd T n 2 (dN (zD S) 2) (pAv T n S)) j).2.2.2)) 8 (dN (zD S) 2) (nI v)) 9 (dN (zD S) 2) (nI w)) 2 2 (zD S 2 2 + 1)) i = if i = 2 then dN (zD S) 2 + 1 else dN (zD S) i := by
    intro i hi
    have := dN_in (k := 2) (by decide) hi hc
    rw [e2, dN_same e2, dN_same e2] at this
    exact this
  have hcc : WFc (hp_u (hp_u (hp_u (hp_u (hp_u (zD S) 6 (dN (zD S) 2) kd) 7 (dN (zD S) 2) (nI (zN (pAd T n 2 (dN (zD S) 2) (pAv T n S)) j).2.2.2)) 8 (dN (zD S) 2) (nI v)) 9 (dN (zD S) 2) (nI w)) 2 2 (zD S 2 2 + 1)) := by
    have := wf_in (k := 2) (by decide) hc (by rw [dN_same e2]; exact hr)
    rw [e2] at this
    exact this
  have hww := wr_2 i2 i3 i6 rfl hkd hv0 ⟨v, l3, u3, rfl⟩ ⟨w, l4, u4, rfl⟩
  refine ⟨?_, hcc, hww.1, wt_in i4 ?_, yr_in i5 hp ?_ ?_, hww.2, ?_⟩
  · exact (tE_le (tE_le (tE_le (tE_le (tE_le (tE_le (tE_le (tE_le (tE_le i1).1).1).1).1).1).1).1).1).1
  · show (hp_u (hp_u (hp_u (hp_u (hp_u (zD S) 6 (dN (zD S) 2) kd) 7 (dN (zD S) 2) (nI (zN (pAd T n 2 (dN (zD S) 2) (pAv T n S)) j).2.2.2)) 8 (dN (zD S) 2) (nI v)) 9 (dN (zD S) 2) (nI w)) 2 2 (zD S 2 2 + 1)) 1 = _
    rw [hu_ne (by decide), hu_ne (by decide), hu_ne (by decide), hu_ne (by decide), hu_ne (by decide)]
  · show (hp_u (hp_u (hp_u (hp_u (hp_u (zD S) 6 (dN (zD S) 2) kd) 7 (dN (zD S) 2) (nI (zN (pAd T n 2 (dN (zD S) 2) (pAv T n S)) j).2.2.2)) 8 (dN (zD S) 2) (nI v)) 9 (dN (zD S) 2) (nI w)) 2 2 (zD S 2 2 + 1)) 0 = _
    rw [hu_ne (by decide), hu_ne (by decide), hu_ne (by decide), hu_ne (by decide), hu_ne (by decide)]
  · show (hp_u (hp_u (hp_u (hp_u (hp_u (zD S) 6 (dN (zD S) 2) kd) 7 (dN (zD S) 2) (nI (zN (pAd T n 2 (dN (zD S) 2) (pAv T n S)) j).2.2.2)) 8 (dN (zD S) 2) (nI v)) 9 (dN (zD S) 2) (nI w)) 2 2 (zD S 2 2 + 1)) 1 = _
    rw [hu_ne (by decide), hu_ne (by decide), hu_ne (by decide), hu_ne (by decide), hu_ne (by decide)]
  · exact nms_ad (k := 2) (p0 := zP (pAv T n S)) (by decide) i7 n1.1 n2 hdd
theorem or_bit {H m b : Nat} (hH : H ≤ 6) (hm : m < 2 ^ H) (hb : b < H) : ∃ m', m' < 2 ^ H ∧ nI m ||| bit b = nI m' := by
  refine lt_of_tb (by omega) (fun j h1 h2 => ?_)
  rw [tb_or, tb_lt hm h1 h2, tb_bit (by omega) h2, decide_eq_false (by omega)]
  rfl
theorem zI_1 {T : Nat → Nat} {n : Nat} {S : pZ} (h : zI T n S) (hp : ¬ zD S 0 0 ≤ 0) (hr : dN (zD S) 1 < rmN 1) (hz : zF (pSea T n (pAv T n S)) = 0) : zI T n (pIn 1 (pSea T n (pAv T n S))) := by
  obtain ⟨i1, i2, i3, i4, i5, i6, i7⟩ := h
  unfold pSea at hz ⊢
  obtain ⟨z1, y1⟩ := pB_0 hz
  rw [y1] at hz ⊢
  obtain ⟨-, i, k1, c1, s1, t1⟩ := fn_of z1
  rw [t1] at hz ⊢
  obtain ⟨z2, y2⟩ := pB_0 hz
  rw [y2] at hz ⊢
  obtain ⟨-, j, k2, c2, s2, t2⟩ := fn_of z2
  rw [t2] at hz ⊢
  have q := it_0 (by decide) hz
  rw [if_pos q] at hz ⊢
  have ha : (zN S i).2.2.2 < dN (zD S) 0 := fn_num i7 c1 s1
  have hb : (zN S j).2.2.2 < dN (zD S) 0 := fn_num i7 c2 s2
  have b0 := i2.2.1
  show zI T n (pIn 1 (pAv T n (pSt 5 (zN S j).2.2.2 (hp_u (zD S) 5 (zN S i).2.2.2 (zD S 5 (zN S i).2.2.2 ||| bit (zN S j).2.2.2) 5 (zN S j).2.2.2 ||| bit (zN S i).2.2.2) (pSt 5 (zN S i).2.2.2 (zD S 5 (zN S i).2.2.2 ||| bit (zN S j).2.2.2) (pVl (zN S j).2.2.2 (pAv T n (pVl (zN S i).2.2.2 (pAv T n S))))))))
  clear q hz z1 z2 y1 y2 t1 t2 k1 k2 c1 c2 s1 s2
  generalize (zN S i).2.2.2 = a at ha ⊢
  generalize (zN S j).2.2.2 = b at hb ⊢
  have hX : zD (pIn 1 (pAv T n (pSt 5 b (hp_u (zD S) 5 a (zD S 5 a ||| bit b) 5 b ||| bit a) (pSt 5 a (zD S 5 a ||| bit b) (pVl b (pAv T n (pVl a (pAv T n S)))))))) = hp_u (hp_u (hp_u (zD S) 5 a (zD S 5 a ||| bit b)) 5 b (hp_u (zD S) 5 a (zD S 5 a ||| bit b) 5 b ||| bit a)) 2 1 (zD S 2 1 + 1) := rfl
  have e2 : (hp_u (hp_u (zD S) 5 a (zD S 5 a ||| bit b)) 5 b (hp_u (zD S) 5 a (zD S 5 a ||| bit b) 5 b ||| bit a)) 2 = zD S 2 := by rw [hu_ne (by decide), hu_ne (by decide)]
  have hc : WFc (hp_u (hp_u (zD S) 5 a (zD S 5 a ||| bit b)) 5 b (hp_u (zD S) 5 a (zD S 5 a ||| bit b) 5 b ||| bit a)) := by
    unfold WFc
    simp only [dN_same e2, e2]
    exact i2
  generalize hY : hp_u (hp_u (zD S) 5 a (zD S 5 a ||| bit b)) 5 b (hp_u (zD S) 5 a (zD S 5 a ||| bit b) 5 b ||| bit a) = Y at *
  have y5 : ∀ i, i < 6 → ∃ m, m < 2 ^ dN (zD S) 0 ∧ Y 5 i = nI m := by
    intro i hi
    have hx : ∀ i, i < 6 → ∃ m, m < 2 ^ dN (zD S) 0 ∧ hp_u (zD S) 5 a (zD S 5 a ||| bit b) 5 i = nI m := by
      intro i hi
      rw [hu_if]
      by_cases c : i = a
      · rw [if_pos c]
        obtain ⟨m, h1, h2⟩ := i6.2.1 a (by omega)
        rw [h2]
        exact or_bit b0 h1 hb
      · rw [if_neg c]
        exact i6.2.1 i hi
    rw [← hY, hu_if]
    by_cases c : i = b
    · rw [if_pos c]
      obtain ⟨m, h1, h2⟩ := hx b (by omega)
      rw [h2]
      exact or_bit b0 h1 ha
    · rw [if_neg c]
      exact hx i hi
  have yx : ∀ j, j ≠ 5 → Y j = zD S j := fun j hj => by rw [← hY, hu_ne hj, hu_ne hj]
  have hdd : ∀ i, i < 7 → dN (hp_u Y 2 1 (zD S 2 1 + 1)) i = if i = 1 then dN (zD S) 1 + 1 else dN (zD S) i := by
    intro i hi
    have := dN_in (k := 1) (by decide) hi hc
    rw [e2, dN_same e2, dN_same e2] at this
    exact this
  have hcc : WFc (hp_u Y 2 1 (zD S 2 1 + 1)) := by
    have := wf_in (k := 1) (by decide) hc (by rw [dN_same e2]; exact hr)
    rw [e2] at this
    exact this
  have hxx : ∀ j, j ≠ 2 → j ≠ 5 → hp_u Y 2 1 (zD S 2 1 + 1) j = zD S j := fun j a b => by rw [hu_ne a, yx j b]
  have d0 := (hdd 0 (by decide)).trans (if_neg (by decide))
  have d2 := (hdd 2 (by decide)).trans (if_neg (by decide))
  have d3 := (hdd 3 (by decide)).trans (if_neg (by decide))
  have d4 := (hdd 4 (by decide)).trans (if_neg (by decide))
  have d5 := (hdd 5 (by decide)).trans (if_neg (by decide))
  have d6 := (hdd 6 (by decide)).trans (if_neg (by decide))
  have hD : zD (pIn 1 (pAv T n (pSt 5 b (hp_u (zD S) 5 a (zD S 5 a ||| bit b) 5 b ||| bit a) (pSt 5 a (zD S 5 a ||| bit b) (pVl b (pAv T n (pVl a (pAv T n S)))))))) = hp_u Y 2 1 (zD S 2 1 + 1) := hX
  refine ⟨?_, ?_, ?_, ?_, ?_, ?_, ?_⟩
  · exact (tE_le (tE_le (tE_le i1).1).1).1
  · exact hD ▸ hcc
  · show WFh (zD (pIn 1 (pAv T n (pSt 5 b (hp_u (zD S) 5 a (zD S 5 a ||| bit b) 5 b ||| bit a) (pSt 5 a (zD S 5 a ||| bit b) (pVl b (pAv T n (pVl a (pAv T n S)))))))))
    rw [hD]
    unfold WFh
    rw [d0, d2, hxx 7 (by decide) (by decide)]
    exact i3
  · show WFt (zD (pIn 1 (pAv T n (pSt 5 b (hp_u (zD S) 5 a (zD S 5 a ||| bit b) 5 b ||| bit a) (pSt 5 a (zD S 5 a ||| bit b) (pVl b (pAv T n (pVl a (pAv T n S)))))))))
    rw [hD]
    exact wt_in i4 (hxx 1 (by decide) (by decide))
  · show yrI (zD (pIn 1 (pAv T n (pSt 5 b (hp_u (zD S) 5 a (zD S 5 a ||| bit b) 5 b ||| bit a) (pSt 5 a (zD S 5 a ||| bit b) (pVl b (pAv T n (pVl a (pAv T n S)))))))))
    rw [hD]
    exact yr_in i5 hp (hxx 0 (by decide) (by decide)) (hxx 1 (by decide) (by decide))
  · show WFr (zD (pIn 1 (pAv T n (pSt 5 b (hp_u (zD S) 5 a (zD S 5 a ||| bit b) 5 b ||| bit a) (pSt 5 a (zD S 5 a ||| bit b) (pVl b (pAv T n (pVl a (pAv T n S)))))))))
    rw [hD]
    obtain ⟨r1, r2, r3, r4, r5, r6, r7⟩ := i6
    unfold WFr
    simp only [d0, d2, d3, d4, d5, d6, hxx 3 (by decide) (by decide), hxx 4 (by decide) (by decide), hxx 6 (by decide) (by decide), hxx 8 (by decide) (by decide), hxx 9 (by decide) (by decide), hxx 10 (by decide) (by decide), hxx 11 (by decide) (by decide), hxx 12 (by decide) (by decide), hxx 13 (by decide) (by decide), hxx 14 (by decide) (by decide), hxx 15 (by decide) (by decide), hxx 16 (by decide) (by decide), hxx 17 (by decide) (by decide)]
    exact ⟨r1, fun i hi => by rw [hu_ne (by decide)]; exact y5 i hi, r3, r4, r5, r6, r7⟩
  · have := nms_same (T := T) (n := n) (f := 0) (p := 0) (v := 0) (D' := hp_u Y 2 1 (zD S 2 1 + 1)) i7 d0 d2 d5
    rw [← hD] at this
    exact this
theorem zI_7 {T : Nat → Nat} {n : Nat} {S : pZ} (h : zI T n S) (hz : zF (pOath T n S) = 0) : zI T n (pOath T n S) := by
  obtain ⟨i1, i2, i3, i4, i5, i6, i7⟩ := h
  unfold pOath at hz ⊢
  have q := it_0 (by decide) hz
  rw [if_pos q] at hz ⊢
  obtain ⟨z1, y1⟩ := pB_0 hz
  rw [y1] at hz ⊢
  obtain ⟨v, l1, u1, t1⟩ := tk_of z1
  rw [t1] at hz ⊢
  obtain ⟨z2, y2⟩ := pB_0 hz
  rw [y2] at hz ⊢
  obtain ⟨w, l2, u2, t2⟩ := tk_of z2
  rw [t2] at hz ⊢
  have h0 : ∀ i, i < 7 → dN (zD S) i = 0 := by
    rcases i5 with ⟨-, e⟩ | ⟨⟨y, a, b, e⟩, -⟩
    · exact e
    · rw [e] at q
      exact absurd q (nI_nle (by omega) (by omega))
  have e2 : (hp_u (hp_u (zD S) 0 0 (nI v)) 1 0 (nI w)) 2 = zD S 2 := by rw [hu_ne (by decide), hu_ne (by decide)]
  have ej : ∀ j, 2 ≤ j → (hp_u (hp_u (zD S) 0 0 (nI v)) 1 0 (nI w)) j = zD S j := fun j hj => by rw [hu_ne (by omega), hu_ne (by omega)]
  have ed : ∀ i, dN (hp_u (hp_u (zD S) 0 0 (nI v)) 1 0 (nI w)) i = dN (zD S) i := fun i => dN_same e2 i
  have et : tN (hp_u (hp_u (zD S) 0 0 (nI v)) 1 0 (nI w)) = w := by
    unfold tN
    rw [hu_eq, nI_cl (by omega)]
  refine ⟨(tE_le (tE_le (tE_le (tE_le (tE_le i1).1).1).1).1).1, ?_, ?_, ?_, ?_, ?_, nms_same i7 (ed 0) (ed 2) (ed 5)⟩
  · show WFc (hp_u (hp_u (zD S) 0 0 (nI v)) 1 0 (nI w))
    unfold WFc
    simp only [ed, e2]
    exact i2
  · show WFh (hp_u (hp_u (zD S) 0 0 (nI v)) 1 0 (nI w))
    unfold WFh
    rw [ed, ed, ej 7 (by decide)]
    exact i3
  · show WFt (hp_u (hp_u (zD S) 0 0 (nI v)) 1 0 (nI w))
    unfold WFt
    rw [et, hu_eq]
    exact ⟨rfl, u2⟩
  · refine Or.inr ⟨⟨v, l1, u1, ?_⟩, ?_⟩
    · show hp_u (hp_u (zD S) 0 0 (nI v)) 1 0 (nI w) 0 0 = nI v
      rw [hu_ne (by decide), hu_eq]
    · show 0 < tN (hp_u (hp_u (zD S) 0 0 (nI v)) 1 0 (nI w))
      rw [et]
      omega
  · show WFr (hp_u (hp_u (zD S) 0 0 (nI v)) 1 0 (nI w))
    unfold WFr
    simp only [ed, ej 3 (by decide), ej 4 (by decide), ej 5 (by decide), ej 6 (by decide), ej 8 (by decide), ej 9 (by decide), ej 10 (by decide), ej 11 (by decide), ej 12 (by decide), ej 13 (by decide), ej 14 (by decide), ej 15 (by decide), ej 16 (by decide), ej 17 (by decide)]
    exact i6
/-- a line, counted -/
def pLc (T : Nat → Nat) (n k : Nat) (S : pZ) : pZ := pB (pLn T n k S) (fun S1 => if k = 7 then S1 else pIn k S1)
theorem zI_L {T : Nat → Nat} {n k : Nat} {S : pZ} (hk : k < 8) (h : zI T n S) (hz : zF (pLc T n k S) = 0) : zI T n (pLc T n k S) := by
  unfold pLc at hz ⊢
  obtain ⟨z1, y1⟩ := pB_0 hz
  rw [y1]
  unfold pLn at z1 ⊢
  by_cases c7 : k = 7
  · subst c7
    rw [if_pos rfl] at z1 ⊢
    exact zI_7 h z1
  · rw [if_neg c7] at z1 ⊢
    rw [if_neg c7]
    split at z1
    · exact absurd z1 (by show ¬ (6 : Nat) = 0; decide)
    · rename_i ht
      rw [if_neg ht]
      split at z1
      · exact absurd z1 (by show ¬ (5 : Nat) = 0; decide)
      · rename_i hr
        rw [if_neg hr]
        have hr := Nat.lt_of_not_le hr
        rcases (by omega : k = 0 ∨ k = 1 ∨ k = 2 ∨ k = 3 ∨ k = 4 ∨ k = 5 ∨ k = 6) with rfl | rfl | rfl | rfl | rfl | rfl | rfl
        · exact zI_0 h ht hr z1
        · exact zI_1 h ht hr z1
        · exact zI_2 h ht hr z1
        · exact zI_3 h ht hr z1
        · exact zI_4 h ht hr z1
        · exact zI_5 h ht hr z1
        · exact zI_6 h ht hr z1
