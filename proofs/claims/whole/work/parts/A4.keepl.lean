/-! A line keeps what a reading keeps. -/
theorem pB_0 {S : pZ} {K : pZ → pZ} (h : zF (pB S K) = 0) : zF S = 0 ∧ pB S K = K S := by
  by_cases c : zF S = 0
  · exact ⟨c, if_pos c⟩
  · rw [pB_n c] at h
    exact absurd h c
theorem nms_same {T : Nat → Nat} {n f p v : Nat} {S : pZ} {D' : oD} (h : nmsI T n S) (h0 : dN D' 0 = dN (zD S) 0) (h2 : dN D' 2 = dN (zD S) 2) (h5 : dN D' 5 = dN (zD S) 5) : nmsI T n (f, p, v, zC S, zN S, D') := by
  obtain ⟨a, b, c⟩ := h
  refine ⟨by show zC S = dN D' 0 + dN D' 2 + dN D' 5; rw [h0, h2, h5]; exact a, fun i hi => ?_, c⟩
  obtain ⟨q1, q2, q3, q4, q5, q6⟩ := b i hi
  refine ⟨q1, q2, q3, q4, q5, ?_⟩
  show (zN S i).2.2.2 < dN D' (zN S i).2.2.1
  rcases q5 with e | e | e
  · rw [e] at q6 ⊢; rw [h0]; exact q6
  · rw [e] at q6 ⊢; rw [h2]; exact q6
  · rw [e] at q6 ⊢; rw [h5]; exact q6
theorem nms_ad {T : Nat → Nat} {n k f p v : Nat} {S : pZ} {D' : oD} {p0 : Nat} (hk : k = 0 ∨ k = 2 ∨ k = 5) (h : nmsI T n S) (hn : tK T n p0 = 1) (hK : fnd T (zN S) (tW T n p0) (zC S) 0 = none) (hd : ∀ i, i < 7 → dN D' i = if i = k then dN (zD S) k + 1 else dN (zD S) i) : nmsI T n (f, p, v, zC S + 1, (fun i => if i = zC S then (tS T n p0, rn isLt T n (tS T n p0), k, dN (zD S) k) else zN S i), D') := by
  obtain ⟨a, b, c⟩ := h
  obtain ⟨t1, t2, t3, t4, t5, t6⟩ := tK_1 hn
  have hnew := fnd_none _ _ hK
  have e0 := hd 0 (by decide)
  have e2 := hd 2 (by decide)
  have e5 := hd 5 (by decide)
  refine ⟨?_, fun i hi => ?_, fun i j hi hj hij => ?_⟩
  · show zC S + 1 = dN D' 0 + dN D' 2 + dN D' 5
    rw [e0, e2, e5]
    rcases hk with rfl | rfl | rfl <;> simp <;> omega
  · have hi : i < zC S + 1 := hi
    show nmI T n D' (if i = zC S then (tS T n p0, rn isLt T n (tS T n p0), k, dN (zD S) k) else zN S i)
    by_cases z : i = zC S
    · rw [if_pos z]
      refine ⟨t4, t3, t5, fun q h1 h2 => (rn_all (n := n) h1 h2).2, hk, ?_⟩
      show dN (zD S) k < dN D' k
      rw [hd k (by omega), if_pos rfl]
      omega
    · rw [if_neg z]
      obtain ⟨q1, q2, q3, q4, q5, q6⟩ := b i (by omega)
      refine ⟨q1, q2, q3, q4, q5, ?_⟩
      have hs : (zN S i).2.2.1 < 7 := by omega
      rw [hd _ hs]
      split
      · rename_i e
        rw [e] at q6
        omega
      · exact q6
  · have hi : i < zC S + 1 := hi
    have hj : j < zC S + 1 := hj
    show ¬ pkw T (if i = zC S then (tS T n p0, rn isLt T n (tS T n p0), k, dN (zD S) k) else zN S i).1 (if i = zC S then (tS T n p0, rn isLt T n (tS T n p0), k, dN (zD S) k) else zN S i).2.1 = pkw T (if j = zC S then (tS T n p0, rn isLt T n (tS T n p0), k, dN (zD S) k) else zN S j).1 (if j = zC S then (tS T n p0, rn isLt T n (tS T n p0), k, dN (zD S) k) else zN S j).2.1 ∧ ¬ ((if i = zC S then (tS T n p0, rn isLt T n (tS T n p0), k, dN (zD S) k) else zN S i).2.2.1 = (if j = zC S then (tS T n p0, rn isLt T n (tS T n p0), k, dN (zD S) k) else zN S j).2.2.1 ∧ (if i = zC S then (tS T n p0, rn isLt T n (tS T n p0), k, dN (zD S) k) else zN S i).2.2.2 = (if j = zC S then (tS T n p0, rn isLt T n (tS T n p0), k, dN (zD S) k) else zN S j).2.2.2)
    by_cases zi : i = zC S
    · by_cases zj : j = zC S
      · omega
      · rw [if_pos zi, if_neg zj]
        refine ⟨fun e => hnew j (by omega) (by omega) e.symm, fun e => ?_⟩
        obtain ⟨q1, q2, q3, q4, q5, q6⟩ := b j (by omega)
        have e1 : k = (zN S j).2.2.1 := e.1
        have e2 : dN (zD S) k = (zN S j).2.2.2 := e.2
        rw [← e1] at q6
        omega
    · by_cases zj : j = zC S
      · rw [if_neg zi, if_pos zj]
        refine ⟨fun e => hnew i (by omega) (by omega) e, fun e => ?_⟩
        obtain ⟨q1, q2, q3, q4, q5, q6⟩ := b i (by omega)
        have e1 : (zN S i).2.2.1 = k := e.1
        have e2 : (zN S i).2.2.2 = dN (zD S) k := e.2
        rw [e1] at q6
        omega
      · rw [if_neg zi, if_neg zj]
        exact c i j (by omega) (by omega) hij
theorem fn_num {T : Nat → Nat} {n i k : Nat} {S : pZ} (h : nmsI T n S) (hi : i < zC S) (hk : (zN S i).2.2.1 = k) : (zN S i).2.2.2 < dN (zD S) k := by
  have := (h.2.1 i hi).2.2.2.2.2
  rw [hk] at this
  exact this
theorem yr_in {D D' : oD} (h : yrI D) (hp : ¬ D 0 0 ≤ 0) (h0 : D' 0 = D 0) (h1 : D' 1 = D 1) : yrI D' := by
  rcases h with ⟨e, -⟩ | ⟨⟨y, a, b, e⟩, t⟩
  · rw [e] at hp
    exact absurd (by decide : (0 : Int32) ≤ 0) hp
  · refine Or.inr ⟨⟨y, a, b, by rw [h0]; exact e⟩, ?_⟩
    unfold tN
    rw [h1]
    exact t
theorem wt_in {D D' : oD} (h : WFt D) (h1 : D' 1 = D 1) : WFt D' := by
  unfold WFt tN
  rw [h1]
  exact h
theorem zI_0 {T : Nat → Nat} {n : Nat} {S : pZ} (h : zI T n S) (hp : ¬ zD S 0 0 ≤ 0) (hr : dN (zD S) 0 < rmN 0) (hz : zF (pHarb T n (dN (zD S) 0) (pAv T n S)) = 0) : zI T n (pIn 0 (pHarb T n (dN (zD S) 0) (pAv T n S))) := by
  obtain ⟨i1, i2, i3, i4, i5, i6, i7⟩ := h
  unfold pHarb at hz ⊢
  obtain ⟨z1, y1⟩ := pB_0 hz
  rw [y1] at hz ⊢
  obtain ⟨n1, n2, t1⟩ := nw_of z1
  rw [t1] at hz ⊢
  obtain ⟨z2, y2⟩ := pB_0 hz
  rw [y2] at hz ⊢
  obtain ⟨v, l2, u2, t2⟩ := tk_of z2
  rw [t2] at hz ⊢
  obtain ⟨z3, y3⟩ := pB_0 hz
  rw [y3] at hz ⊢
  obtain ⟨w, l3, u3, t3⟩ := tk_of z3
  rw [t3] at hz ⊢

  have e2 : (hp_u (hp_u (zD S) 3 (dN (zD S) 0) (nI v)) 4 (dN (zD S) 0) (nI w)) 2 = zD S 2 := by rw [hu_ne (by decide), hu_ne (by decide)]
  have hc : WFc (hp_u (hp_u (zD S) 3 (dN (zD S) 0) (nI v)) 4 (dN (zD S) 0) (nI w)) := by
    unfold WFc
    simp only [dN_same e2, e2]
    exact i2
  have hdd : ∀ i, i < 7 → dN (hp_u (hp_u (hp_u (zD S) 3 (dN (zD S) 0) (nI v)) 4 (dN (zD S) 0) (nI w)) 2 0 (zD S 2 0 + 1)) i = if i = 0 then dN (zD S) 0 + 1 else dN (zD S) i := by
    intro i hi
    have := dN_in (k := 0) (by decide) hi hc
    rw [e2, dN_same e2, dN_same e2] at this
    exact this
  have hcc : WFc (hp_u (hp_u (hp_u (zD S) 3 (dN (zD S) 0) (nI v)) 4 (dN (zD S) 0) (nI w)) 2 0 (zD S 2 0 + 1)) := by
    have := wf_in (k := 0) (by decide) hc (by rw [dN_same e2]; exact hr)
    rw [e2] at this
    exact this
  have hww := wr_0 i2 i3 i6 rfl hr ⟨v, l2, u2, rfl⟩ ⟨w, l3, u3, rfl⟩
  refine ⟨?_, hcc, hww.1, wt_in i4 ?_, yr_in i5 hp ?_ ?_, hww.2, ?_⟩
  · exact (tE_le (tE_le (tE_le (tE_le (tE_le (tE_le i1).1).1).1).1).1).1
  · show (hp_u (hp_u (hp_u (zD S) 3 (dN (zD S) 0) (nI v)) 4 (dN (zD S) 0) (nI w)) 2 0 (zD S 2 0 + 1)) 1 = _
    rw [hu_ne (by decide), hu_ne (by decide), hu_ne (by decide)]
  · show (hp_u (hp_u (hp_u (zD S) 3 (dN (zD S) 0) (nI v)) 4 (dN (zD S) 0) (nI w)) 2 0 (zD S 2 0 + 1)) 0 = _
    rw [hu_ne (by decide), hu_ne (by decide), hu_ne (by decide)]
  · show (hp_u (hp_u (hp_u (zD S) 3 (dN (zD S) 0) (nI v)) 4 (dN (zD S) 0) (nI w)) 2 0 (zD S 2 0 + 1)) 1 = _
    rw [hu_ne (by decide), hu_ne (by decide), hu_ne (by decide)]
  · exact nms_ad (k := 0) (p0 := zP (pAv T n S)) (by decide) i7 n1.1 n2 hdd
theorem zI_3 {T : Nat → Nat} {n : Nat} {S : pZ} (h : zI T n S) (hp : ¬ zD S 0 0 ≤ 0) (hr : dN (zD S) 3 < rmN 3) (hz : zF (pRiv T n (dN (zD S) 3) (pAv T n S)) = 0) : zI T n (pIn 3 (pRiv T n (dN (zD S) 3) (pAv T n S))) := by
  obtain ⟨i1, i2, i3, i4, i5, i6, i7⟩ := h
  unfold pRiv at hz ⊢
  obtain ⟨z1, y1⟩ := pB_0 hz
  rw [y1] at hz ⊢
  obtain ⟨-, j, k1, c1, s1, t1⟩ := fn_of z1
  rw [t1] at hz ⊢
  obtain ⟨z2, y2⟩ := pB_0 hz
  rw [y2] at hz ⊢
  obtain ⟨w, l2, u2, t2⟩ := tk_of z2
  rw [t2] at hz ⊢

  have e2 : (hp_u (hp_u (zD S) 10 (dN (zD S) 3) (nI (zN S j).2.2.2)) 11 (dN (zD S) 3) (nI w)) 2 = zD S 2 := by rw [hu_ne (by decide), hu_ne (by decide)]
  have hc : WFc (hp_u (hp_u (zD S) 10 (dN (zD S) 3) (nI (zN S j).2.2.2)) 11 (dN (zD S) 3) (nI w)) := by
    unfold WFc
    simp only [dN_same e2, e2]
    exact i2
  have hdd : ∀ i, i < 7 → dN (hp_u (hp_u (hp_u (zD S) 10 (dN (zD S) 3) (nI (zN S j).2.2.2)) 11 (dN (zD S) 3) (nI w)) 2 3 (zD S 2 3 + 1)) i = if i = 3 then dN (zD S) 3 + 1 else dN (zD S) i := by
    intro i hi
    have := dN_in (k := 3) (by decide) hi hc
    rw [e2, dN_same e2, dN_same e2] at this
    exact this
  have hcc : WFc (hp_u (hp_u (hp_u (zD S) 10 (dN (zD S) 3) (nI (zN S j).2.2.2)) 11 (dN (zD S) 3) (nI w)) 2 3 (zD S 2 3 + 1)) := by
    have := wf_in (k := 3) (by decide) hc (by rw [dN_same e2]; exact hr)
    rw [e2] at this
    exact this
  have hww := wr_3 i2 i3 i6 rfl ⟨_, fn_num i7 c1 s1, rfl⟩ ⟨w, l2, u2, rfl⟩
  refine ⟨?_, hcc, hww.1, wt_in i4 ?_, yr_in i5 hp ?_ ?_, hww.2, ?_⟩
  · exact (tE_le (tE_le (tE_le (tE_le i1).1).1).1).1
  · show (hp_u (hp_u (hp_u (zD S) 10 (dN (zD S) 3) (nI (zN S j).2.2.2)) 11 (dN (zD S) 3) (nI w)) 2 3 (zD S 2 3 + 1)) 1 = _
    rw [hu_ne (by decide), hu_ne (by decide), hu_ne (by decide)]
  · show (hp_u (hp_u (hp_u (zD S) 10 (dN (zD S) 3) (nI (zN S j).2.2.2)) 11 (dN (zD S) 3) (nI w)) 2 3 (zD S 2 3 + 1)) 0 = _
    rw [hu_ne (by decide), hu_ne (by decide), hu_ne (by decide)]
  · show (hp_u (hp_u (hp_u (zD S) 10 (dN (zD S) 3) (nI (zN S j).2.2.2)) 11 (dN (zD S) 3) (nI w)) 2 3 (zD S 2 3 + 1)) 1 = _
    rw [hu_ne (by decide), hu_ne (by decide), hu_ne (by decide)]
  · exact nms_same i7 ((hdd 0 (by decide)).trans (if_neg (by decide))) ((hdd 2 (by decide)).trans (if_neg (by decide))) ((hdd 5 (by decide)).trans (if_neg (by decide)))
theorem zI_4 {T : Nat → Nat} {n : Nat} {S : pZ} (h : zI T n S) (hp : ¬ zD S 0 0 ≤ 0) (hr : dN (zD S) 4 < rmN 4) (hz : zF (pLet T n (dN (zD S) 4) (pAv T n S)) = 0) : zI T n (pIn 4 (pLet T n (dN (zD S) 4) (pAv T n S))) := by
  obtain ⟨i1, i2, i3, i4, i5, i6, i7⟩ := h
  unfold pLet at hz ⊢
  obtain ⟨z1, y1⟩ := pB_0 hz
  rw [y1] at hz ⊢
  obtain ⟨-, j, k1, c1, s1, t1⟩ := fn_of z1
  rw [t1] at hz ⊢
  obtain ⟨z2, y2⟩ := pB_0 hz
  rw [y2] at hz ⊢
  obtain ⟨w, l2, u2, t2⟩ := tk_of z2
  rw [t2] at hz ⊢

  have e2 : (hp_u (hp_u (zD S) 12 (dN (zD S) 4) (nI (zN S j).2.2.2)) 13 (dN (zD S) 4) (nI w)) 2 = zD S 2 := by rw [hu_ne (by decide), hu_ne (by decide)]
  have hc : WFc (hp_u (hp_u (zD S) 12 (dN (zD S) 4) (nI (zN S j).2.2.2)) 13 (dN (zD S) 4) (nI w)) := by
    unfold WFc
    simp only [dN_same e2, e2]
    exact i2
  have hdd : ∀ i, i < 7 → dN (hp_u (hp_u (hp_u (zD S) 12 (dN (zD S) 4) (nI (zN S j).2.2.2)) 13 (dN (zD S) 4) (nI w)) 2 4 (zD S 2 4 + 1)) i = if i = 4 then dN (zD S) 4 + 1 else dN (zD S) i := by
    intro i hi
    have := dN_in (k := 4) (by decide) hi hc
    rw [e2, dN_same e2, dN_same e2] at this
    exact this
  have hcc : WFc (hp_u (hp_u (hp_u (zD S) 12 (dN (zD S) 4) (nI (zN S j).2.2.2)) 13 (dN (zD S) 4) (nI w)) 2 4 (zD S 2 4 + 1)) := by
    have := wf_in (k := 4) (by decide) hc (by rw [dN_same e2]; exact hr)
    rw [e2] at this
    exact this
  have hww := wr_4 i2 i3 i6 rfl ⟨_, fn_num i7 c1 s1, rfl⟩ ⟨w, l2, u2, rfl⟩
  refine ⟨?_, hcc, hww.1, wt_in i4 ?_, yr_in i5 hp ?_ ?_, hww.2, ?_⟩
  · exact (tE_le (tE_le (tE_le (tE_le i1).1).1).1).1
  · show (hp_u (hp_u (hp_u (zD S) 12 (dN (zD S) 4) (nI (zN S j).2.2.2)) 13 (dN (zD S) 4) (nI w)) 2 4 (zD S 2 4 + 1)) 1 = _
    rw [hu_ne (by decide), hu_ne (by decide), hu_ne (by decide)]
  · show (hp_u (hp_u (hp_u (zD S) 12 (dN (zD S) 4) (nI (zN S j).2.2.2)) 13 (dN (zD S) 4) (nI w)) 2 4 (zD S 2 4 + 1)) 0 = _
    rw [hu_ne (by decide), hu_ne (by decide), hu_ne (by decide)]
  · show (hp_u (hp_u (hp_u (zD S) 12 (dN (zD S) 4) (nI (zN S j).2.2.2)) 13 (dN (zD S) 4) (nI w)) 2 4 (zD S 2 4 + 1)) 1 = _
    rw [hu_ne (by decide), hu_ne (by decide), hu_ne (by decide)]
  · exact nms_same i7 ((hdd 0 (by decide)).trans (if_neg (by decide))) ((hdd 2 (by decide)).trans (if_neg (by decide))) ((hdd 5 (by decide)).trans (if_neg (by decide)))
theorem zI_5 {T : Nat → Nat} {n : Nat} {S : pZ} (h : zI T n S) (hp : ¬ zD S 0 0 ≤ 0) (hr : dN (zD S) 5 < rmN 5) (hz : zF (pHan T n (dN (zD S) 5) (pAv T n S)) = 0) : zI T n (pIn 5 (pHan T n (dN (zD S) 5) (pAv T n S))) := by
  obtain ⟨i1, i2, i3, i4, i5, i6, i7⟩ := h
  unfold pHan at hz ⊢
  obtain ⟨z1, y1⟩ := pB_0 hz
  rw [y1] at hz ⊢
  obtain ⟨n1, n2, t1⟩ := nw_of z1
  rw [t1] at hz ⊢
  obtain ⟨z2, y2⟩ := pB_0 hz
  rw [y2] at hz ⊢
  obtain ⟨v, l2, u2, t2⟩ := tk_of z2
  rw [t2] at hz ⊢
  obtain ⟨z3, y3⟩ := pB_0 hz
  rw [y3] at hz ⊢
  obtain ⟨w, l3, u3, t3⟩ := tk_of z3
  rw [t3] at hz ⊢

  have e2 : (hp_u (hp_u (zD S) 14 (dN (zD S) 5) (nI v)) 15 (dN (zD S) 5) (nI w)) 2 = zD S 2 := by rw [hu_ne (by decide), hu_ne (by decide)]
  have hc : WFc (hp_u (hp_u (zD S) 14 (dN (zD S) 5) (nI v)) 15 (dN (zD S) 5) (nI w)) := by
    unfold WFc
    simp only [dN_same e2, e2]
    exact i2
  have hdd : ∀ i, i < 7 → dN (hp_u (hp_u (hp_u (zD S) 14 (dN (zD S) 5) (nI v)) 15 (dN (zD S) 5) (nI w)) 2 5 (zD S 2 5 + 1)) i = if i = 5 then dN (zD S) 5 + 1 else dN (zD S) i := by
    intro i hi
    have := dN_in (k := 5) (by decide) hi hc
    rw [e2, dN_same e2, dN_same e2] at this
    exact this
  have hcc : WFc (hp_u (hp_u (hp_u (zD S) 14 (dN (zD S) 5) (nI v)) 15 (dN (zD S) 5) (nI w)) 2 5 (zD S 2 5 + 1)) := by
    have := wf_in (k := 5) (by decide) hc (by rw [dN_same e2]; exact hr)
    rw [e2] at this
    exact this
  have hww := wr_5 i2 i3 i6 rfl ⟨v, l2, u2, rfl⟩ ⟨w, l3, u3, rfl⟩
  refine ⟨?_, hcc, hww.1, wt_in i4 ?_, yr_in i5 hp ?_ ?_, hww.2, ?_⟩
  · exact (tE_le (tE_le (tE_le (tE_le (tE_le (tE_le i1).1).1).1).1).1).1
  · show (hp_u (hp_u (hp_u (zD S) 14 (dN (zD S) 5) (nI v)) 15 (dN (zD S) 5) (nI w)) 2 5 (zD S 2 5 + 1)) 1 = _
    rw [hu_ne (by decide), hu_ne (by decide), hu_ne (by decide)]
  · show (hp_u (hp_u (hp_u (zD S) 14 (dN (zD S) 5) (nI v)) 15 (dN (zD S) 5) (nI w)) 2 5 (zD S 2 5 + 1)) 0 = _
    rw [hu_ne (by decide), hu_ne (by decide), hu_ne (by decide)]
  · show (hp_u (hp_u (hp_u (zD S) 14 (dN (zD S) 5) (nI v)) 15 (dN (zD S) 5) (nI w)) 2 5 (zD S 2 5 + 1)) 1 = _
    rw [hu_ne (by decide), hu_ne (by decide), hu_ne (by decide)]
  · exact nms_ad (k := 5) (p0 := zP (pAv T n S)) (by decide) i7 n1.1 n2 hdd
theorem zI_6 {T : Nat → Nat} {n : Nat} {S : pZ} (h : zI T n S) (hp : ¬ zD S 0 0 ≤ 0) (hr : dN (zD S) 6 < rmN 6) (hz : zF (pNea T n (dN (zD S) 6) (pAv T n S)) = 0) : zI T n (pIn 6 (pNea T n (dN (zD S) 6) (pAv T n S))) := by
  obtain ⟨i1, i2, i3, i4, i5, i6, i7⟩ := h
  unfold pNea at hz ⊢
  obtain ⟨z1, y1⟩ := pB_0 hz
  rw [y1] at hz ⊢
  obtain ⟨v, l1, u1, t1⟩ := tk_of z1
  rw [t1] at hz ⊢
  obtain ⟨z2, y2⟩ := pB_0 hz
  rw [y2] at hz ⊢
  obtain ⟨w, l2, u2, t2⟩ := tk_of z2
  rw [t2] at hz ⊢

  have e2 : (hp_u (hp_u (zD S) 16 (dN (zD S) 6) (nI v)) 17 (dN (zD S) 6) (nI w)) 2 = zD S 2 := by rw [hu_ne (by decide), hu_ne (by decide)]
  have hc : WFc (hp_u (hp_u (zD S) 16 (dN (zD S) 6) (nI v)) 17 (dN (zD S) 6) (nI w)) := by
    unfold WFc
    simp only [dN_same e2, e2]
    exact i2
  have hdd : ∀ i, i < 7 → dN (hp_u (hp_u (hp_u (zD S) 16 (dN (zD S) 6) (nI v)) 17 (dN (zD S) 6) (nI w)) 2 6 (zD S 2 6 + 1)) i = if i = 6 then dN (zD S) 6 + 1 else dN (zD S) i := by
    intro i hi
    have := dN_in (k := 6) (by decide) hi hc
    rw [e2, dN_same e2, dN_same e2] at this
    exact this
  have hcc : WFc (hp_u (hp_u (hp_u (zD S) 16 (dN (zD S) 6) (nI v)) 17 (dN (zD S) 6) (nI w)) 2 6 (zD S 2 6 + 1)) := by
    have := wf_in (k := 6) (by decide) hc (by rw [dN_same e2]; exact hr)
    rw [e2] at this
    exact this
  have hww := wr_6 i2 i3 i6 rfl ⟨v, l1, u1, rfl⟩ ⟨w, l2, u2, rfl⟩
  refine ⟨?_, hcc, hww.1, wt_in i4 ?_, yr_in i5 hp ?_ ?_, hww.2, ?_⟩
  · exact (tE_le (tE_le (tE_le (tE_le (tE_le i1).1).1).1).1).1
  · show (hp_u (hp_u (hp_u (zD S) 16 (dN (zD S) 6) (nI v)) 17 (dN (zD S) 6) (nI w)) 2 6 (zD S 2 6 + 1)) 1 = _
    rw [hu_ne (by decide), hu_ne (by decide), hu_ne (by decide)]
  · show (hp_u (hp_u (hp_u (zD S) 16 (dN (zD S) 6) (nI v)) 17 (dN (zD S) 6) (nI w)) 2 6 (zD S 2 6 + 1)) 0 = _
    rw [hu_ne (by decide), hu_ne (by decide), hu_ne (by decide)]
  · show (hp_u (hp_u (hp_u (zD S) 16 (dN (zD S) 6) (nI v)) 17 (dN (zD S) 6) (nI w)) 2 6 (zD S 2 6 + 1)) 1 = _
    rw [hu_ne (by decide), hu_ne (by decide), hu_ne (by decide)]
  · exact nms_same i7 ((hdd 0 (by decide)).trans (if_neg (by decide))) ((hdd 2 (by decide)).trans (if_neg (by decide))) ((hdd 5 (by decide)).trans (if_neg (by decide)))
