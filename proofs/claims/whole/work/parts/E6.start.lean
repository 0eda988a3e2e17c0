/-! The law from its first row on. -/
theorem Ng.new {h : hp_H} {c m : Nat} (hl : h.1.1.length < 1000000) (q : Ng h) : Ng (hp_new h c m) := (congrArg (fun z => hp_new z c m) (show h = gl (fun _ => 0) (fun _ => none) h from q)).trans (gl_new hl)
theorem Ng0 : Ng hc_0 := by
  unfold Ng
  refine Prod.ext rfl (Prod.ext ?_ (Prod.ext rfl ?_))
  · funext k i
    show (0 : Int32) = (if k = sp_X then (fun _ => 0) else (fun _ => 0) : Nat → Int32) i
    split <;> rfl
  · funext k i
    show (none : Option Nat) = (if k = sp_X then (fun _ => none) else (fun _ => none) : Nat → Option Nat) i
    split <;> rfl
theorem i_head_ev {r : Option Value} {h' : hp_H} (e : Ev 8 mX11_init 33 [.ref 0] [] hc_52 r h') : Ev 8 mX11_init 0 [.ref 0] [] hc_1 r h' := by
  obtain ⟨r2, h2, e2, z1, z2⟩ := i_head (Q := fun a b => a = r ∧ b = h') ⟨r, h', e, rfl, rfl⟩
  subst z1
  subst z2
  exact e2
theorem made_ : ∃ H1 H2 : hp_H, Ev 8 mX11_init 0 [.ref 0] [] hc_1 none H1 ∧ H1.1.1.length = 95 ∧ Ev 3 mX12_init 0 [.ref 95] [] (hp_new H1 11 37) none H2 ∧ chk (hp_new H2 13 1) = true := ⟨H1_, H2_, i_head_ev H1_ok.1, H1_ok.2, H2_ok.1, H2_ok.2⟩
theorem H3_chk {H3_ : hp_H} (h : chk H3_ = true) : H3_.1 = (SH, 112, (SH.map Prod.snd).sum) ∧ (∀ q ∈ RT, H3_.2.2.2 q.1 q.2.1 = some q.2.2) ∧ (H3_.2.2.2 0 2 = some 25 ∧ H3_.2.2.2 3 0 = some 4) ∧ (∀ i, i < 16 → H3_.2.2.2 44 i = some (46 + i)) ∧
    (H3_.2.1 25 0 = 0 ∧ H3_.2.1 25 1 = 0) ∧ (∀ i, i < 7 → H3_.2.1 26 i = 0) ∧ (∀ i, i < 6 → H3_.2.1 29 i = 0) ∧
    (H3_.2.1 42 0 = 0 ∧ H3_.2.1 42 1 = 0 ∧ H3_.2.1 42 2 = 0 ∧ H3_.2.1 42 3 = 0 ∧ H3_.2.1 42 4 = -2 ∧ H3_.2.1 42 5 = 0 ∧ H3_.2.1 43 2 = 0 ∧ H3_.2.1 43 3 = 0 ∧ H3_.2.1 1 1 = 0 ∧ H3_.2.1 0 10 = 0 ∧ H3_.2.1 0 11 = 0 ∧ H3_.2.1 0 12 = 0) ∧
    (∀ k, k < 25 → H3_.2.2.1 21 k = lN (KWf k)) ∧ (∀ i, i < 9 → H3_.2.1 98 i = 0) ∧ (∀ i, i < 6 → H3_.2.1 98 (9 + 3 * i + 2) = 0) ∧ (∀ i, i < 6 → H3_.2.1 100 i = 0) ∧
    (H3_.2.1 95 14 = 0 ∧ H3_.2.1 95 20 = 0 ∧ H3_.2.1 95 21 = 0 ∧ H3_.2.1 95 2 = 0 ∧ H3_.2.1 95 11 = 0 ∧ H3_.2.1 95 9 = 0 ∧ H3_.2.1 95 10 = -1) := by
  unfold chk at h
  simp only [Bool.and_eq_true, decide_eq_true_eq, List.all_eq_true, List.mem_range] at h
  obtain ⟨⟨⟨⟨⟨⟨⟨⟨⟨⟨a1, a2⟩, a3⟩, a4⟩, ⟨a5, a6⟩, a7⟩, a8⟩, a9⟩, a10⟩, a11⟩, a12⟩, a13⟩ := h
  exact ⟨a1, a2, a3, a4, a5, a6, a7, a8, a9, a10, a11, a12, a13⟩
def x0_ : sg := (fun _ _ => 0, fun _ => 0, 0, fun _ _ => 0, 0, fun _ _ => 0, 0, fun _ => 0, 0, 0, 0, -1)
theorem x0_wd : WD x0_ := by
  have dz : ∀ i, dN (fun _ _ => 0) i = 0 := fun i => rfl
  have tz : tN (fun _ _ => 0) = 0 := rfl
  refine ⟨⟨⟨fun i _ => rfl, by rw [dz]; omega, by rw [dz]; omega, by rw [dz]; omega, by rw [dz]; omega, by rw [dz]; omega, by rw [dz]; omega, by rw [dz]; omega⟩, fun w hw => absurd hw (by rw [dz]; omega), ⟨rfl, by rw [tz]; omega⟩, Or.inl ⟨rfl, fun i _ => dz i⟩, ?_⟩, ?_, by omega, fun i hi => absurd hi (by omega), by omega, fun i hi => absurd hi (by omega), by omega, fun i hi => absurd hi (by omega), fun _ => ⟨rfl, rfl, rfl, rfl, rfl, rfl⟩, fun z => absurd z (by decide)⟩
  · refine ⟨fun i hi => absurd hi (by rw [dz]; omega), fun i _ => ⟨0, by rw [dz]; decide, rfl⟩, fun i hi => absurd hi (by rw [dz]; omega), fun i hi => absurd hi (by rw [dz]; omega), fun i hi => absurd hi (by rw [dz]; omega), fun i hi => absurd hi (by rw [dz]; omega), fun i hi => absurd hi (by rw [dz]; omega)⟩
  · exact ⟨⟨0, by omega, rfl⟩, ⟨0, by omega, Or.inr (dz 0), rfl⟩, ⟨0, by omega, rfl⟩, ⟨0, by omega, rfl⟩, ⟨0, by rw [dz]; decide, rfl⟩⟩
section
variable {xs : Nat → Int32} {ρ : Nat → Option Nat}
theorem x0_rel {H3_ : hp_H} (hc : chk H3_ = true) {n : Nat} (hρ : ρ 0 = some n) : Lv n (gl xs ρ H3_).2.1 (gl xs ρ H3_).2.2.1 (gl xs ρ H3_).2.2.2 := by
  obtain ⟨-, a2, a3, a4, a5, a6, a7, a8, a9, a10, a11, a12, a13⟩ := H3_chk hc
  have eI : ∀ k, k < 1000000 → (gl xs ρ H3_).2.1 k = H3_.2.1 k := fun k hk => gl_I hk
  have eF : ∀ k, k < 1000000 → (gl xs ρ H3_).2.2.2 k = H3_.2.2.2 k := fun k hk => gl_R hk
  have rt : ∀ q ∈ RT, q.1 < 1000000 := by decide +kernel
  have dz : ∀ i, dN (fun _ _ => 0) i = 0 := fun i => rfl
  refine ⟨⟨x0_, x0_wd, ?_, ?_⟩, ?_⟩
  · refine ⟨25, 4, Or.inr rfl, Or.inl rfl, by decide, fun q hq => by rw [eF _ (rt q hq)]; exact a2 q hq, by rw [eF 0 (by decide)]; exact a3.1, by rw [eF 3 (by decide)]; exact a3.2, ?_, ?_, by rw [eI 43 (by decide)]; exact a8.2.2.2.2.2.2.1, by rw [eI 43 (by decide)]; exact a8.2.2.2.2.2.2.2.1, ?_, fun i hi => absurd hi (by omega), by rw [eI 1 (by decide)]; exact a8.2.2.2.2.2.2.2.2.1, fun i hi => absurd hi (by omega), by rw [eI 0 (by decide)]; exact a8.2.2.2.2.2.2.2.2.2.1, by rw [eI 0 (by decide)]; exact a8.2.2.2.2.2.2.2.2.2.2.1, by rw [eI 0 (by decide)]; exact a8.2.2.2.2.2.2.2.2.2.2.2, a9⟩
    · refine ⟨by rw [eI 25 (by decide)]; exact a5.1, by rw [eI 25 (by decide)]; exact a5.2, fun i hi => by rw [eI 26 (by decide)]; exact a6 i hi, fun i hi => absurd hi (by rw [dz]; omega), fun i hi => by rw [eI 29 (by decide)]; exact a7 i hi, fun i hi => absurd hi (by rw [dz]; omega), fun i hi => absurd hi (by rw [dz]; omega), fun i hi => absurd hi (by rw [dz]; omega), fun i hi => absurd hi (by rw [dz]; omega), fun i hi => absurd hi (by rw [dz]; omega)⟩
    · unfold mo
      rw [eI 42 (by decide)]
      exact ⟨a8.1, a8.2.1, a8.2.2.1, a8.2.2.2.1, a8.2.2.2.2.1, a8.2.2.2.2.2.1⟩
    · exact ⟨fun i => 46 + i, ⟨fun i hi => ⟨by rw [eF 44 (by decide)]; exact a4 i hi, by show 46 ≤ 46 + i; omega, by show 46 + i < 62; omega⟩, fun i j _ _ z => by have z : 46 + i = 46 + j := z; omega⟩, fun i hi => absurd hi (by omega)⟩
  · refine ⟨?_, by rw [eI 95 (by decide)]; exact a13.1, fun i hi => by rw [eI 100 (by decide)]; exact a12 i hi, by rw [eI 95 (by decide)]; exact a13.2.1, by rw [eI 95 (by decide)]; exact a13.2.2.1, fun i hi => absurd hi (by omega), fun i hi => absurd hi (by omega), by rw [eI 95 (by decide)]; exact a13.2.2.2.1, fun i hi => absurd hi (by omega), by rw [eI 95 (by decide)]; exact a13.2.2.2.2.1, by rw [eI 95 (by decide)]; exact a13.2.2.2.2.2.1, by rw [eI 95 (by decide)]; exact a13.2.2.2.2.2.2⟩
    refine ⟨by rw [eI 98 (by decide)]; exact a10 0 (by omega), by rw [eI 98 (by decide)]; exact a10 1 (by omega), fun i hi => by rw [eI 98 (by decide)]; exact a10 (2 + i) (by omega), fun i hi => absurd hi (by rw [dz]; omega), fun i hi => by rw [eI 98 (by decide)]; exact a11 i hi, fun i hi => absurd hi (by rw [dz]; omega), fun i hi => absurd hi (by rw [dz]; omega), fun i hi => absurd hi (by rw [dz]; omega), fun i hi => absurd hi (by rw [dz]; omega), fun i hi => absurd hi (by rw [dz]; omega)⟩
  · exact hρ
set_option maxRecDepth 10000 in
theorem l_start {n : Nat} (hn : n ≤ 3072) (hρ : ρ 0 = some n) : Ew 12 mL_law 0 [.ref sp_X, .null, .null, .null, .null, .null, .null] [] (gl xs ρ hc_0) (LQ (112 + 513) ((SH.map Prod.snd).sum + 6 * 513)) := by
  obtain ⟨H1_, H2_, E1_, l1, E2_, hc⟩ := made_
  have h3 := (H3_chk hc).1
  have l3 : H2_.1.1 ++ [(13, 1)] = SH := congrArg (fun z => z.1) h3
  have l2 : H2_.1.1.length = 111 := by
    have := congrArg List.length l3
    rw [List.length_append] at this
    have e : SH.length = 112 := by decide
    rw [e] at this
    have this : H2_.1.1.length + 1 = 112 := this
    omega
  have l1b : (hp_new H1_ 11 37).1.1.length = 96 := by
    show (H1_.1.1 ++ [(11, 37)]).length = 96
    rw [List.length_append, l1]
    rfl
  refine g_new (c := 10) (n := 13) (a := 0) (p := 3) dL_law_0 rfl rfl rfl (by decide) (by decide) rfl ?_
  rw [gl_new (by decide)]
  change Ew _ _ _ _ _ (gl xs ρ hc_1) _
  refine we_dup_ref (p := 4) dL_law_3 rfl ?_
  have e1 := Ev.gl (xs := xs) (n := ρ) E1_ (by rw [l1]; decide) (Ng.new (by decide) Ng0)
  refine we_callI_v (p := 7) (k' := 8) (a := [.ref 0]) (rr := [.ref 0]) dL_law_4 rfl rfl (by decide) rfl rfl rfl (rc_of (S := hc_1.1) rfl rfl (by decide) ⟨rfl, by decide⟩) (by decide) (by decide) (by decide) e1.1 (Or.inr (show ev_vs (hp_sh hc_1).length [.ref sp_X, .null, .null, .null, .null, .null, .null] [.ref 0] = true by decide +kernel)) rfl ?_
  refine we_astore_n (ls1 := [.ref sp_X, .ref 0, .null, .null, .null, .null, .null]) (p := 8) dL_law_7 rfl rfl ?_
  refine g_new (c := 11) (n := 37) (a := 95) (p := 11) dL_law_8 rfl rfl l1 (by decide) (by decide) rfl ?_
  rw [gl_new (by rw [l1]; decide)]
  refine we_dup_ref (p := 12) dL_law_11 rfl ?_
  have e2 := Ev.gl (xs := xs) (n := ρ) E2_ (by rw [l2]; decide) (Ng.new (by rw [l1]; decide) e1.2)
  refine we_callI_v (p := 15) (k' := 3) (a := [.ref 95]) (rr := [.ref 95]) dL_law_12 rfl rfl (by decide) rfl rfl rfl (rc_of (S := (hp_new H1_ 11 37).1) (c := 11) (n := 37) rfl ?_ (by decide) ⟨rfl, by decide⟩) (by decide) (by decide) (by decide) e2.1 (Or.inr ?_) rfl ?_
  · show (H1_.1.1 ++ [(11, 37)])[95]? = _
    rw [List.getElem?_append_right (by omega), l1]
    rfl
  · show ev_vs (hp_new H1_ 11 37).1.1.length _ _ = true
    rw [l1b]
    decide
  refine we_astore_n (ls1 := [.ref sp_X, .ref 0, .ref 95, .null, .null, .null, .null]) (p := 16) dL_law_15 rfl rfl ?_
  refine we_iconst (v := 1) (p := 17) dL_law_16 (by decide) rfl ?_
  refine g_newJ (n := 1) (a := 111) (p := 19) dL_law_17 (by decide) (by decide) l2 (by decide) (by decide) rfl ?_
  rw [gl_new (by rw [l2]; decide)]
  change Ew _ _ _ _ _ (gl xs ρ (hp_new H2_ 13 1)) _
  refine we_astore_n (ls1 := [.ref sp_X, .ref 0, .ref 95, .ref 111, .null, .null, .null]) (p := 20) dL_law_19 rfl rfl ?_
  refine we_iconst (v := 0) (p := 21) dL_law_20 (by decide) rfl ?_
  refine we_istore (ls1 := lL 0 .null .null) (p := 23) dL_law_21 rfl rfl ?_
  have eg : gl xs ρ (hp_new H2_ 13 1) = ((SH, 112, (SH.map Prod.snd).sum), (gl xs ρ (hp_new H2_ 13 1)).2.1, (gl xs ρ (hp_new H2_ 13 1)).2.2.1, (gl xs ρ (hp_new H2_ 13 1)).2.2.2) := Prod.ext h3 rfl
  rw [eg]
  exact l_loop hn 513 0 .null .null _ _ _ _ _ (by omega) (by omega) (by omega) (x0_rel hc hρ)
end
