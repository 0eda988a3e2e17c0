/-! The law: its calls. -/
def ev_Nl (M : ev_M) (r : Option Value) : Prop := ∀ x, r = some (.int x) → mR M ≠ some .long
theorem ev_Nstep {call call2 rec : ev_M → Nat → List Value → List Value → hp_H → ev_Re} (hr : ∀ M pc ls st h r h', rec M pc ls st h = some (r, h') → ev_Nl M r) : ∀ M pc ls st h r h', ev_step call call2 rec M pc ls st h = some (r, h') → ev_Nl M r := by
  intro M pc ls st h r h' he
  unfold ev_step at he
  split at he
  · cases he
  · split at he
    · split at he
      · exact hr _ _ _ _ _ _ _ he
      · split at he
        · rename_i z hz
          cases he
          unfold ev_ret at hz
          split at hz
          · split at hz
            · rename_i ty hty
              split at hz
              · rename_i hn
                intro x _ e
                rw [hty] at e
                cases e
                exact hn.2 rfl
              · cases hz
            · cases hz
          · split at hz
            · cases hz; intro x e; cases e
            · cases hz
          · split at hz
            · cases hz; intro x e; cases e
            · cases hz
          · split at hz
            · cases hz; intro x e; cases e
            · cases hz
          · cases hz
        · unfold ev_cal at he
          split at he
          · split at he
            · split at he
              · split at he
                · split at he
                  · exact hr _ _ _ _ _ _ _ he
                  · cases he
                · cases he
              · cases he
            · unfold ev_led at he
              split at he
              · split at he
                · split at he
                  · split at he
                    · exact hr _ _ _ _ _ _ _ he
                    · cases he
                  · split at he
                    · exact hr _ _ _ _ _ _ _ he
                    · cases he
                  · cases he
                · cases he
              · cases he
          · cases he
    · cases he
theorem ev_N : ∀ n d M pc ls st h r h', ev d n M pc ls st h = some (r, h') → ev_Nl M r
  | 0, d, _, _, _, _, _, _, _, he => by simp [ev] at he
  | n + 1, 0, M, pc, ls, st, h, r, h', he => ev_Nstep (call := fun _ _ _ _ _ => none) (call2 := fun _ _ _ _ _ => none) (rec := ev 0 n) (ev_N n 0) M pc ls st h r h' he
  | n + 1, 1, M, pc, ls, st, h, r, h', he => ev_Nstep (call := ev 0 n) (call2 := fun _ _ _ _ _ => none) (rec := ev 1 n) (ev_N n 1) M pc ls st h r h' he
  | n + 1, d + 2, M, pc, ls, st, h, r, h', he => ev_Nstep (call := ev (d + 1) n) (call2 := ev d n) (rec := ev (d + 2) n) (ev_N n (d + 2)) M pc ls st h r h' he
theorem Ew.lng {k : Nat} {M : ev_M} {pc : Nat} {ls st : List Value} {h : hp_H} {nc ns : Nat} {v : Value} {P : (Nat → Nat → Int32) → (Nat → Nat → Int64) → (Nat → Nat → Option Nat) → Prop} (q : Ew k M pc ls st h (Ret nc ns (some v) P)) (hR : mR M = some .long) (hO : mO M ≠ 10) : ∃ x, v = .long x := by
  obtain ⟨r, h', ⟨n, e⟩, rfl, -⟩ := q
  obtain ⟨pc', st', z⟩ := ev_E _ _ _ _ _ _ _ _ _ e
  have nl := ev_N _ _ _ _ _ _ _ _ _ e
  unfold sm_end at z
  split at z
  · rename_i hz; cases hz
  · rename_i x hz; cases hz; exact absurd hR (nl x rfl)
  · rename_i x hz; cases hz; exact ⟨x, rfl⟩
  · exact absurd z.2.2 hO
  · exact z.elim
abbrev lL (j : Nat) (z5 z6 : Value) : List Value := [.ref sp_X, .ref 0, .ref 95, .ref 111, .int (nI (6 * j)), z5, z6]
/-- between two calls of the law: both hold the same, and the script is there -/
def Lv (n : Nat) (I : Nat → Nat → Int32) (J : Nat → Nat → Int64) (F : Nat → Nat → Option Nat) : Prop := (∃ x, WD x ∧ CR I J F x ∧ MR I x) ∧ F sp_X 0 = some n
theorem CR.rf {I : Nat → Nat → Int32} {J : Nat → Nat → Int64} {F : Nat → Nat → Option Nat} {x : sg} (h : CR I J F x) : RFok F := by
  obtain ⟨D, s, K, U, M, V, L, T, t, f, p, pm⟩ := x
  obtain ⟨o, q, g1, g2, g3, g4, -⟩ := h
  exact g4
theorem MR.f {I I' : Nat → Nat → Int32} {J J' : Nat → Nat → Int64} {F F' : Nat → Nat → Option Nat} {x : sg} (h : MR I x) (f : fC I I' J J' F F') : MR I' x := by
  obtain ⟨D, s, K, U, M, V, L, T, t, fa, p, pm⟩ := x
  have h : MRe I D s K U M V L T t fa pm := h
  have e := congrFun (f 95 (by omega)).1
  exact h.fr (fun k hk => (f k (by omega)).1) (e 2) (e 9) (e 10) (e 14) (e 20) (e 21) ((e 11).trans h.2.2.2.2.2.2.2.2.2.1)
theorem CR.f {I I' : Nat → Nat → Int32} {J J' : Nat → Nat → Int64} {F F' : Nat → Nat → Option Nat} {x : sg} (hw : WD x) (h : CR I J F x) (f : fM2 I I' J J' F F') : CR I' J' F' x := by
  obtain ⟨D, s, K, U, M, V, L, T, t, fa, p, pm⟩ := x
  have hw : WDe D s K U M V L T t p pm := hw
  have h : CRe I J F D s K U M V L T t fa p := h
  have e := congrFun (f.2 0 (by omega)).1
  have h10 : I 0 10 = t := by
    obtain ⟨o, q, g1, g2, g3, g4, g5, g6, g7, g8, g9, g10, g11, g12, g13, g14, g15, -⟩ := h
    exact g15
  exact h.fr hw.2.2.1 hw.2.2.2.2.1 (fun k _ hk => (f.2 k (by omega)).1) ((e 10).trans h10) (e 11) (e 12) (f.2 21 (by omega)).2 f.1
theorem Lv.of {n : Nat} {I1 I2 : Nat → Nat → Int32} {J1 J2 : Nat → Nat → Int64} {F1 F2 : Nat → Nat → Option Nat} {y : sg} (hw : WD y) (hC : CR I1 J1 F1 y) (hM : MR I2 y) (f : fM2 I1 I2 J1 J2 F1 F2) (x : F1 sp_X 0 = some n) : Lv n I2 J2 F2 := ⟨⟨y, hw, hC.f hw f, hM⟩, by rw [f.1]; exact x⟩
section
variable {k n j c : Nat} {z5 z6 : Value} {pc p : Nat} {cc : Int} {v : Int32} {st : List Value} {S : List (Nat × Nat) × Nat × Nat} {I : Nat → Nat → Int32} {J : Nat → Nat → Int64} {F : Nat → Nat → Option Nat} {Q : Option Value → hp_H → Prop}
theorem lw_arg (d0 : decode (mC mL_law) pc = .ok (.aload_n 0, 1)) (d1 : decode (mC mL_law) (pc + 1) = .ok (.iload 4, 2)) (d2 : decode (mC mL_law) (pc + 3) = .ok (.iconst cc, 1)) (d3 : decode (mC mL_law) (pc + 4) = .ok (.iadd, 1)) (d4 : decode (mC mL_law) (pc + 5) = .ok (.iaload, 1)) (hc : Int32.ofInt cc = nI c) (hX : F sp_X 0 = some n) (hj : 6 * j + c < n) (hn : n ≤ 3072) (hv : I sp_X (6 * j + c) = v) (hp : pc + 6 = p) (q : Ew k mL_law p (lL j z5 z6) (.int v :: st) (S, I, J, F) Q) : Ew k mL_law pc (lL j z5 z6) st (S, I, J, F) Q := by
  refine we_aload_n d0 rfl rfl ?_
  refine we_iload d1 rfl rfl ?_
  refine we_iconst d2 hc rfl ?_
  refine we_iadd d3 rfl ?_
  rw [nI_add]
  refine wf_scr d4 hX (in_nI hj (by omega)) (nI_clamp (by omega)) rfl ?_
  rw [hv]
  subst hp
  exact q
theorem lw_bool {x : Int32} (d0 : decode (mC mL_law) pc = .ok (.ifCond .eq 7, 3)) (d1 : decode (mC mL_law) (pc + 3) = .ok (.iconst 1, 1)) (d2 : decode (mC mL_law) (pc + 4) = .ok (.goto 4, 3)) (d3 : decode (mC mL_law) (pc + 7) = .ok (.iconst 0, 1)) (hp : pc + 8 = p) (q : Ew k mL_law p (lL j z5 z6) (.int (if x = 0 then 0 else 1) :: st) (S, I, J, F) Q) : Ew k mL_law pc (lL j z5 z6) (.int x :: st) (S, I, J, F) Q := by
  subst hp
  refine we_if_eq (t := pc + 7) d0 (by omega) (by unfold ev_tg; omega) rfl (fun z => ?_) (fun z => ?_)
  · refine we_iconst (v := 0) d3 (by decide) rfl ?_
    rw [if_pos z] at q
    exact q
  · refine we_iconst (v := 1) d1 (by decide) rfl ?_
    refine we_goto (p := pc + 8) d2 (by omega) (by unfold ev_tg; omega) ?_
    rw [if_neg z] at q
    exact q
end
theorem lg_same (x : Int64) : lg_cmp x x = 0 := by
  unfold lg_cmp
  simp
set_option maxRecDepth 10000 in
theorem l_feed {n j : Nat} {z5 z6 : Value} {I : Nat → Nat → Int32} {J : Nat → Nat → Int64} {F : Nat → Nat → Option Nat} {nc ns : Nat} {Q : Option Value → hp_H → Prop} (hv : Lv n I J F) (hj : 6 * j + 6 ≤ n) (hn : n ≤ 3072) (kk : ∀ I' J' F', Lv n I' J' F' → Ew 12 mL_law 1849 (lL j z5 z6) [] ((SH, nc, ns), I', J', F') Q) : Ew 12 mL_law 260 (lL j z5 z6) [] ((SH, nc, ns), I, J, F) Q := by
  obtain ⟨⟨x, hw, hC, hM⟩, hX⟩ := hv
  have hcv : Cv 2 0 mX11_feed mX12_feed [.int (I sp_X (6 * j + 1)), .int (I sp_X (6 * j + 2)), .int (I sp_X (6 * j + 3)), .int (I sp_X (6 * j + 4)), .int (I sp_X (6 * j + 5))] [.int (I sp_X (6 * j + 1)), .int (I sp_X (6 * j + 2)), .int (I sp_X (6 * j + 3)), .int (I sp_X (6 * j + 4)), .int (I sp_X (6 * j + 5)), .null, .null] := k_feed.v
  obtain ⟨v, y, hw2, hc, hm⟩ := hcv x I J F hw hC hM
  obtain ⟨w, rfl⟩ := (hm I J F nc ns hC.rf hM).int (by decide) (by decide)
  obtain ⟨_, _, e1, rfl, I1, J1, F1, rfl, hC1, f1⟩ := hc nc ns
  obtain ⟨_, _, e2, rfl, I2, J2, F2, rfl, hM2, f2⟩ := hm I1 J1 F1 nc ns hC1.rf (hM.f f1)
  have s1 : I1 sp_X = I sp_X := (f1 sp_X (by decide)).1
  have x1 : F1 sp_X 0 = some n := (congrFun (f1 sp_X (by decide)).2.2 0).trans hX
  have hL2 : Lv n I2 J2 F2 := Lv.of hw2 hC1 hM2 f2 x1
  refine we_aload_n (p := 261) dL_law_260 rfl rfl ?_
  refine lw_arg (c := 1) (v := I sp_X (6 * j + 1)) (p := 267) dL_law_261 dL_law_262 dL_law_264 dL_law_265 dL_law_266 (by decide) hX (by omega) hn rfl rfl ?_
  refine lw_arg (c := 2) (v := I sp_X (6 * j + 2)) (p := 273) dL_law_267 dL_law_268 dL_law_270 dL_law_271 dL_law_272 (by decide) hX (by omega) hn rfl rfl ?_
  refine lw_arg (c := 3) (v := I sp_X (6 * j + 3)) (p := 279) dL_law_273 dL_law_274 dL_law_276 dL_law_277 dL_law_278 (by decide) hX (by omega) hn rfl rfl ?_
  refine lw_arg (c := 4) (v := I sp_X (6 * j + 4)) (p := 285) dL_law_279 dL_law_280 dL_law_282 dL_law_283 dL_law_284 (by decide) hX (by omega) hn rfl rfl ?_
  refine lw_arg (c := 5) (v := I sp_X (6 * j + 5)) (p := 291) dL_law_285 dL_law_286 dL_law_288 dL_law_289 dL_law_290 (by decide) hX (by omega) hn rfl rfl ?_
  refine we_callV_int (p := 294) (k' := 2) (a := [.ref 0, .int (I sp_X (6 * j + 1)), .int (I sp_X (6 * j + 2)), .int (I sp_X (6 * j + 3)), .int (I sp_X (6 * j + 4)), .int (I sp_X (6 * j + 5))]) (rr := []) dL_law_291 rfl rfl rfl rfl (rc_of rfl rfl (by decide) ⟨rfl, by decide⟩) (Nat.le_of_ble_eq_true rfl) (Nat.le_of_ble_eq_true rfl) (by decide) e1 (Or.inl rfl) rfl ?_
  refine we_aload_n (p := 295) dL_law_294 rfl rfl ?_
  refine lw_arg (c := 1) (v := I sp_X (6 * j + 1)) (p := 301) dL_law_295 dL_law_296 dL_law_298 dL_law_299 dL_law_300 (by decide) x1 (by omega) hn (congrFun s1 _) rfl ?_
  refine lw_arg (c := 2) (v := I sp_X (6 * j + 2)) (p := 307) dL_law_301 dL_law_302 dL_law_304 dL_law_305 dL_law_306 (by decide) x1 (by omega) hn (congrFun s1 _) rfl ?_
  refine lw_arg (c := 3) (v := I sp_X (6 * j + 3)) (p := 313) dL_law_307 dL_law_308 dL_law_310 dL_law_311 dL_law_312 (by decide) x1 (by omega) hn (congrFun s1 _) rfl ?_
  refine lw_arg (c := 4) (v := I sp_X (6 * j + 4)) (p := 319) dL_law_313 dL_law_314 dL_law_316 dL_law_317 dL_law_318 (by decide) x1 (by omega) hn (congrFun s1 _) rfl ?_
  refine lw_arg (c := 5) (v := I sp_X (6 * j + 5)) (p := 325) dL_law_319 dL_law_320 dL_law_322 dL_law_323 dL_law_324 (by decide) x1 (by omega) hn (congrFun s1 _) rfl ?_
  refine we_callV_int (p := 328) (k' := 0) (a := [.ref 95, .int (I sp_X (6 * j + 1)), .int (I sp_X (6 * j + 2)), .int (I sp_X (6 * j + 3)), .int (I sp_X (6 * j + 4)), .int (I sp_X (6 * j + 5))]) (rr := [.int w]) dL_law_325 rfl rfl rfl rfl (rc_of rfl rfl (by decide) ⟨rfl, by decide⟩) (Nat.le_of_ble_eq_true rfl) (Nat.le_of_ble_eq_true rfl) (by decide) e2 (Or.inl rfl) rfl ?_
  exact we_icmp_eq (t := 1849) (p := 331) dL_law_328 (by decide) rfl rfl (fun _ => kk _ _ _ hL2) (fun z => absurd rfl z)
set_option maxRecDepth 10000 in
theorem l_oath {n j : Nat} {z5 z6 : Value} {I : Nat → Nat → Int32} {J : Nat → Nat → Int64} {F : Nat → Nat → Option Nat} {nc ns : Nat} {Q : Option Value → hp_H → Prop} (hv : Lv n I J F) (hj : 6 * j + 6 ≤ n) (hn : n ≤ 3072) (kk : ∀ I' J' F', Lv n I' J' F' → Ew 12 mL_law 1849 (lL j z5 z6) [] ((SH, nc, ns), I', J', F') Q) : Ew 12 mL_law 333 (lL j z5 z6) [] ((SH, nc, ns), I, J, F) Q := by
  obtain ⟨⟨x, hw, hC, hM⟩, hX⟩ := hv
  have hcv : Cv 7 9 mX11_oath mX12_oath [.int (I sp_X (6 * j + 1)), .null] [.int (I sp_X (6 * j + 1)), .null] := k_oath
  obtain ⟨v, y, hw2, hc, hm⟩ := hcv x I J F hw hC hM
  obtain ⟨w, rfl⟩ := (hm I J F nc ns hC.rf hM).int (by decide) (by decide)
  obtain ⟨_, _, e1, rfl, I1, J1, F1, rfl, hC1, f1⟩ := hc nc ns
  obtain ⟨_, _, e2, rfl, I2, J2, F2, rfl, hM2, f2⟩ := hm I1 J1 F1 nc ns hC1.rf (hM.f f1)
  have s1 : I1 sp_X = I sp_X := (f1 sp_X (by decide)).1
  have x1 : F1 sp_X 0 = some n := (congrFun (f1 sp_X (by decide)).2.2 0).trans hX
  have hL2 : Lv n I2 J2 F2 := Lv.of hw2 hC1 hM2 f2 x1
  refine we_aload_n (p := 334) dL_law_333 rfl rfl ?_
  refine lw_arg (c := 1) (v := I sp_X (6 * j + 1)) (p := 340) dL_law_334 dL_law_335 dL_law_337 dL_law_338 dL_law_339 (by decide) hX (by omega) hn rfl rfl ?_
  refine we_callV_int (p := 343) (k' := 7) (a := [.ref 0, .int (I sp_X (6 * j + 1))]) (rr := []) dL_law_340 rfl rfl rfl rfl (rc_of rfl rfl (by decide) ⟨rfl, by decide⟩) (Nat.le_of_ble_eq_true rfl) (Nat.le_of_ble_eq_true rfl) (by decide) e1 (Or.inl rfl) rfl ?_
  refine we_aload_n (p := 344) dL_law_343 rfl rfl ?_
  refine lw_arg (c := 1) (v := I sp_X (6 * j + 1)) (p := 350) dL_law_344 dL_law_345 dL_law_347 dL_law_348 dL_law_349 (by decide) x1 (by omega) hn (congrFun s1 _) rfl ?_
  refine we_callV_int (p := 353) (k' := 9) (a := [.ref 95, .int (I sp_X (6 * j + 1))]) (rr := [.int w]) dL_law_350 rfl rfl rfl rfl (rc_of rfl rfl (by decide) ⟨rfl, by decide⟩) (Nat.le_of_ble_eq_true rfl) (Nat.le_of_ble_eq_true rfl) (by decide) e2 (Or.inl rfl) rfl ?_
  exact we_icmp_eq (t := 1849) (p := 356) dL_law_353 (by decide) rfl rfl (fun _ => kk _ _ _ hL2) (fun z => absurd rfl z)
set_option maxRecDepth 10000 in
theorem l_fault {n j : Nat} {z5 z6 : Value} {I : Nat → Nat → Int32} {J : Nat → Nat → Int64} {F : Nat → Nat → Option Nat} {nc ns : Nat} {Q : Option Value → hp_H → Prop} (hv : Lv n I J F) (hj : 6 * j + 6 ≤ n) (hn : n ≤ 3072) (kk : ∀ I' J' F', Lv n I' J' F' → Ew 12 mL_law 1849 (lL j z5 z6) [] ((SH, nc, ns), I', J', F') Q) : Ew 12 mL_law 358 (lL j z5 z6) [] ((SH, nc, ns), I, J, F) Q := by
  obtain ⟨⟨x, hw, hC, hM⟩, hX⟩ := hv
  have hcv : Cv 0 0 mX11_fault mX12_fault [] [] := k_fault.v
  obtain ⟨v, y, hw2, hc, hm⟩ := hcv x I J F hw hC hM
  obtain ⟨w, rfl⟩ := (hm I J F nc ns hC.rf hM).int (by decide) (by decide)
  obtain ⟨_, _, e1, rfl, I1, J1, F1, rfl, hC1, f1⟩ := hc nc ns
  obtain ⟨_, _, e2, rfl, I2, J2, F2, rfl, hM2, f2⟩ := hm I1 J1 F1 nc ns hC1.rf (hM.f f1)
  have s1 : I1 sp_X = I sp_X := (f1 sp_X (by decide)).1
  have x1 : F1 sp_X 0 = some n := (congrFun (f1 sp_X (by decide)).2.2 0).trans hX
  have hL2 : Lv n I2 J2 F2 := Lv.of hw2 hC1 hM2 f2 x1
  refine we_aload_n (p := 359) dL_law_358 rfl rfl ?_
  refine we_callV_int (p := 362) (k' := 0) (a := [.ref 0]) (rr := []) dL_law_359 rfl rfl rfl rfl (rc_of rfl rfl (by decide) ⟨rfl, by decide⟩) (Nat.le_of_ble_eq_true rfl) (Nat.le_of_ble_eq_true rfl) (by decide) e1 (Or.inl rfl) rfl ?_
  refine we_aload_n (p := 363) dL_law_362 rfl rfl ?_
  refine we_callV_int (p := 366) (k' := 0) (a := [.ref 95]) (rr := [.int w]) dL_law_363 rfl rfl rfl rfl (rc_of rfl rfl (by decide) ⟨rfl, by decide⟩) (Nat.le_of_ble_eq_true rfl) (Nat.le_of_ble_eq_true rfl) (by decide) e2 (Or.inl rfl) rfl ?_
  exact we_icmp_eq (t := 1849) (p := 369) dL_law_366 (by decide) rfl rfl (fun _ => kk _ _ _ hL2) (fun z => absurd rfl z)
set_option maxRecDepth 10000 in
theorem l_where {n j : Nat} {z5 z6 : Value} {I : Nat → Nat → Int32} {J : Nat → Nat → Int64} {F : Nat → Nat → Option Nat} {nc ns : Nat} {Q : Option Value → hp_H → Prop} (hv : Lv n I J F) (hj : 6 * j + 6 ≤ n) (hn : n ≤ 3072) (kk : ∀ I' J' F', Lv n I' J' F' → Ew 12 mL_law 1849 (lL j z5 z6) [] ((SH, nc, ns), I', J', F') Q) : Ew 12 mL_law 371 (lL j z5 z6) [] ((SH, nc, ns), I, J, F) Q := by
  obtain ⟨⟨x, hw, hC, hM⟩, hX⟩ := hv
  have hcv : Cv 0 0 mX11_where mX12_where [] [] := k_where.v
  obtain ⟨v, y, hw2, hc, hm⟩ := hcv x I J F hw hC hM
  obtain ⟨w, rfl⟩ := (hm I J F nc ns hC.rf hM).int (by decide) (by decide)
  obtain ⟨_, _, e1, rfl, I1, J1, F1, rfl, hC1, f1⟩ := hc nc ns
  obtain ⟨_, _, e2, rfl, I2, J2, F2, rfl, hM2, f2⟩ := hm I1 J1 F1 nc ns hC1.rf (hM.f f1)
  have s1 : I1 sp_X = I sp_X := (f1 sp_X (by decide)).1
  have x1 : F1 sp_X 0 = some n := (congrFun (f1 sp_X (by decide)).2.2 0).trans hX
  have hL2 : Lv n I2 J2 F2 := Lv.of hw2 hC1 hM2 f2 x1
  refine we_aload_n (p := 372) dL_law_371 rfl rfl ?_
  refine we_callV_int (p := 375) (k' := 0) (a := [.ref 0]) (rr := []) dL_law_372 rfl rfl rfl rfl (rc_of rfl rfl (by decide) ⟨rfl, by decide⟩) (Nat.le_of_ble_eq_true rfl) (Nat.le_of_ble_eq_true rfl) (by decide) e1 (Or.inl rfl) rfl ?_
  refine we_aload_n (p := 376) dL_law_375 rfl rfl ?_
  refine we_callV_int (p := 379) (k' := 0) (a := [.ref 95]) (rr := [.int w]) dL_law_376 rfl rfl rfl rfl (rc_of rfl rfl (by decide) ⟨rfl, by decide⟩) (Nat.le_of_ble_eq_true rfl) (Nat.le_of_ble_eq_true rfl) (by decide) e2 (Or.inl rfl) rfl ?_
  exact we_icmp_eq (t := 1849) (p := 382) dL_law_379 (by decide) rfl rfl (fun _ => kk _ _ _ hL2) (fun z => absurd rfl z)
set_option maxRecDepth 10000 in
theorem l_harbour {n j : Nat} {z5 z6 : Value} {I : Nat → Nat → Int32} {J : Nat → Nat → Int64} {F : Nat → Nat → Option Nat} {nc ns : Nat} {Q : Option Value → hp_H → Prop} (hv : Lv n I J F) (hj : 6 * j + 6 ≤ n) (hn : n ≤ 3072) (kk : ∀ I' J' F', Lv n I' J' F' → Ew 12 mL_law 1849 (lL j z5 z6) [] ((SH, nc, ns), I', J', F') Q) : Ew 12 mL_law 384 (lL j z5 z6) [] ((SH, nc, ns), I, J, F) Q := by
  obtain ⟨⟨x, hw, hC, hM⟩, hX⟩ := hv
  have hcv : Cv 2 2 mX11_harbour mX12_harbour [.int (I sp_X (6 * j + 1)), .int (I sp_X (6 * j + 2))] [.int (I sp_X (6 * j + 1)), .int (I sp_X (6 * j + 2))] := (PQ.cl (fun D s a b => p_harbour a b)).v
  obtain ⟨v, y, hw2, hc, hm⟩ := hcv x I J F hw hC hM
  obtain ⟨w, rfl⟩ := (hm I J F nc ns hC.rf hM).int (by decide) (by decide)
  obtain ⟨_, _, e1, rfl, I1, J1, F1, rfl, hC1, f1⟩ := hc nc ns
  obtain ⟨_, _, e2, rfl, I2, J2, F2, rfl, hM2, f2⟩ := hm I1 J1 F1 nc ns hC1.rf (hM.f f1)
  have s1 : I1 sp_X = I sp_X := (f1 sp_X (by decide)).1
  have x1 : F1 sp_X 0 = some n := (congrFun (f1 sp_X (by decide)).2.2 0).trans hX
  have hL2 : Lv n I2 J2 F2 := Lv.of hw2 hC1 hM2 f2 x1
  refine we_aload_n (p := 385) dL_law_384 rfl rfl ?_
  refine lw_arg (c := 1) (v := I sp_X (6 * j + 1)) (p := 391) dL_law_385 dL_law_386 dL_law_388 dL_law_389 dL_law_390 (by decide) hX (by omega) hn rfl rfl ?_
  refine lw_arg (c := 2) (v := I sp_X (6 * j + 2)) (p := 397) dL_law_391 dL_law_392 dL_law_394 dL_law_395 dL_law_396 (by decide) hX (by omega) hn rfl rfl ?_
  refine we_callV_int (p := 400) (k' := 2) (a := [.ref 0, .int (I sp_X (6 * j + 1)), .int (I sp_X (6 * j + 2))]) (rr := []) dL_law_397 rfl rfl rfl rfl (rc_of rfl rfl (by decide) ⟨rfl, by decide⟩) (Nat.le_of_ble_eq_true rfl) (Nat.le_of_ble_eq_true rfl) (by decide) e1 (Or.inl rfl) rfl ?_
  refine we_aload_n (p := 401) dL_law_400 rfl rfl ?_
  refine lw_arg (c := 1) (v := I sp_X (6 * j + 1)) (p := 407) dL_law_401 dL_law_402 dL_law_404 dL_law_405 dL_law_406 (by decide) x1 (by omega) hn (congrFun s1 _) rfl ?_
  refine lw_arg (c := 2) (v := I sp_X (6 * j + 2)) (p := 413) dL_law_407 dL_law_408 dL_law_410 dL_law_411 dL_law_412 (by decide) x1 (by omega) hn (congrFun s1 _) rfl ?_
  refine we_callV_int (p := 416) (k' := 2) (a := [.ref 95, .int (I sp_X (6 * j + 1)), .int (I sp_X (6 * j + 2))]) (rr := [.int w]) dL_law_413 rfl rfl rfl rfl (rc_of rfl rfl (by decide) ⟨rfl, by decide⟩) (Nat.le_of_ble_eq_true rfl) (Nat.le_of_ble_eq_true rfl) (by decide) e2 (Or.inl rfl) rfl ?_
  exact we_icmp_eq (t := 1849) (p := 419) dL_law_416 (by decide) rfl rfl (fun _ => kk _ _ _ hL2) (fun z => absurd rfl z)
set_option maxRecDepth 10000 in
theorem l_woman {n j : Nat} {z5 z6 : Value} {I : Nat → Nat → Int32} {J : Nat → Nat → Int64} {F : Nat → Nat → Option Nat} {nc ns : Nat} {Q : Option Value → hp_H → Prop} (hv : Lv n I J F) (hj : 6 * j + 6 ≤ n) (hn : n ≤ 3072) (kk : ∀ I' J' F', Lv n I' J' F' → Ew 12 mL_law 1849 (lL j z5 z6) [] ((SH, nc, ns), I', J', F') Q) : Ew 12 mL_law 421 (lL j z5 z6) [] ((SH, nc, ns), I, J, F) Q := by
  obtain ⟨⟨x, hw, hC, hM⟩, hX⟩ := hv
  have hcv : Cv 2 2 mX11_woman mX12_woman [.int (I sp_X (6 * j + 1)), .int (I sp_X (6 * j + 2))] [.int (I sp_X (6 * j + 1)), .int (I sp_X (6 * j + 2))] := (PQ.cl (fun D s a b => p_woman a b)).v
  obtain ⟨v, y, hw2, hc, hm⟩ := hcv x I J F hw hC hM
  obtain ⟨w, rfl⟩ := (hm I J F nc ns hC.rf hM).int (by decide) (by decide)
  obtain ⟨_, _, e1, rfl, I1, J1, F1, rfl, hC1, f1⟩ := hc nc ns
  obtain ⟨_, _, e2, rfl, I2, J2, F2, rfl, hM2, f2⟩ := hm I1 J1 F1 nc ns hC1.rf (hM.f f1)
  have s1 : I1 sp_X = I sp_X := (f1 sp_X (by decide)).1
  have x1 : F1 sp_X 0 = some n := (congrFun (f1 sp_X (by decide)).2.2 0).trans hX
  have hL2 : Lv n I2 J2 F2 := Lv.of hw2 hC1 hM2 f2 x1
  refine we_aload_n (p := 422) dL_law_421 rfl rfl ?_
  refine lw_arg (c := 1) (v := I sp_X (6 * j + 1)) (p := 428) dL_law_422 dL_law_423 dL_law_425 dL_law_426 dL_law_427 (by decide) hX (by omega) hn rfl rfl ?_
  refine lw_arg (c := 2) (v := I sp_X (6 * j + 2)) (p := 434) dL_law_428 dL_law_429 dL_law_431 dL_law_432 dL_law_433 (by decide) hX (by omega) hn rfl rfl ?_
  refine we_callV_int (p := 437) (k' := 2) (a := [.ref 0, .int (I sp_X (6 * j + 1)), .int (I sp_X (6 * j + 2))]) (rr := []) dL_law_434 rfl rfl rfl rfl (rc_of rfl rfl (by decide) ⟨rfl, by decide⟩) (Nat.le_of_ble_eq_true rfl) (Nat.le_of_ble_eq_true rfl) (by decide) e1 (Or.inl rfl) rfl ?_
  refine we_aload_n (p := 438) dL_law_437 rfl rfl ?_
  refine lw_arg (c := 1) (v := I sp_X (6 * j + 1)) (p := 444) dL_law_438 dL_law_439 dL_law_441 dL_law_442 dL_law_443 (by decide) x1 (by omega) hn (congrFun s1 _) rfl ?_
  refine lw_arg (c := 2) (v := I sp_X (6 * j + 2)) (p := 450) dL_law_444 dL_law_445 dL_law_447 dL_law_448 dL_law_449 (by decide) x1 (by omega) hn (congrFun s1 _) rfl ?_
  refine we_callV_int (p := 453) (k' := 2) (a := [.ref 95, .int (I sp_X (6 * j + 1)), .int (I sp_X (6 * j + 2))]) (rr := [.int w]) dL_law_450 rfl rfl rfl rfl (rc_of rfl rfl (by decide) ⟨rfl, by decide⟩) (Nat.le_of_ble_eq_true rfl) (Nat.le_of_ble_eq_true rfl) (by decide) e2 (Or.inl rfl) rfl ?_
  exact we_icmp_eq (t := 1849) (p := 456) dL_law_453 (by decide) rfl rfl (fun _ => kk _ _ _ hL2) (fun z => absurd rfl z)
set_option maxRecDepth 10000 in
theorem l_age {n j : Nat} {z5 z6 : Value} {I : Nat → Nat → Int32} {J : Nat → Nat → Int64} {F : Nat → Nat → Option Nat} {nc ns : Nat} {Q : Option Value → hp_H → Prop} (hv : Lv n I J F) (hj : 6 * j + 6 ≤ n) (hn : n ≤ 3072) (kk : ∀ I' J' F', Lv n I' J' F' → Ew 12 mL_law 1849 (lL j z5 z6) [] ((SH, nc, ns), I', J', F') Q) : Ew 12 mL_law 458 (lL j z5 z6) [] ((SH, nc, ns), I, J, F) Q := by
  obtain ⟨⟨x, hw, hC, hM⟩, hX⟩ := hv
  have hcv : Cv 3 3 mX11_age mX12_age [.int (I sp_X (6 * j + 1)), .int (I sp_X (6 * j + 2))] [.int (I sp_X (6 * j + 1)), .int (I sp_X (6 * j + 2)), .null] := (PQ.cl (fun D s a b => p_age a b)).v
  obtain ⟨v, y, hw2, hc, hm⟩ := hcv x I J F hw hC hM
  obtain ⟨w, rfl⟩ := (hm I J F nc ns hC.rf hM).int (by decide) (by decide)
  obtain ⟨_, _, e1, rfl, I1, J1, F1, rfl, hC1, f1⟩ := hc nc ns
  obtain ⟨_, _, e2, rfl, I2, J2, F2, rfl, hM2, f2⟩ := hm I1 J1 F1 nc ns hC1.rf (hM.f f1)
  have s1 : I1 sp_X = I sp_X := (f1 sp_X (by decide)).1
  have x1 : F1 sp_X 0 = some n := (congrFun (f1 sp_X (by decide)).2.2 0).trans hX
  have hL2 : Lv n I2 J2 F2 := Lv.of hw2 hC1 hM2 f2 x1
  refine we_aload_n (p := 459) dL_law_458 rfl rfl ?_
  refine lw_arg (c := 1) (v := I sp_X (6 * j + 1)) (p := 465) dL_law_459 dL_law_460 dL_law_462 dL_law_463 dL_law_464 (by decide) hX (by omega) hn rfl rfl ?_
  refine lw_arg (c := 2) (v := I sp_X (6 * j + 2)) (p := 471) dL_law_465 dL_law_466 dL_law_468 dL_law_469 dL_law_470 (by decide) hX (by omega) hn rfl rfl ?_
  refine we_callV_int (p := 474) (k' := 3) (a := [.ref 0, .int (I sp_X (6 * j + 1)), .int (I sp_X (6 * j + 2))]) (rr := []) dL_law_471 rfl rfl rfl rfl (rc_of rfl rfl (by decide) ⟨rfl, by decide⟩) (Nat.le_of_ble_eq_true rfl) (Nat.le_of_ble_eq_true rfl) (by decide) e1 (Or.inl rfl) rfl ?_
  refine we_aload_n (p := 475) dL_law_474 rfl rfl ?_
  refine lw_arg (c := 1) (v := I sp_X (6 * j + 1)) (p := 481) dL_law_475 dL_law_476 dL_law_478 dL_law_479 dL_law_480 (by decide) x1 (by omega) hn (congrFun s1 _) rfl ?_
  refine lw_arg (c := 2) (v := I sp_X (6 * j + 2)) (p := 487) dL_law_481 dL_law_482 dL_law_484 dL_law_485 dL_law_486 (by decide) x1 (by omega) hn (congrFun s1 _) rfl ?_
  refine we_callV_int (p := 490) (k' := 3) (a := [.ref 95, .int (I sp_X (6 * j + 1)), .int (I sp_X (6 * j + 2))]) (rr := [.int w]) dL_law_487 rfl rfl rfl rfl (rc_of rfl rfl (by decide) ⟨rfl, by decide⟩) (Nat.le_of_ble_eq_true rfl) (Nat.le_of_ble_eq_true rfl) (by decide) e2 (Or.inl rfl) rfl ?_
  exact we_icmp_eq (t := 1849) (p := 493) dL_law_490 (by decide) rfl rfl (fun _ => kk _ _ _ hL2) (fun z => absurd rfl z)
set_option maxRecDepth 10000 in
theorem l_love {n j : Nat} {z5 z6 : Value} {I : Nat → Nat → Int32} {J : Nat → Nat → Int64} {F : Nat → Nat → Option Nat} {nc ns : Nat} {Q : Option Value → hp_H → Prop} (hv : Lv n I J F) (hj : 6 * j + 6 ≤ n) (hn : n ≤ 3072) (kk : ∀ I' J' F', Lv n I' J' F' → Ew 12 mL_law 1849 (lL j z5 z6) [] ((SH, nc, ns), I', J', F') Q) : Ew 12 mL_law 495 (lL j z5 z6) [] ((SH, nc, ns), I, J, F) Q := by
  obtain ⟨⟨x, hw, hC, hM⟩, hX⟩ := hv
  have hcv : Cv 4 5 mX11_love mX12_love [.int (I sp_X (6 * j + 1)), .int (I sp_X (6 * j + 2))] [.int (I sp_X (6 * j + 1)), .int (I sp_X (6 * j + 2)), .null] := (PQ.cl (fun D s a b => p_love a b)).v
  obtain ⟨v, y, hw2, hc, hm⟩ := hcv x I J F hw hC hM
  obtain ⟨w, rfl⟩ := (hm I J F nc ns hC.rf hM).int (by decide) (by decide)
  obtain ⟨_, _, e1, rfl, I1, J1, F1, rfl, hC1, f1⟩ := hc nc ns
  obtain ⟨_, _, e2, rfl, I2, J2, F2, rfl, hM2, f2⟩ := hm I1 J1 F1 nc ns hC1.rf (hM.f f1)
  have s1 : I1 sp_X = I sp_X := (f1 sp_X (by decide)).1
  have x1 : F1 sp_X 0 = some n := (congrFun (f1 sp_X (by decide)).2.2 0).trans hX
  have hL2 : Lv n I2 J2 F2 := Lv.of hw2 hC1 hM2 f2 x1
  refine we_aload_n (p := 496) dL_law_495 rfl rfl ?_
  refine lw_arg (c := 1) (v := I sp_X (6 * j + 1)) (p := 502) dL_law_496 dL_law_497 dL_law_499 dL_law_500 dL_law_501 (by decide) hX (by omega) hn rfl rfl ?_
  refine lw_arg (c := 2) (v := I sp_X (6 * j + 2)) (p := 508) dL_law_502 dL_law_503 dL_law_505 dL_law_506 dL_law_507 (by decide) hX (by omega) hn rfl rfl ?_
  refine we_callV_int (p := 511) (k' := 4) (a := [.ref 0, .int (I sp_X (6 * j + 1)), .int (I sp_X (6 * j + 2))]) (rr := []) dL_law_508 rfl rfl rfl rfl (rc_of rfl rfl (by decide) ⟨rfl, by decide⟩) (Nat.le_of_ble_eq_true rfl) (Nat.le_of_ble_eq_true rfl) (by decide) e1 (Or.inl rfl) rfl ?_
  refine we_aload_n (p := 512) dL_law_511 rfl rfl ?_
  refine lw_arg (c := 1) (v := I sp_X (6 * j + 1)) (p := 518) dL_law_512 dL_law_513 dL_law_515 dL_law_516 dL_law_517 (by decide) x1 (by omega) hn (congrFun s1 _) rfl ?_
  refine lw_arg (c := 2) (v := I sp_X (6 * j + 2)) (p := 524) dL_law_518 dL_law_519 dL_law_521 dL_law_522 dL_law_523 (by decide) x1 (by omega) hn (congrFun s1 _) rfl ?_
  refine we_callV_int (p := 527) (k' := 5) (a := [.ref 95, .int (I sp_X (6 * j + 1)), .int (I sp_X (6 * j + 2))]) (rr := [.int w]) dL_law_524 rfl rfl rfl rfl (rc_of rfl rfl (by decide) ⟨rfl, by decide⟩) (Nat.le_of_ble_eq_true rfl) (Nat.le_of_ble_eq_true rfl) (by decide) e2 (Or.inl rfl) rfl ?_
  exact we_icmp_eq (t := 1849) (p := 530) dL_law_527 (by decide) rfl rfl (fun _ => kk _ _ _ hL2) (fun z => absurd rfl z)
set_option maxRecDepth 10000 in
theorem l_isTrue {n j : Nat} {z5 z6 : Value} {I : Nat → Nat → Int32} {J : Nat → Nat → Int64} {F : Nat → Nat → Option Nat} {nc ns : Nat} {Q : Option Value → hp_H → Prop} (hv : Lv n I J F) (hj : 6 * j + 6 ≤ n) (hn : n ≤ 3072) (kk : ∀ I' J' F', Lv n I' J' F' → Ew 12 mL_law 1849 (lL j z5 z6) [] ((SH, nc, ns), I', J', F') Q) : Ew 12 mL_law 532 (lL j z5 z6) [] ((SH, nc, ns), I, J, F) Q := by
  obtain ⟨⟨x, hw, hC, hM⟩, hX⟩ := hv
  have hcv : Cv 4 5 mX11_isTrue mX12_isTrue [.int (I sp_X (6 * j + 1)), .int (I sp_X (6 * j + 2)), .int (if I sp_X (6 * j + 3) = 0 then 0 else 1)] [.int (I sp_X (6 * j + 1)), .int (I sp_X (6 * j + 2)), .int (if I sp_X (6 * j + 3) = 0 then 0 else 1), .null] := (PQ.cl (fun D s a b => p_isTrue a b)).v
  obtain ⟨v, y, hw2, hc, hm⟩ := hcv x I J F hw hC hM
  obtain ⟨w, rfl⟩ := (hm I J F nc ns hC.rf hM).lng rfl (by decide)
  obtain ⟨_, _, e1, rfl, I1, J1, F1, rfl, hC1, f1⟩ := hc nc ns
  obtain ⟨_, _, e2, rfl, I2, J2, F2, rfl, hM2, f2⟩ := hm I1 J1 F1 nc ns hC1.rf (hM.f f1)
  have s1 : I1 sp_X = I sp_X := (f1 sp_X (by decide)).1
  have x1 : F1 sp_X 0 = some n := (congrFun (f1 sp_X (by decide)).2.2 0).trans hX
  have hL2 : Lv n I2 J2 F2 := Lv.of hw2 hC1 hM2 f2 x1
  refine we_aload_n (p := 533) dL_law_532 rfl rfl ?_
  refine lw_arg (c := 1) (v := I sp_X (6 * j + 1)) (p := 539) dL_law_533 dL_law_534 dL_law_536 dL_law_537 dL_law_538 (by decide) hX (by omega) hn rfl rfl ?_
  refine lw_arg (c := 2) (v := I sp_X (6 * j + 2)) (p := 545) dL_law_539 dL_law_540 dL_law_542 dL_law_543 dL_law_544 (by decide) hX (by omega) hn rfl rfl ?_
  refine lw_arg (c := 3) (v := I sp_X (6 * j + 3)) (p := 551) dL_law_545 dL_law_546 dL_law_548 dL_law_549 dL_law_550 (by decide) hX (by omega) hn rfl rfl ?_
  refine lw_bool (p := 559) dL_law_551 dL_law_554 dL_law_555 dL_law_558 rfl ?_
  refine we_callV_long (p := 562) (k' := 4) (a := [.ref 0, .int (I sp_X (6 * j + 1)), .int (I sp_X (6 * j + 2)), .int (if I sp_X (6 * j + 3) = 0 then 0 else 1)]) (rr := []) dL_law_559 rfl rfl rfl rfl (rc_of rfl rfl (by decide) ⟨rfl, by decide⟩) (Nat.le_of_ble_eq_true rfl) (Nat.le_of_ble_eq_true rfl) (by decide) e1 (Or.inl rfl) rfl ?_
  refine we_aload_n (p := 563) dL_law_562 rfl rfl ?_
  refine lw_arg (c := 1) (v := I sp_X (6 * j + 1)) (p := 569) dL_law_563 dL_law_564 dL_law_566 dL_law_567 dL_law_568 (by decide) x1 (by omega) hn (congrFun s1 _) rfl ?_
  refine lw_arg (c := 2) (v := I sp_X (6 * j + 2)) (p := 575) dL_law_569 dL_law_570 dL_law_572 dL_law_573 dL_law_574 (by decide) x1 (by omega) hn (congrFun s1 _) rfl ?_
  refine lw_arg (c := 3) (v := I sp_X (6 * j + 3)) (p := 581) dL_law_575 dL_law_576 dL_law_578 dL_law_579 dL_law_580 (by decide) x1 (by omega) hn (congrFun s1 _) rfl ?_
  refine lw_bool (p := 589) dL_law_581 dL_law_584 dL_law_585 dL_law_588 rfl ?_
  refine we_callV_long (p := 592) (k' := 5) (a := [.ref 95, .int (I sp_X (6 * j + 1)), .int (I sp_X (6 * j + 2)), .int (if I sp_X (6 * j + 3) = 0 then 0 else 1)]) (rr := [.long w]) dL_law_589 rfl rfl rfl rfl (rc_of rfl rfl (by decide) ⟨rfl, by decide⟩) (Nat.le_of_ble_eq_true rfl) (Nat.le_of_ble_eq_true rfl) (by decide) e2 (Or.inl rfl) rfl ?_
  refine we_lcmp (p := 593) dL_law_592 rfl ?_
  exact we_if_eq (t := 1849) (p := 596) dL_law_593 (by decide) rfl rfl (fun _ => kk _ _ _ hL2) (fun z => absurd (lg_same w) z)
set_option maxRecDepth 10000 in
theorem l_bestLanding {n j : Nat} {z5 z6 : Value} {I : Nat → Nat → Int32} {J : Nat → Nat → Int64} {F : Nat → Nat → Option Nat} {nc ns : Nat} {Q : Option Value → hp_H → Prop} (hv : Lv n I J F) (hj : 6 * j + 6 ≤ n) (hn : n ≤ 3072) (kk : ∀ I' J' F', Lv n I' J' F' → Ew 12 mL_law 1849 (lL j z5 z6) [] ((SH, nc, ns), I', J', F') Q) : Ew 12 mL_law 598 (lL j z5 z6) [] ((SH, nc, ns), I, J, F) Q := by
  obtain ⟨⟨x, hw, hC, hM⟩, hX⟩ := hv
  have hcv : Cv 5 5 mX11_bestLanding mX12_bestLanding [.int (I sp_X (6 * j + 1)), .null, .null, .null, .null] [.int (I sp_X (6 * j + 1)), .null, .null, .null] := (PQ.cl (fun D s a b => p_bestLanding a b)).v
  obtain ⟨v, y, hw2, hc, hm⟩ := hcv x I J F hw hC hM
  obtain ⟨w, rfl⟩ := (hm I J F nc ns hC.rf hM).int (by decide) (by decide)
  obtain ⟨_, _, e1, rfl, I1, J1, F1, rfl, hC1, f1⟩ := hc nc ns
  obtain ⟨_, _, e2, rfl, I2, J2, F2, rfl, hM2, f2⟩ := hm I1 J1 F1 nc ns hC1.rf (hM.f f1)
  have s1 : I1 sp_X = I sp_X := (f1 sp_X (by decide)).1
  have x1 : F1 sp_X 0 = some n := (congrFun (f1 sp_X (by decide)).2.2 0).trans hX
  have hL2 : Lv n I2 J2 F2 := Lv.of hw2 hC1 hM2 f2 x1
  refine we_aload_n (p := 599) dL_law_598 rfl rfl ?_
  refine lw_arg (c := 1) (v := I sp_X (6 * j + 1)) (p := 605) dL_law_599 dL_law_600 dL_law_602 dL_law_603 dL_law_604 (by decide) hX (by omega) hn rfl rfl ?_
  refine we_callV_int (p := 608) (k' := 5) (a := [.ref 0, .int (I sp_X (6 * j + 1))]) (rr := []) dL_law_605 rfl rfl rfl rfl (rc_of rfl rfl (by decide) ⟨rfl, by decide⟩) (Nat.le_of_ble_eq_true rfl) (Nat.le_of_ble_eq_true rfl) (by decide) e1 (Or.inl rfl) rfl ?_
  refine we_aload_n (p := 609) dL_law_608 rfl rfl ?_
  refine lw_arg (c := 1) (v := I sp_X (6 * j + 1)) (p := 615) dL_law_609 dL_law_610 dL_law_612 dL_law_613 dL_law_614 (by decide) x1 (by omega) hn (congrFun s1 _) rfl ?_
  refine we_callV_int (p := 618) (k' := 5) (a := [.ref 95, .int (I sp_X (6 * j + 1))]) (rr := [.int w]) dL_law_615 rfl rfl rfl rfl (rc_of rfl rfl (by decide) ⟨rfl, by decide⟩) (Nat.le_of_ble_eq_true rfl) (Nat.le_of_ble_eq_true rfl) (by decide) e2 (Or.inl rfl) rfl ?_
  exact we_icmp_eq (t := 1849) (p := 621) dL_law_618 (by decide) rfl rfl (fun _ => kk _ _ _ hL2) (fun z => absurd rfl z)
set_option maxRecDepth 10000 in
theorem l_ofAge {n j : Nat} {z5 z6 : Value} {I : Nat → Nat → Int32} {J : Nat → Nat → Int64} {F : Nat → Nat → Option Nat} {nc ns : Nat} {Q : Option Value → hp_H → Prop} (hv : Lv n I J F) (hj : 6 * j + 6 ≤ n) (hn : n ≤ 3072) (kk : ∀ I' J' F', Lv n I' J' F' → Ew 12 mL_law 1849 (lL j z5 z6) [] ((SH, nc, ns), I', J', F') Q) : Ew 12 mL_law 623 (lL j z5 z6) [] ((SH, nc, ns), I, J, F) Q := by
  obtain ⟨⟨x, hw, hC, hM⟩, hX⟩ := hv
  have hcv : Cv 2 2 mX11_ofAge mX12_ofAge [.int (I sp_X (6 * j + 1)), .null, .null] [.int (I sp_X (6 * j + 1)), .null, .null] := (PQ.cl (fun D s a b => p_ofAge a b)).v
  obtain ⟨v, y, hw2, hc, hm⟩ := hcv x I J F hw hC hM
  obtain ⟨w, rfl⟩ := (hm I J F nc ns hC.rf hM).int (by decide) (by decide)
  obtain ⟨_, _, e1, rfl, I1, J1, F1, rfl, hC1, f1⟩ := hc nc ns
  obtain ⟨_, _, e2, rfl, I2, J2, F2, rfl, hM2, f2⟩ := hm I1 J1 F1 nc ns hC1.rf (hM.f f1)
  have s1 : I1 sp_X = I sp_X := (f1 sp_X (by decide)).1
  have x1 : F1 sp_X 0 = some n := (congrFun (f1 sp_X (by decide)).2.2 0).trans hX
  have hL2 : Lv n I2 J2 F2 := Lv.of hw2 hC1 hM2 f2 x1
  refine we_aload_n (p := 624) dL_law_623 rfl rfl ?_
  refine lw_arg (c := 1) (v := I sp_X (6 * j + 1)) (p := 630) dL_law_624 dL_law_625 dL_law_627 dL_law_628 dL_law_629 (by decide) hX (by omega) hn rfl rfl ?_
  refine we_callV_int (p := 633) (k' := 2) (a := [.ref 0, .int (I sp_X (6 * j + 1))]) (rr := []) dL_law_630 rfl rfl rfl rfl (rc_of rfl rfl (by decide) ⟨rfl, by decide⟩) (Nat.le_of_ble_eq_true rfl) (Nat.le_of_ble_eq_true rfl) (by decide) e1 (Or.inl rfl) rfl ?_
  refine we_aload_n (p := 634) dL_law_633 rfl rfl ?_
  refine lw_arg (c := 1) (v := I sp_X (6 * j + 1)) (p := 640) dL_law_634 dL_law_635 dL_law_637 dL_law_638 dL_law_639 (by decide) x1 (by omega) hn (congrFun s1 _) rfl ?_
  refine we_callV_int (p := 643) (k' := 2) (a := [.ref 95, .int (I sp_X (6 * j + 1))]) (rr := [.int w]) dL_law_640 rfl rfl rfl rfl (rc_of rfl rfl (by decide) ⟨rfl, by decide⟩) (Nat.le_of_ble_eq_true rfl) (Nat.le_of_ble_eq_true rfl) (by decide) e2 (Or.inl rfl) rfl ?_
  exact we_icmp_eq (t := 1849) (p := 646) dL_law_643 (by decide) rfl rfl (fun _ => kk _ _ _ hL2) (fun z => absurd rfl z)
set_option maxRecDepth 10000 in
theorem l_alone {n j : Nat} {z5 z6 : Value} {I : Nat → Nat → Int32} {J : Nat → Nat → Int64} {F : Nat → Nat → Option Nat} {nc ns : Nat} {Q : Option Value → hp_H → Prop} (hv : Lv n I J F) (hj : 6 * j + 6 ≤ n) (hn : n ≤ 3072) (kk : ∀ I' J' F', Lv n I' J' F' → Ew 12 mL_law 1849 (lL j z5 z6) [] ((SH, nc, ns), I', J', F') Q) : Ew 12 mL_law 648 (lL j z5 z6) [] ((SH, nc, ns), I, J, F) Q := by
  obtain ⟨⟨x, hw, hC, hM⟩, hX⟩ := hv
  have hcv : Cv 4 5 mX11_alone mX12_alone [.int (I sp_X (6 * j + 1)), .int (I sp_X (6 * j + 2))] [.int (I sp_X (6 * j + 1)), .int (I sp_X (6 * j + 2)), .null] := (PQ.cl (fun D s a b => p_alone a b)).v
  obtain ⟨v, y, hw2, hc, hm⟩ := hcv x I J F hw hC hM
  obtain ⟨w, rfl⟩ := (hm I J F nc ns hC.rf hM).int (by decide) (by decide)
  obtain ⟨_, _, e1, rfl, I1, J1, F1, rfl, hC1, f1⟩ := hc nc ns
  obtain ⟨_, _, e2, rfl, I2, J2, F2, rfl, hM2, f2⟩ := hm I1 J1 F1 nc ns hC1.rf (hM.f f1)
  have s1 : I1 sp_X = I sp_X := (f1 sp_X (by decide)).1
  have x1 : F1 sp_X 0 = some n := (congrFun (f1 sp_X (by decide)).2.2 0).trans hX
  have hL2 : Lv n I2 J2 F2 := Lv.of hw2 hC1 hM2 f2 x1
  refine we_aload_n (p := 649) dL_law_648 rfl rfl ?_
  refine lw_arg (c := 1) (v := I sp_X (6 * j + 1)) (p := 655) dL_law_649 dL_law_650 dL_law_652 dL_law_653 dL_law_654 (by decide) hX (by omega) hn rfl rfl ?_
  refine lw_arg (c := 2) (v := I sp_X (6 * j + 2)) (p := 661) dL_law_655 dL_law_656 dL_law_658 dL_law_659 dL_law_660 (by decide) hX (by omega) hn rfl rfl ?_
  refine we_callV_int (p := 664) (k' := 4) (a := [.ref 0, .int (I sp_X (6 * j + 1)), .int (I sp_X (6 * j + 2))]) (rr := []) dL_law_661 rfl rfl rfl rfl (rc_of rfl rfl (by decide) ⟨rfl, by decide⟩) (Nat.le_of_ble_eq_true rfl) (Nat.le_of_ble_eq_true rfl) (by decide) e1 (Or.inl rfl) rfl ?_
  refine we_aload_n (p := 665) dL_law_664 rfl rfl ?_
  refine lw_arg (c := 1) (v := I sp_X (6 * j + 1)) (p := 671) dL_law_665 dL_law_666 dL_law_668 dL_law_669 dL_law_670 (by decide) x1 (by omega) hn (congrFun s1 _) rfl ?_
  refine lw_arg (c := 2) (v := I sp_X (6 * j + 2)) (p := 677) dL_law_671 dL_law_672 dL_law_674 dL_law_675 dL_law_676 (by decide) x1 (by omega) hn (congrFun s1 _) rfl ?_
  refine we_callV_int (p := 680) (k' := 5) (a := [.ref 95, .int (I sp_X (6 * j + 1)), .int (I sp_X (6 * j + 2))]) (rr := [.int w]) dL_law_677 rfl rfl rfl rfl (rc_of rfl rfl (by decide) ⟨rfl, by decide⟩) (Nat.le_of_ble_eq_true rfl) (Nat.le_of_ble_eq_true rfl) (by decide) e2 (Or.inl rfl) rfl ?_
  exact we_icmp_eq (t := 1849) (p := 683) dL_law_680 (by decide) rfl rfl (fun _ => kk _ _ _ hL2) (fun z => absurd rfl z)
set_option maxRecDepth 10000 in
theorem l_present {n j : Nat} {z5 z6 : Value} {I : Nat → Nat → Int32} {J : Nat → Nat → Int64} {F : Nat → Nat → Option Nat} {nc ns : Nat} {Q : Option Value → hp_H → Prop} (hv : Lv n I J F) (hj : 6 * j + 6 ≤ n) (hn : n ≤ 3072) (kk : ∀ I' J' F', Lv n I' J' F' → Ew 12 mL_law 1849 (lL j z5 z6) [] ((SH, nc, ns), I', J', F') Q) : Ew 12 mL_law 685 (lL j z5 z6) [] ((SH, nc, ns), I, J, F) Q := by
  obtain ⟨⟨x, hw, hC, hM⟩, hX⟩ := hv
  have hcv : Cv 5 5 mX11_present mX12_present [.int (I sp_X (6 * j + 1)), .null, .null] [.int (I sp_X (6 * j + 1)), .null, .null, .null] := (PQ.cl (fun D s a b => p_present a b)).v
  obtain ⟨v, y, hw2, hc, hm⟩ := hcv x I J F hw hC hM
  obtain ⟨w, rfl⟩ := (hm I J F nc ns hC.rf hM).int (by decide) (by decide)
  obtain ⟨_, _, e1, rfl, I1, J1, F1, rfl, hC1, f1⟩ := hc nc ns
  obtain ⟨_, _, e2, rfl, I2, J2, F2, rfl, hM2, f2⟩ := hm I1 J1 F1 nc ns hC1.rf (hM.f f1)
  have s1 : I1 sp_X = I sp_X := (f1 sp_X (by decide)).1
  have x1 : F1 sp_X 0 = some n := (congrFun (f1 sp_X (by decide)).2.2 0).trans hX
  have hL2 : Lv n I2 J2 F2 := Lv.of hw2 hC1 hM2 f2 x1
  refine we_aload_n (p := 686) dL_law_685 rfl rfl ?_
  refine lw_arg (c := 1) (v := I sp_X (6 * j + 1)) (p := 692) dL_law_686 dL_law_687 dL_law_689 dL_law_690 dL_law_691 (by decide) hX (by omega) hn rfl rfl ?_
  refine we_callV_int (p := 695) (k' := 5) (a := [.ref 0, .int (I sp_X (6 * j + 1))]) (rr := []) dL_law_692 rfl rfl rfl rfl (rc_of rfl rfl (by decide) ⟨rfl, by decide⟩) (Nat.le_of_ble_eq_true rfl) (Nat.le_of_ble_eq_true rfl) (by decide) e1 (Or.inl rfl) rfl ?_
  refine we_aload_n (p := 696) dL_law_695 rfl rfl ?_
  refine lw_arg (c := 1) (v := I sp_X (6 * j + 1)) (p := 702) dL_law_696 dL_law_697 dL_law_699 dL_law_700 dL_law_701 (by decide) x1 (by omega) hn (congrFun s1 _) rfl ?_
  refine we_callV_int (p := 705) (k' := 5) (a := [.ref 95, .int (I sp_X (6 * j + 1))]) (rr := [.int w]) dL_law_702 rfl rfl rfl rfl (rc_of rfl rfl (by decide) ⟨rfl, by decide⟩) (Nat.le_of_ble_eq_true rfl) (Nat.le_of_ble_eq_true rfl) (by decide) e2 (Or.inl rfl) rfl ?_
  exact we_icmp_eq (t := 1849) (p := 708) dL_law_705 (by decide) rfl rfl (fun _ => kk _ _ _ hL2) (fun z => absurd rfl z)
set_option maxRecDepth 10000 in
theorem l_belle {n j : Nat} {z5 z6 : Value} {I : Nat → Nat → Int32} {J : Nat → Nat → Int64} {F : Nat → Nat → Option Nat} {nc ns : Nat} {Q : Option Value → hp_H → Prop} (hv : Lv n I J F) (hj : 6 * j + 6 ≤ n) (hn : n ≤ 3072) (kk : ∀ I' J' F', Lv n I' J' F' → Ew 12 mL_law 1849 (lL j z5 z6) [] ((SH, nc, ns), I', J', F') Q) : Ew 12 mL_law 710 (lL j z5 z6) [] ((SH, nc, ns), I, J, F) Q := by
  obtain ⟨⟨x, hw, hC, hM⟩, hX⟩ := hv
  have hcv : Cv 4 5 mX11_belle mX12_belle [.int (I sp_X (6 * j + 1)), .int (I sp_X (6 * j + 2))] [.int (I sp_X (6 * j + 1)), .int (I sp_X (6 * j + 2)), .null, .null, .null, .null] := (PQ.cl (fun D s a b => p_belle a b)).v
  obtain ⟨v, y, hw2, hc, hm⟩ := hcv x I J F hw hC hM
  obtain ⟨w, rfl⟩ := (hm I J F nc ns hC.rf hM).int (by decide) (by decide)
  obtain ⟨_, _, e1, rfl, I1, J1, F1, rfl, hC1, f1⟩ := hc nc ns
  obtain ⟨_, _, e2, rfl, I2, J2, F2, rfl, hM2, f2⟩ := hm I1 J1 F1 nc ns hC1.rf (hM.f f1)
  have s1 : I1 sp_X = I sp_X := (f1 sp_X (by decide)).1
  have x1 : F1 sp_X 0 = some n := (congrFun (f1 sp_X (by decide)).2.2 0).trans hX
  have hL2 : Lv n I2 J2 F2 := Lv.of hw2 hC1 hM2 f2 x1
  refine we_aload_n (p := 711) dL_law_710 rfl rfl ?_
  refine lw_arg (c := 1) (v := I sp_X (6 * j + 1)) (p := 717) dL_law_711 dL_law_712 dL_law_714 dL_law_715 dL_law_716 (by decide) hX (by omega) hn rfl rfl ?_
  refine lw_arg (c := 2) (v := I sp_X (6 * j + 2)) (p := 723) dL_law_717 dL_law_718 dL_law_720 dL_law_721 dL_law_722 (by decide) hX (by omega) hn rfl rfl ?_
  refine we_callV_int (p := 726) (k' := 4) (a := [.ref 0, .int (I sp_X (6 * j + 1)), .int (I sp_X (6 * j + 2))]) (rr := []) dL_law_723 rfl rfl rfl rfl (rc_of rfl rfl (by decide) ⟨rfl, by decide⟩) (Nat.le_of_ble_eq_true rfl) (Nat.le_of_ble_eq_true rfl) (by decide) e1 (Or.inl rfl) rfl ?_
  refine we_aload_n (p := 727) dL_law_726 rfl rfl ?_
  refine lw_arg (c := 1) (v := I sp_X (6 * j + 1)) (p := 733) dL_law_727 dL_law_728 dL_law_730 dL_law_731 dL_law_732 (by decide) x1 (by omega) hn (congrFun s1 _) rfl ?_
  refine lw_arg (c := 2) (v := I sp_X (6 * j + 2)) (p := 739) dL_law_733 dL_law_734 dL_law_736 dL_law_737 dL_law_738 (by decide) x1 (by omega) hn (congrFun s1 _) rfl ?_
  refine we_callV_int (p := 742) (k' := 5) (a := [.ref 95, .int (I sp_X (6 * j + 1)), .int (I sp_X (6 * j + 2))]) (rr := [.int w]) dL_law_739 rfl rfl rfl rfl (rc_of rfl rfl (by decide) ⟨rfl, by decide⟩) (Nat.le_of_ble_eq_true rfl) (Nat.le_of_ble_eq_true rfl) (by decide) e2 (Or.inl rfl) rfl ?_
  exact we_icmp_eq (t := 1849) (p := 745) dL_law_742 (by decide) rfl rfl (fun _ => kk _ _ _ hL2) (fun z => absurd rfl z)
set_option maxRecDepth 10000 in
theorem l_sevens {n j : Nat} {z5 z6 : Value} {I : Nat → Nat → Int32} {J : Nat → Nat → Int64} {F : Nat → Nat → Option Nat} {nc ns : Nat} {Q : Option Value → hp_H → Prop} (hv : Lv n I J F) (hj : 6 * j + 6 ≤ n) (hn : n ≤ 3072) (kk : ∀ I' J' F', Lv n I' J' F' → Ew 12 mL_law 1849 (lL j z5 z6) [] ((SH, nc, ns), I', J', F') Q) : Ew 12 mL_law 747 (lL j z5 z6) [] ((SH, nc, ns), I, J, F) Q := by
  obtain ⟨⟨x, hw, hC, hM⟩, hX⟩ := hv
  have hcv : Cv 3 3 mX11_sevens mX12_sevens [.int (I sp_X (6 * j + 1)), .int (I sp_X (6 * j + 2))] [.int (I sp_X (6 * j + 1)), .int (I sp_X (6 * j + 2))] := (PQ.cl (fun D s a b => p_sevens a b)).v
  obtain ⟨v, y, hw2, hc, hm⟩ := hcv x I J F hw hC hM
  obtain ⟨w, rfl⟩ := (hm I J F nc ns hC.rf hM).int (by decide) (by decide)
  obtain ⟨_, _, e1, rfl, I1, J1, F1, rfl, hC1, f1⟩ := hc nc ns
  obtain ⟨_, _, e2, rfl, I2, J2, F2, rfl, hM2, f2⟩ := hm I1 J1 F1 nc ns hC1.rf (hM.f f1)
  have s1 : I1 sp_X = I sp_X := (f1 sp_X (by decide)).1
  have x1 : F1 sp_X 0 = some n := (congrFun (f1 sp_X (by decide)).2.2 0).trans hX
  have hL2 : Lv n I2 J2 F2 := Lv.of hw2 hC1 hM2 f2 x1
  refine we_aload_n (p := 748) dL_law_747 rfl rfl ?_
  refine lw_arg (c := 1) (v := I sp_X (6 * j + 1)) (p := 754) dL_law_748 dL_law_749 dL_law_751 dL_law_752 dL_law_753 (by decide) hX (by omega) hn rfl rfl ?_
  refine lw_arg (c := 2) (v := I sp_X (6 * j + 2)) (p := 760) dL_law_754 dL_law_755 dL_law_757 dL_law_758 dL_law_759 (by decide) hX (by omega) hn rfl rfl ?_
  refine we_callV_int (p := 763) (k' := 3) (a := [.ref 0, .int (I sp_X (6 * j + 1)), .int (I sp_X (6 * j + 2))]) (rr := []) dL_law_760 rfl rfl rfl rfl (rc_of rfl rfl (by decide) ⟨rfl, by decide⟩) (Nat.le_of_ble_eq_true rfl) (Nat.le_of_ble_eq_true rfl) (by decide) e1 (Or.inl rfl) rfl ?_
  refine we_aload_n (p := 764) dL_law_763 rfl rfl ?_
  refine lw_arg (c := 1) (v := I sp_X (6 * j + 1)) (p := 770) dL_law_764 dL_law_765 dL_law_767 dL_law_768 dL_law_769 (by decide) x1 (by omega) hn (congrFun s1 _) rfl ?_
  refine lw_arg (c := 2) (v := I sp_X (6 * j + 2)) (p := 776) dL_law_770 dL_law_771 dL_law_773 dL_law_774 dL_law_775 (by decide) x1 (by omega) hn (congrFun s1 _) rfl ?_
  refine we_callV_int (p := 779) (k' := 3) (a := [.ref 95, .int (I sp_X (6 * j + 1)), .int (I sp_X (6 * j + 2))]) (rr := [.int w]) dL_law_776 rfl rfl rfl rfl (rc_of rfl rfl (by decide) ⟨rfl, by decide⟩) (Nat.le_of_ble_eq_true rfl) (Nat.le_of_ble_eq_true rfl) (by decide) e2 (Or.inl rfl) rfl ?_
  exact we_icmp_eq (t := 1849) (p := 782) dL_law_779 (by decide) rfl rfl (fun _ => kk _ _ _ hL2) (fun z => absurd rfl z)
set_option maxRecDepth 10000 in
theorem l_byYears {n j : Nat} {z5 z6 : Value} {I : Nat → Nat → Int32} {J : Nat → Nat → Int64} {F : Nat → Nat → Option Nat} {nc ns : Nat} {Q : Option Value → hp_H → Prop} (hv : Lv n I J F) (hj : 6 * j + 6 ≤ n) (hn : n ≤ 3072) (kk : ∀ I' J' F', Lv n I' J' F' → Ew 12 mL_law 1849 (lL j z5 z6) [] ((SH, nc, ns), I', J', F') Q) : Ew 12 mL_law 784 (lL j z5 z6) [] ((SH, nc, ns), I, J, F) Q := by
  obtain ⟨⟨x, hw, hC, hM⟩, hX⟩ := hv
  have hcv : Cv 3 4 mX11_byYears mX12_byYears [.int (I sp_X (6 * j + 1)), .int (I sp_X (6 * j + 2)), .int (I sp_X (6 * j + 3))] [.int (I sp_X (6 * j + 1)), .int (I sp_X (6 * j + 2)), .int (I sp_X (6 * j + 3)), .null] := (PQ.cl (fun D s a b => p_byYears a b)).v
  obtain ⟨v, y, hw2, hc, hm⟩ := hcv x I J F hw hC hM
  obtain ⟨w, rfl⟩ := (hm I J F nc ns hC.rf hM).int (by decide) (by decide)
  obtain ⟨_, _, e1, rfl, I1, J1, F1, rfl, hC1, f1⟩ := hc nc ns
  obtain ⟨_, _, e2, rfl, I2, J2, F2, rfl, hM2, f2⟩ := hm I1 J1 F1 nc ns hC1.rf (hM.f f1)
  have s1 : I1 sp_X = I sp_X := (f1 sp_X (by decide)).1
  have x1 : F1 sp_X 0 = some n := (congrFun (f1 sp_X (by decide)).2.2 0).trans hX
  have hL2 : Lv n I2 J2 F2 := Lv.of hw2 hC1 hM2 f2 x1
  refine we_aload_n (p := 785) dL_law_784 rfl rfl ?_
  refine lw_arg (c := 1) (v := I sp_X (6 * j + 1)) (p := 791) dL_law_785 dL_law_786 dL_law_788 dL_law_789 dL_law_790 (by decide) hX (by omega) hn rfl rfl ?_
  refine lw_arg (c := 2) (v := I sp_X (6 * j + 2)) (p := 797) dL_law_791 dL_law_792 dL_law_794 dL_law_795 dL_law_796 (by decide) hX (by omega) hn rfl rfl ?_
  refine lw_arg (c := 3) (v := I sp_X (6 * j + 3)) (p := 803) dL_law_797 dL_law_798 dL_law_800 dL_law_801 dL_law_802 (by decide) hX (by omega) hn rfl rfl ?_
  refine we_callV_int (p := 806) (k' := 3) (a := [.ref 0, .int (I sp_X (6 * j + 1)), .int (I sp_X (6 * j + 2)), .int (I sp_X (6 * j + 3))]) (rr := []) dL_law_803 rfl rfl rfl rfl (rc_of rfl rfl (by decide) ⟨rfl, by decide⟩) (Nat.le_of_ble_eq_true rfl) (Nat.le_of_ble_eq_true rfl) (by decide) e1 (Or.inl rfl) rfl ?_
  refine we_aload_n (p := 807) dL_law_806 rfl rfl ?_
  refine lw_arg (c := 1) (v := I sp_X (6 * j + 1)) (p := 813) dL_law_807 dL_law_808 dL_law_810 dL_law_811 dL_law_812 (by decide) x1 (by omega) hn (congrFun s1 _) rfl ?_
  refine lw_arg (c := 2) (v := I sp_X (6 * j + 2)) (p := 819) dL_law_813 dL_law_814 dL_law_816 dL_law_817 dL_law_818 (by decide) x1 (by omega) hn (congrFun s1 _) rfl ?_
  refine lw_arg (c := 3) (v := I sp_X (6 * j + 3)) (p := 825) dL_law_819 dL_law_820 dL_law_822 dL_law_823 dL_law_824 (by decide) x1 (by omega) hn (congrFun s1 _) rfl ?_
  refine we_callV_int (p := 828) (k' := 4) (a := [.ref 95, .int (I sp_X (6 * j + 1)), .int (I sp_X (6 * j + 2)), .int (I sp_X (6 * j + 3))]) (rr := [.int w]) dL_law_825 rfl rfl rfl rfl (rc_of rfl rfl (by decide) ⟨rfl, by decide⟩) (Nat.le_of_ble_eq_true rfl) (Nat.le_of_ble_eq_true rfl) (by decide) e2 (Or.inl rfl) rfl ?_
  exact we_icmp_eq (t := 1849) (p := 831) dL_law_828 (by decide) rfl rfl (fun _ => kk _ _ _ hL2) (fun z => absurd rfl z)
set_option maxRecDepth 10000 in
theorem l_bestYears {n j : Nat} {z5 z6 : Value} {I : Nat → Nat → Int32} {J : Nat → Nat → Int64} {F : Nat → Nat → Option Nat} {nc ns : Nat} {Q : Option Value → hp_H → Prop} (hv : Lv n I J F) (hj : 6 * j + 6 ≤ n) (hn : n ≤ 3072) (kk : ∀ I' J' F', Lv n I' J' F' → Ew 12 mL_law 1849 (lL j z5 z6) [] ((SH, nc, ns), I', J', F') Q) : Ew 12 mL_law 833 (lL j z5 z6) [] ((SH, nc, ns), I, J, F) Q := by
  obtain ⟨⟨x, hw, hC, hM⟩, hX⟩ := hv
  have hcv : Cv 4 5 mX11_bestYears mX12_bestYears [.int (I sp_X (6 * j + 1)), .null, .null, .null, .null] [.int (I sp_X (6 * j + 1)), .null, .null, .null] := (PQ.cl (fun D s a b => p_bestYears a b)).v
  obtain ⟨v, y, hw2, hc, hm⟩ := hcv x I J F hw hC hM
  obtain ⟨w, rfl⟩ := (hm I J F nc ns hC.rf hM).int (by decide) (by decide)
  obtain ⟨_, _, e1, rfl, I1, J1, F1, rfl, hC1, f1⟩ := hc nc ns
  obtain ⟨_, _, e2, rfl, I2, J2, F2, rfl, hM2, f2⟩ := hm I1 J1 F1 nc ns hC1.rf (hM.f f1)
  have s1 : I1 sp_X = I sp_X := (f1 sp_X (by decide)).1
  have x1 : F1 sp_X 0 = some n := (congrFun (f1 sp_X (by decide)).2.2 0).trans hX
  have hL2 : Lv n I2 J2 F2 := Lv.of hw2 hC1 hM2 f2 x1
  refine we_aload_n (p := 834) dL_law_833 rfl rfl ?_
  refine lw_arg (c := 1) (v := I sp_X (6 * j + 1)) (p := 840) dL_law_834 dL_law_835 dL_law_837 dL_law_838 dL_law_839 (by decide) hX (by omega) hn rfl rfl ?_
  refine we_callV_int (p := 843) (k' := 4) (a := [.ref 0, .int (I sp_X (6 * j + 1))]) (rr := []) dL_law_840 rfl rfl rfl rfl (rc_of rfl rfl (by decide) ⟨rfl, by decide⟩) (Nat.le_of_ble_eq_true rfl) (Nat.le_of_ble_eq_true rfl) (by decide) e1 (Or.inl rfl) rfl ?_
  refine we_aload_n (p := 844) dL_law_843 rfl rfl ?_
  refine lw_arg (c := 1) (v := I sp_X (6 * j + 1)) (p := 850) dL_law_844 dL_law_845 dL_law_847 dL_law_848 dL_law_849 (by decide) x1 (by omega) hn (congrFun s1 _) rfl ?_
  refine we_callV_int (p := 853) (k' := 5) (a := [.ref 95, .int (I sp_X (6 * j + 1))]) (rr := [.int w]) dL_law_850 rfl rfl rfl rfl (rc_of rfl rfl (by decide) ⟨rfl, by decide⟩) (Nat.le_of_ble_eq_true rfl) (Nat.le_of_ble_eq_true rfl) (by decide) e2 (Or.inl rfl) rfl ?_
  exact we_icmp_eq (t := 1849) (p := 856) dL_law_853 (by decide) rfl rfl (fun _ => kk _ _ _ hL2) (fun z => absurd rfl z)
set_option maxRecDepth 10000 in
theorem l_route {n j : Nat} {z5 z6 : Value} {I : Nat → Nat → Int32} {J : Nat → Nat → Int64} {F : Nat → Nat → Option Nat} {nc ns : Nat} {Q : Option Value → hp_H → Prop} (hv : Lv n I J F) (hj : 6 * j + 6 ≤ n) (hn : n ≤ 3072) (kk : ∀ I' J' F', Lv n I' J' F' → Ew 12 mL_law 1849 (lL j z5 z6) [] ((SH, nc, ns), I', J', F') Q) : Ew 12 mL_law 858 (lL j z5 z6) [] ((SH, nc, ns), I, J, F) Q := by
  obtain ⟨⟨x, hw, hC, hM⟩, hX⟩ := hv
  have hcv : Cv 7 10 mX11_route mX12_route [.int (I sp_X (6 * j + 1)), .int (if I sp_X (6 * j + 2) = 0 then 0 else 1)] [.int (I sp_X (6 * j + 1)), .int (if I sp_X (6 * j + 2) = 0 then 0 else 1), .null, .null, .null, .null] := (PQ.cl (fun D s a b => p_route a b)).v
  obtain ⟨v, y, hw2, hc, hm⟩ := hcv x I J F hw hC hM
  obtain ⟨w, rfl⟩ := (hm I J F nc ns hC.rf hM).lng rfl (by decide)
  obtain ⟨_, _, e1, rfl, I1, J1, F1, rfl, hC1, f1⟩ := hc nc ns
  obtain ⟨_, _, e2, rfl, I2, J2, F2, rfl, hM2, f2⟩ := hm I1 J1 F1 nc ns hC1.rf (hM.f f1)
  have s1 : I1 sp_X = I sp_X := (f1 sp_X (by decide)).1
  have x1 : F1 sp_X 0 = some n := (congrFun (f1 sp_X (by decide)).2.2 0).trans hX
  have hL2 : Lv n I2 J2 F2 := Lv.of hw2 hC1 hM2 f2 x1
  refine we_aload_n (p := 859) dL_law_858 rfl rfl ?_
  refine lw_arg (c := 1) (v := I sp_X (6 * j + 1)) (p := 865) dL_law_859 dL_law_860 dL_law_862 dL_law_863 dL_law_864 (by decide) hX (by omega) hn rfl rfl ?_
  refine lw_arg (c := 2) (v := I sp_X (6 * j + 2)) (p := 871) dL_law_865 dL_law_866 dL_law_868 dL_law_869 dL_law_870 (by decide) hX (by omega) hn rfl rfl ?_
  refine lw_bool (p := 879) dL_law_871 dL_law_874 dL_law_875 dL_law_878 rfl ?_
  refine we_callV_long (p := 882) (k' := 7) (a := [.ref 0, .int (I sp_X (6 * j + 1)), .int (if I sp_X (6 * j + 2) = 0 then 0 else 1)]) (rr := []) dL_law_879 rfl rfl rfl rfl (rc_of rfl rfl (by decide) ⟨rfl, by decide⟩) (Nat.le_of_ble_eq_true rfl) (Nat.le_of_ble_eq_true rfl) (by decide) e1 (Or.inl rfl) rfl ?_
  refine we_aload_n (p := 883) dL_law_882 rfl rfl ?_
  refine lw_arg (c := 1) (v := I sp_X (6 * j + 1)) (p := 889) dL_law_883 dL_law_884 dL_law_886 dL_law_887 dL_law_888 (by decide) x1 (by omega) hn (congrFun s1 _) rfl ?_
  refine lw_arg (c := 2) (v := I sp_X (6 * j + 2)) (p := 895) dL_law_889 dL_law_890 dL_law_892 dL_law_893 dL_law_894 (by decide) x1 (by omega) hn (congrFun s1 _) rfl ?_
  refine lw_bool (p := 903) dL_law_895 dL_law_898 dL_law_899 dL_law_902 rfl ?_
  refine we_callV_long (p := 906) (k' := 10) (a := [.ref 95, .int (I sp_X (6 * j + 1)), .int (if I sp_X (6 * j + 2) = 0 then 0 else 1)]) (rr := [.long w]) dL_law_903 rfl rfl rfl rfl (rc_of rfl rfl (by decide) ⟨rfl, by decide⟩) (Nat.le_of_ble_eq_true rfl) (Nat.le_of_ble_eq_true rfl) (by decide) e2 (Or.inl rfl) rfl ?_
  refine we_lcmp (p := 907) dL_law_906 rfl ?_
  exact we_if_eq (t := 1849) (p := 910) dL_law_907 (by decide) rfl rfl (fun _ => kk _ _ _ hL2) (fun z => absurd (lg_same w) z)
set_option maxRecDepth 10000 in
theorem l_mean {n j : Nat} {z5 z6 : Value} {I : Nat → Nat → Int32} {J : Nat → Nat → Int64} {F : Nat → Nat → Option Nat} {nc ns : Nat} {Q : Option Value → hp_H → Prop} (hv : Lv n I J F) (hj : 6 * j + 6 ≤ n) (hn : n ≤ 3072) (kk : ∀ I' J' F', Lv n I' J' F' → Ew 12 mL_law 1849 (lL j z5 z6) [] ((SH, nc, ns), I', J', F') Q) : Ew 12 mL_law 912 (lL j z5 z6) [] ((SH, nc, ns), I, J, F) Q := by
  obtain ⟨⟨x, hw, hC, hM⟩, hX⟩ := hv
  have hcv : Cv 7 10 mX11_mean mX12_mean [.int (I sp_X (6 * j + 1)), .int (if I sp_X (6 * j + 2) = 0 then 0 else 1)] [.int (I sp_X (6 * j + 1)), .int (if I sp_X (6 * j + 2) = 0 then 0 else 1), .null, .null, .null, .null] := (PQ.cl (fun D s a b => p_mean a b)).v
  obtain ⟨v, y, hw2, hc, hm⟩ := hcv x I J F hw hC hM
  obtain ⟨w, rfl⟩ := (hm I J F nc ns hC.rf hM).lng rfl (by decide)
  obtain ⟨_, _, e1, rfl, I1, J1, F1, rfl, hC1, f1⟩ := hc nc ns
  obtain ⟨_, _, e2, rfl, I2, J2, F2, rfl, hM2, f2⟩ := hm I1 J1 F1 nc ns hC1.rf (hM.f f1)
  have s1 : I1 sp_X = I sp_X := (f1 sp_X (by decide)).1
  have x1 : F1 sp_X 0 = some n := (congrFun (f1 sp_X (by decide)).2.2 0).trans hX
  have hL2 : Lv n I2 J2 F2 := Lv.of hw2 hC1 hM2 f2 x1
  refine we_aload_n (p := 913) dL_law_912 rfl rfl ?_
  refine lw_arg (c := 1) (v := I sp_X (6 * j + 1)) (p := 919) dL_law_913 dL_law_914 dL_law_916 dL_law_917 dL_law_918 (by decide) hX (by omega) hn rfl rfl ?_
  refine lw_arg (c := 2) (v := I sp_X (6 * j + 2)) (p := 925) dL_law_919 dL_law_920 dL_law_922 dL_law_923 dL_law_924 (by decide) hX (by omega) hn rfl rfl ?_
  refine lw_bool (p := 933) dL_law_925 dL_law_928 dL_law_929 dL_law_932 rfl ?_
  refine we_callV_long (p := 936) (k' := 7) (a := [.ref 0, .int (I sp_X (6 * j + 1)), .int (if I sp_X (6 * j + 2) = 0 then 0 else 1)]) (rr := []) dL_law_933 rfl rfl rfl rfl (rc_of rfl rfl (by decide) ⟨rfl, by decide⟩) (Nat.le_of_ble_eq_true rfl) (Nat.le_of_ble_eq_true rfl) (by decide) e1 (Or.inl rfl) rfl ?_
  refine we_aload_n (p := 937) dL_law_936 rfl rfl ?_
  refine lw_arg (c := 1) (v := I sp_X (6 * j + 1)) (p := 943) dL_law_937 dL_law_938 dL_law_940 dL_law_941 dL_law_942 (by decide) x1 (by omega) hn (congrFun s1 _) rfl ?_
  refine lw_arg (c := 2) (v := I sp_X (6 * j + 2)) (p := 949) dL_law_943 dL_law_944 dL_law_946 dL_law_947 dL_law_948 (by decide) x1 (by omega) hn (congrFun s1 _) rfl ?_
  refine lw_bool (p := 957) dL_law_949 dL_law_952 dL_law_953 dL_law_956 rfl ?_
  refine we_callV_long (p := 960) (k' := 10) (a := [.ref 95, .int (I sp_X (6 * j + 1)), .int (if I sp_X (6 * j + 2) = 0 then 0 else 1)]) (rr := [.long w]) dL_law_957 rfl rfl rfl rfl (rc_of rfl rfl (by decide) ⟨rfl, by decide⟩) (Nat.le_of_ble_eq_true rfl) (Nat.le_of_ble_eq_true rfl) (by decide) e2 (Or.inl rfl) rfl ?_
  refine we_lcmp (p := 961) dL_law_960 rfl ?_
  exact we_if_eq (t := 1849) (p := 964) dL_law_961 (by decide) rfl rfl (fun _ => kk _ _ _ hL2) (fun z => absurd (lg_same w) z)
set_option maxRecDepth 10000 in
theorem l_routeAt {n j : Nat} {z5 z6 : Value} {I : Nat → Nat → Int32} {J : Nat → Nat → Int64} {F : Nat → Nat → Option Nat} {nc ns : Nat} {Q : Option Value → hp_H → Prop} (hv : Lv n I J F) (hj : 6 * j + 6 ≤ n) (hn : n ≤ 3072) (kk : ∀ I' J' F', Lv n I' J' F' → Ew 12 mL_law 1849 (lL j z5 z6) [] ((SH, nc, ns), I', J', F') Q) : Ew 12 mL_law 966 (lL j z5 z6) [] ((SH, nc, ns), I, J, F) Q := by
  obtain ⟨⟨x, hw, hC, hM⟩, hX⟩ := hv
  have hcv : Cv 7 10 mX11_routeAt mX12_routeAt [.int (I sp_X (6 * j + 1)), .int (I sp_X (6 * j + 2))] [.int (I sp_X (6 * j + 1)), .int (I sp_X (6 * j + 2)), .null] := (PQ.cl (fun D s a b => p_routeAt a b)).v
  obtain ⟨v, y, hw2, hc, hm⟩ := hcv x I J F hw hC hM
  obtain ⟨w, rfl⟩ := (hm I J F nc ns hC.rf hM).int (by decide) (by decide)
  obtain ⟨_, _, e1, rfl, I1, J1, F1, rfl, hC1, f1⟩ := hc nc ns
  obtain ⟨_, _, e2, rfl, I2, J2, F2, rfl, hM2, f2⟩ := hm I1 J1 F1 nc ns hC1.rf (hM.f f1)
  have s1 : I1 sp_X = I sp_X := (f1 sp_X (by decide)).1
  have x1 : F1 sp_X 0 = some n := (congrFun (f1 sp_X (by decide)).2.2 0).trans hX
  have hL2 : Lv n I2 J2 F2 := Lv.of hw2 hC1 hM2 f2 x1
  refine we_aload_n (p := 967) dL_law_966 rfl rfl ?_
  refine lw_arg (c := 1) (v := I sp_X (6 * j + 1)) (p := 973) dL_law_967 dL_law_968 dL_law_970 dL_law_971 dL_law_972 (by decide) hX (by omega) hn rfl rfl ?_
  refine lw_arg (c := 2) (v := I sp_X (6 * j + 2)) (p := 979) dL_law_973 dL_law_974 dL_law_976 dL_law_977 dL_law_978 (by decide) hX (by omega) hn rfl rfl ?_
  refine we_callV_int (p := 982) (k' := 7) (a := [.ref 0, .int (I sp_X (6 * j + 1)), .int (I sp_X (6 * j + 2))]) (rr := []) dL_law_979 rfl rfl rfl rfl (rc_of rfl rfl (by decide) ⟨rfl, by decide⟩) (Nat.le_of_ble_eq_true rfl) (Nat.le_of_ble_eq_true rfl) (by decide) e1 (Or.inl rfl) rfl ?_
  refine we_aload_n (p := 983) dL_law_982 rfl rfl ?_
  refine lw_arg (c := 1) (v := I sp_X (6 * j + 1)) (p := 989) dL_law_983 dL_law_984 dL_law_986 dL_law_987 dL_law_988 (by decide) x1 (by omega) hn (congrFun s1 _) rfl ?_
  refine lw_arg (c := 2) (v := I sp_X (6 * j + 2)) (p := 995) dL_law_989 dL_law_990 dL_law_992 dL_law_993 dL_law_994 (by decide) x1 (by omega) hn (congrFun s1 _) rfl ?_
  refine we_callV_int (p := 998) (k' := 10) (a := [.ref 95, .int (I sp_X (6 * j + 1)), .int (I sp_X (6 * j + 2))]) (rr := [.int w]) dL_law_995 rfl rfl rfl rfl (rc_of rfl rfl (by decide) ⟨rfl, by decide⟩) (Nat.le_of_ble_eq_true rfl) (Nat.le_of_ble_eq_true rfl) (by decide) e2 (Or.inl rfl) rfl ?_
  exact we_icmp_eq (t := 1849) (p := 1001) dL_law_998 (by decide) rfl rfl (fun _ => kk _ _ _ hL2) (fun z => absurd rfl z)
set_option maxRecDepth 10000 in
theorem l_routes {n j : Nat} {z5 z6 : Value} {I : Nat → Nat → Int32} {J : Nat → Nat → Int64} {F : Nat → Nat → Option Nat} {nc ns : Nat} {Q : Option Value → hp_H → Prop} (hv : Lv n I J F) (hj : 6 * j + 6 ≤ n) (hn : n ≤ 3072) (kk : ∀ I' J' F', Lv n I' J' F' → Ew 12 mL_law 1849 (lL j z5 z6) [] ((SH, nc, ns), I', J', F') Q) : Ew 12 mL_law 1003 (lL j z5 z6) [] ((SH, nc, ns), I, J, F) Q := by
  obtain ⟨⟨x, hw, hC, hM⟩, hX⟩ := hv
  have hcv : Cv 7 10 mX11_routes mX12_routes [.int (I sp_X (6 * j + 1))] [.int (I sp_X (6 * j + 1)), .null] := (PQ.cl (fun D s a b => p_routes a b)).v
  obtain ⟨v, y, hw2, hc, hm⟩ := hcv x I J F hw hC hM
  obtain ⟨w, rfl⟩ := (hm I J F nc ns hC.rf hM).int (by decide) (by decide)
  obtain ⟨_, _, e1, rfl, I1, J1, F1, rfl, hC1, f1⟩ := hc nc ns
  obtain ⟨_, _, e2, rfl, I2, J2, F2, rfl, hM2, f2⟩ := hm I1 J1 F1 nc ns hC1.rf (hM.f f1)
  have s1 : I1 sp_X = I sp_X := (f1 sp_X (by decide)).1
  have x1 : F1 sp_X 0 = some n := (congrFun (f1 sp_X (by decide)).2.2 0).trans hX
  have hL2 : Lv n I2 J2 F2 := Lv.of hw2 hC1 hM2 f2 x1
  refine we_aload_n (p := 1004) dL_law_1003 rfl rfl ?_
  refine lw_arg (c := 1) (v := I sp_X (6 * j + 1)) (p := 1010) dL_law_1004 dL_law_1005 dL_law_1007 dL_law_1008 dL_law_1009 (by decide) hX (by omega) hn rfl rfl ?_
  refine we_callV_int (p := 1013) (k' := 7) (a := [.ref 0, .int (I sp_X (6 * j + 1))]) (rr := []) dL_law_1010 rfl rfl rfl rfl (rc_of rfl rfl (by decide) ⟨rfl, by decide⟩) (Nat.le_of_ble_eq_true rfl) (Nat.le_of_ble_eq_true rfl) (by decide) e1 (Or.inl rfl) rfl ?_
  refine we_aload_n (p := 1014) dL_law_1013 rfl rfl ?_
  refine lw_arg (c := 1) (v := I sp_X (6 * j + 1)) (p := 1020) dL_law_1014 dL_law_1015 dL_law_1017 dL_law_1018 dL_law_1019 (by decide) x1 (by omega) hn (congrFun s1 _) rfl ?_
  refine we_callV_int (p := 1023) (k' := 10) (a := [.ref 95, .int (I sp_X (6 * j + 1))]) (rr := [.int w]) dL_law_1020 rfl rfl rfl rfl (rc_of rfl rfl (by decide) ⟨rfl, by decide⟩) (Nat.le_of_ble_eq_true rfl) (Nat.le_of_ble_eq_true rfl) (by decide) e2 (Or.inl rfl) rfl ?_
  exact we_icmp_eq (t := 1849) (p := 1026) dL_law_1023 (by decide) rfl rfl (fun _ => kk _ _ _ hL2) (fun z => absurd rfl z)
set_option maxRecDepth 10000 in
theorem l_letters {n j : Nat} {z5 z6 : Value} {I : Nat → Nat → Int32} {J : Nat → Nat → Int64} {F : Nat → Nat → Option Nat} {nc ns : Nat} {Q : Option Value → hp_H → Prop} (hv : Lv n I J F) (hj : 6 * j + 6 ≤ n) (hn : n ≤ 3072) (kk : ∀ I' J' F', Lv n I' J' F' → Ew 12 mL_law 1849 (lL j z5 z6) [] ((SH, nc, ns), I', J', F') Q) : Ew 12 mL_law 1028 (lL j z5 z6) [] ((SH, nc, ns), I, J, F) Q := by
  obtain ⟨⟨x, hw, hC, hM⟩, hX⟩ := hv
  have hcv : Cv 9 9 mX11_letters mX12_letters [.int (I sp_X (6 * j + 1))] [.int (I sp_X (6 * j + 1)), .null] := (PQ.cl (fun D s a b => p_letters a b)).v
  obtain ⟨v, y, hw2, hc, hm⟩ := hcv x I J F hw hC hM
  obtain ⟨w, rfl⟩ := (hm I J F nc ns hC.rf hM).int (by decide) (by decide)
  obtain ⟨_, _, e1, rfl, I1, J1, F1, rfl, hC1, f1⟩ := hc nc ns
  obtain ⟨_, _, e2, rfl, I2, J2, F2, rfl, hM2, f2⟩ := hm I1 J1 F1 nc ns hC1.rf (hM.f f1)
  have s1 : I1 sp_X = I sp_X := (f1 sp_X (by decide)).1
  have x1 : F1 sp_X 0 = some n := (congrFun (f1 sp_X (by decide)).2.2 0).trans hX
  have hL2 : Lv n I2 J2 F2 := Lv.of hw2 hC1 hM2 f2 x1
  refine we_aload_n (p := 1029) dL_law_1028 rfl rfl ?_
  refine lw_arg (c := 1) (v := I sp_X (6 * j + 1)) (p := 1035) dL_law_1029 dL_law_1030 dL_law_1032 dL_law_1033 dL_law_1034 (by decide) hX (by omega) hn rfl rfl ?_
  refine we_callV_int (p := 1038) (k' := 9) (a := [.ref 0, .int (I sp_X (6 * j + 1))]) (rr := []) dL_law_1035 rfl rfl rfl rfl (rc_of rfl rfl (by decide) ⟨rfl, by decide⟩) (Nat.le_of_ble_eq_true rfl) (Nat.le_of_ble_eq_true rfl) (by decide) e1 (Or.inl rfl) rfl ?_
  refine we_aload_n (p := 1039) dL_law_1038 rfl rfl ?_
  refine lw_arg (c := 1) (v := I sp_X (6 * j + 1)) (p := 1045) dL_law_1039 dL_law_1040 dL_law_1042 dL_law_1043 dL_law_1044 (by decide) x1 (by omega) hn (congrFun s1 _) rfl ?_
  refine we_callV_int (p := 1048) (k' := 9) (a := [.ref 95, .int (I sp_X (6 * j + 1))]) (rr := [.int w]) dL_law_1045 rfl rfl rfl rfl (rc_of rfl rfl (by decide) ⟨rfl, by decide⟩) (Nat.le_of_ble_eq_true rfl) (Nat.le_of_ble_eq_true rfl) (by decide) e2 (Or.inl rfl) rfl ?_
  exact we_icmp_eq (t := 1849) (p := 1051) dL_law_1048 (by decide) rfl rfl (fun _ => kk _ _ _ hL2) (fun z => absurd rfl z)
set_option maxRecDepth 10000 in
theorem l_lettersAt {n j : Nat} {z5 z6 : Value} {I : Nat → Nat → Int32} {J : Nat → Nat → Int64} {F : Nat → Nat → Option Nat} {nc ns : Nat} {Q : Option Value → hp_H → Prop} (hv : Lv n I J F) (hj : 6 * j + 6 ≤ n) (hn : n ≤ 3072) (kk : ∀ I' J' F', Lv n I' J' F' → Ew 12 mL_law 1849 (lL j z5 z6) [] ((SH, nc, ns), I', J', F') Q) : Ew 12 mL_law 1053 (lL j z5 z6) [] ((SH, nc, ns), I, J, F) Q := by
  obtain ⟨⟨x, hw, hC, hM⟩, hX⟩ := hv
  have hcv : Cv 9 9 mX11_lettersAt mX12_lettersAt [.int (I sp_X (6 * j + 1)), .int (I sp_X (6 * j + 2))] [.int (I sp_X (6 * j + 1)), .int (I sp_X (6 * j + 2)), .null] := (PQ.cl (fun D s a b => p_lettersAt a b)).v
  obtain ⟨v, y, hw2, hc, hm⟩ := hcv x I J F hw hC hM
  obtain ⟨w, rfl⟩ := (hm I J F nc ns hC.rf hM).int (by decide) (by decide)
  obtain ⟨_, _, e1, rfl, I1, J1, F1, rfl, hC1, f1⟩ := hc nc ns
  obtain ⟨_, _, e2, rfl, I2, J2, F2, rfl, hM2, f2⟩ := hm I1 J1 F1 nc ns hC1.rf (hM.f f1)
  have s1 : I1 sp_X = I sp_X := (f1 sp_X (by decide)).1
  have x1 : F1 sp_X 0 = some n := (congrFun (f1 sp_X (by decide)).2.2 0).trans hX
  have hL2 : Lv n I2 J2 F2 := Lv.of hw2 hC1 hM2 f2 x1
  refine we_aload_n (p := 1054) dL_law_1053 rfl rfl ?_
  refine lw_arg (c := 1) (v := I sp_X (6 * j + 1)) (p := 1060) dL_law_1054 dL_law_1055 dL_law_1057 dL_law_1058 dL_law_1059 (by decide) hX (by omega) hn rfl rfl ?_
  refine lw_arg (c := 2) (v := I sp_X (6 * j + 2)) (p := 1066) dL_law_1060 dL_law_1061 dL_law_1063 dL_law_1064 dL_law_1065 (by decide) hX (by omega) hn rfl rfl ?_
  refine we_callV_int (p := 1069) (k' := 9) (a := [.ref 0, .int (I sp_X (6 * j + 1)), .int (I sp_X (6 * j + 2))]) (rr := []) dL_law_1066 rfl rfl rfl rfl (rc_of rfl rfl (by decide) ⟨rfl, by decide⟩) (Nat.le_of_ble_eq_true rfl) (Nat.le_of_ble_eq_true rfl) (by decide) e1 (Or.inl rfl) rfl ?_
  refine we_aload_n (p := 1070) dL_law_1069 rfl rfl ?_
  refine lw_arg (c := 1) (v := I sp_X (6 * j + 1)) (p := 1076) dL_law_1070 dL_law_1071 dL_law_1073 dL_law_1074 dL_law_1075 (by decide) x1 (by omega) hn (congrFun s1 _) rfl ?_
  refine lw_arg (c := 2) (v := I sp_X (6 * j + 2)) (p := 1082) dL_law_1076 dL_law_1077 dL_law_1079 dL_law_1080 dL_law_1081 (by decide) x1 (by omega) hn (congrFun s1 _) rfl ?_
  refine we_callV_int (p := 1085) (k' := 9) (a := [.ref 95, .int (I sp_X (6 * j + 1)), .int (I sp_X (6 * j + 2))]) (rr := [.int w]) dL_law_1082 rfl rfl rfl rfl (rc_of rfl rfl (by decide) ⟨rfl, by decide⟩) (Nat.le_of_ble_eq_true rfl) (Nat.le_of_ble_eq_true rfl) (by decide) e2 (Or.inl rfl) rfl ?_
  exact we_icmp_eq (t := 1849) (p := 1088) dL_law_1085 (by decide) rfl rfl (fun _ => kk _ _ _ hL2) (fun z => absurd rfl z)
set_option maxRecDepth 10000 in
theorem l_lost {n j : Nat} {z5 z6 : Value} {I : Nat → Nat → Int32} {J : Nat → Nat → Int64} {F : Nat → Nat → Option Nat} {nc ns : Nat} {Q : Option Value → hp_H → Prop} (hv : Lv n I J F) (hj : 6 * j + 6 ≤ n) (hn : n ≤ 3072) (kk : ∀ I' J' F', Lv n I' J' F' → Ew 12 mL_law 1849 (lL j z5 z6) [] ((SH, nc, ns), I', J', F') Q) : Ew 12 mL_law 1090 (lL j z5 z6) [] ((SH, nc, ns), I, J, F) Q := by
  obtain ⟨⟨x, hw, hC, hM⟩, hX⟩ := hv
  have hcv : Cv 4 4 mX11_lost mX12_lost [.null, .null, .null] [.null, .null, .null] := (PQ.cl (fun D s a b => p_lost a b)).v
  obtain ⟨v, y, hw2, hc, hm⟩ := hcv x I J F hw hC hM
  obtain ⟨w, rfl⟩ := (hm I J F nc ns hC.rf hM).int (by decide) (by decide)
  obtain ⟨_, _, e1, rfl, I1, J1, F1, rfl, hC1, f1⟩ := hc nc ns
  obtain ⟨_, _, e2, rfl, I2, J2, F2, rfl, hM2, f2⟩ := hm I1 J1 F1 nc ns hC1.rf (hM.f f1)
  have s1 : I1 sp_X = I sp_X := (f1 sp_X (by decide)).1
  have x1 : F1 sp_X 0 = some n := (congrFun (f1 sp_X (by decide)).2.2 0).trans hX
  have hL2 : Lv n I2 J2 F2 := Lv.of hw2 hC1 hM2 f2 x1
  refine we_aload_n (p := 1091) dL_law_1090 rfl rfl ?_
  refine we_callV_int (p := 1094) (k' := 4) (a := [.ref 0]) (rr := []) dL_law_1091 rfl rfl rfl rfl (rc_of rfl rfl (by decide) ⟨rfl, by decide⟩) (Nat.le_of_ble_eq_true rfl) (Nat.le_of_ble_eq_true rfl) (by decide) e1 (Or.inl rfl) rfl ?_
  refine we_aload_n (p := 1095) dL_law_1094 rfl rfl ?_
  refine we_callV_int (p := 1098) (k' := 4) (a := [.ref 95]) (rr := [.int w]) dL_law_1095 rfl rfl rfl rfl (rc_of rfl rfl (by decide) ⟨rfl, by decide⟩) (Nat.le_of_ble_eq_true rfl) (Nat.le_of_ble_eq_true rfl) (by decide) e2 (Or.inl rfl) rfl ?_
  exact we_icmp_eq (t := 1849) (p := 1101) dL_law_1098 (by decide) rfl rfl (fun _ => kk _ _ _ hL2) (fun z => absurd rfl z)
set_option maxRecDepth 10000 in
theorem l_soonest {n j : Nat} {z5 z6 : Value} {I : Nat → Nat → Int32} {J : Nat → Nat → Int64} {F : Nat → Nat → Option Nat} {nc ns : Nat} {Q : Option Value → hp_H → Prop} (hv : Lv n I J F) (hj : 6 * j + 6 ≤ n) (hn : n ≤ 3072) (kk : ∀ I' J' F', Lv n I' J' F' → Ew 12 mL_law 1849 (lL j z5 z6) [] ((SH, nc, ns), I', J', F') Q) : Ew 12 mL_law 1103 (lL j z5 z6) [] ((SH, nc, ns), I, J, F) Q := by
  obtain ⟨⟨x, hw, hC, hM⟩, hX⟩ := hv
  have hcv : Cv 4 4 mX11_soonest mX12_soonest [.int (I sp_X (6 * j + 1))] [.int (I sp_X (6 * j + 1))] := (PQ.cl (fun D s a b => p_soonest a b)).v
  obtain ⟨v, y, hw2, hc, hm⟩ := hcv x I J F hw hC hM
  obtain ⟨w, rfl⟩ := (hm I J F nc ns hC.rf hM).int (by decide) (by decide)
  obtain ⟨_, _, e1, rfl, I1, J1, F1, rfl, hC1, f1⟩ := hc nc ns
  obtain ⟨_, _, e2, rfl, I2, J2, F2, rfl, hM2, f2⟩ := hm I1 J1 F1 nc ns hC1.rf (hM.f f1)
  have s1 : I1 sp_X = I sp_X := (f1 sp_X (by decide)).1
  have x1 : F1 sp_X 0 = some n := (congrFun (f1 sp_X (by decide)).2.2 0).trans hX
  have hL2 : Lv n I2 J2 F2 := Lv.of hw2 hC1 hM2 f2 x1
  refine we_aload_n (p := 1104) dL_law_1103 rfl rfl ?_
  refine lw_arg (c := 1) (v := I sp_X (6 * j + 1)) (p := 1110) dL_law_1104 dL_law_1105 dL_law_1107 dL_law_1108 dL_law_1109 (by decide) hX (by omega) hn rfl rfl ?_
  refine we_callV_int (p := 1113) (k' := 4) (a := [.ref 0, .int (I sp_X (6 * j + 1))]) (rr := []) dL_law_1110 rfl rfl rfl rfl (rc_of rfl rfl (by decide) ⟨rfl, by decide⟩) (Nat.le_of_ble_eq_true rfl) (Nat.le_of_ble_eq_true rfl) (by decide) e1 (Or.inl rfl) rfl ?_
  refine we_aload_n (p := 1114) dL_law_1113 rfl rfl ?_
  refine lw_arg (c := 1) (v := I sp_X (6 * j + 1)) (p := 1120) dL_law_1114 dL_law_1115 dL_law_1117 dL_law_1118 dL_law_1119 (by decide) x1 (by omega) hn (congrFun s1 _) rfl ?_
  refine we_callV_int (p := 1123) (k' := 4) (a := [.ref 95, .int (I sp_X (6 * j + 1))]) (rr := [.int w]) dL_law_1120 rfl rfl rfl rfl (rc_of rfl rfl (by decide) ⟨rfl, by decide⟩) (Nat.le_of_ble_eq_true rfl) (Nat.le_of_ble_eq_true rfl) (by decide) e2 (Or.inl rfl) rfl ?_
  exact we_icmp_eq (t := 1849) (p := 1126) dL_law_1123 (by decide) rfl rfl (fun _ => kk _ _ _ hL2) (fun z => absurd rfl z)
set_option maxRecDepth 10000 in
theorem l_bells {n j : Nat} {z5 z6 : Value} {I : Nat → Nat → Int32} {J : Nat → Nat → Int64} {F : Nat → Nat → Option Nat} {nc ns : Nat} {Q : Option Value → hp_H → Prop} (hv : Lv n I J F) (hj : 6 * j + 6 ≤ n) (hn : n ≤ 3072) (kk : ∀ I' J' F', Lv n I' J' F' → Ew 12 mL_law 1849 (lL j z5 z6) [] ((SH, nc, ns), I', J', F') Q) : Ew 12 mL_law 1128 (lL j z5 z6) [] ((SH, nc, ns), I, J, F) Q := by
  obtain ⟨⟨x, hw, hC, hM⟩, hX⟩ := hv
  have hcv : Cv 3 2 mX11_bells mX12_bells [] [.null, .null, .null, .null] := (PQ.cl (fun D s a b => p_bells a b)).v
  obtain ⟨v, y, hw2, hc, hm⟩ := hcv x I J F hw hC hM
  obtain ⟨w, rfl⟩ := (hm I J F nc ns hC.rf hM).int (by decide) (by decide)
  obtain ⟨_, _, e1, rfl, I1, J1, F1, rfl, hC1, f1⟩ := hc nc ns
  obtain ⟨_, _, e2, rfl, I2, J2, F2, rfl, hM2, f2⟩ := hm I1 J1 F1 nc ns hC1.rf (hM.f f1)
  have s1 : I1 sp_X = I sp_X := (f1 sp_X (by decide)).1
  have x1 : F1 sp_X 0 = some n := (congrFun (f1 sp_X (by decide)).2.2 0).trans hX
  have hL2 : Lv n I2 J2 F2 := Lv.of hw2 hC1 hM2 f2 x1
  refine we_aload_n (p := 1129) dL_law_1128 rfl rfl ?_
  refine we_callV_int (p := 1132) (k' := 3) (a := [.ref 0]) (rr := []) dL_law_1129 rfl rfl rfl rfl (rc_of rfl rfl (by decide) ⟨rfl, by decide⟩) (Nat.le_of_ble_eq_true rfl) (Nat.le_of_ble_eq_true rfl) (by decide) e1 (Or.inl rfl) rfl ?_
  refine we_aload_n (p := 1133) dL_law_1132 rfl rfl ?_
  refine we_callV_int (p := 1136) (k' := 2) (a := [.ref 95]) (rr := [.int w]) dL_law_1133 rfl rfl rfl rfl (rc_of rfl rfl (by decide) ⟨rfl, by decide⟩) (Nat.le_of_ble_eq_true rfl) (Nat.le_of_ble_eq_true rfl) (by decide) e2 (Or.inl rfl) rfl ?_
  exact we_icmp_eq (t := 1849) (p := 1139) dL_law_1136 (by decide) rfl rfl (fun _ => kk _ _ _ hL2) (fun z => absurd rfl z)
set_option maxRecDepth 10000 in
theorem l_bid {n j : Nat} {z5 z6 : Value} {I : Nat → Nat → Int32} {J : Nat → Nat → Int64} {F : Nat → Nat → Option Nat} {nc ns : Nat} {Q : Option Value → hp_H → Prop} (hv : Lv n I J F) (hj : 6 * j + 6 ≤ n) (hn : n ≤ 3072) (kk : ∀ I' J' F', Lv n I' J' F' → Ew 12 mL_law 1849 (lL j z5 z6) [] ((SH, nc, ns), I', J', F') Q) : Ew 12 mL_law 1141 (lL j z5 z6) [] ((SH, nc, ns), I, J, F) Q := by
  obtain ⟨⟨x, hw, hC, hM⟩, hX⟩ := hv
  have hcv : Cv 2 1 mX11_bid mX12_bid [.int (I sp_X (6 * j + 1)), .int (I sp_X (6 * j + 2)), .int (I sp_X (6 * j + 3)), .int (if I sp_X (6 * j + 4) = 0 then 0 else 1), .null] [.int (I sp_X (6 * j + 1)), .int (I sp_X (6 * j + 2)), .int (I sp_X (6 * j + 3)), .int (if I sp_X (6 * j + 4) = 0 then 0 else 1)] := (PQ.cl (fun D s a b => p_bid a b)).v
  obtain ⟨v, y, hw2, hc, hm⟩ := hcv x I J F hw hC hM
  obtain ⟨w, rfl⟩ := (hm I J F nc ns hC.rf hM).int (by decide) (by decide)
  obtain ⟨_, _, e1, rfl, I1, J1, F1, rfl, hC1, f1⟩ := hc nc ns
  obtain ⟨_, _, e2, rfl, I2, J2, F2, rfl, hM2, f2⟩ := hm I1 J1 F1 nc ns hC1.rf (hM.f f1)
  have s1 : I1 sp_X = I sp_X := (f1 sp_X (by decide)).1
  have x1 : F1 sp_X 0 = some n := (congrFun (f1 sp_X (by decide)).2.2 0).trans hX
  have hL2 : Lv n I2 J2 F2 := Lv.of hw2 hC1 hM2 f2 x1
  refine we_aload_n (p := 1142) dL_law_1141 rfl rfl ?_
  refine lw_arg (c := 1) (v := I sp_X (6 * j + 1)) (p := 1148) dL_law_1142 dL_law_1143 dL_law_1145 dL_law_1146 dL_law_1147 (by decide) hX (by omega) hn rfl rfl ?_
  refine lw_arg (c := 2) (v := I sp_X (6 * j + 2)) (p := 1154) dL_law_1148 dL_law_1149 dL_law_1151 dL_law_1152 dL_law_1153 (by decide) hX (by omega) hn rfl rfl ?_
  refine lw_arg (c := 3) (v := I sp_X (6 * j + 3)) (p := 1160) dL_law_1154 dL_law_1155 dL_law_1157 dL_law_1158 dL_law_1159 (by decide) hX (by omega) hn rfl rfl ?_
  refine lw_arg (c := 4) (v := I sp_X (6 * j + 4)) (p := 1166) dL_law_1160 dL_law_1161 dL_law_1163 dL_law_1164 dL_law_1165 (by decide) hX (by omega) hn rfl rfl ?_
  refine lw_bool (p := 1174) dL_law_1166 dL_law_1169 dL_law_1170 dL_law_1173 rfl ?_
  refine we_callV_int (p := 1177) (k' := 2) (a := [.ref 0, .int (I sp_X (6 * j + 1)), .int (I sp_X (6 * j + 2)), .int (I sp_X (6 * j + 3)), .int (if I sp_X (6 * j + 4) = 0 then 0 else 1)]) (rr := []) dL_law_1174 rfl rfl rfl rfl (rc_of rfl rfl (by decide) ⟨rfl, by decide⟩) (Nat.le_of_ble_eq_true rfl) (Nat.le_of_ble_eq_true rfl) (by decide) e1 (Or.inl rfl) rfl ?_
  refine we_aload_n (p := 1178) dL_law_1177 rfl rfl ?_
  refine lw_arg (c := 1) (v := I sp_X (6 * j + 1)) (p := 1184) dL_law_1178 dL_law_1179 dL_law_1181 dL_law_1182 dL_law_1183 (by decide) x1 (by omega) hn (congrFun s1 _) rfl ?_
  refine lw_arg (c := 2) (v := I sp_X (6 * j + 2)) (p := 1190) dL_law_1184 dL_law_1185 dL_law_1187 dL_law_1188 dL_law_1189 (by decide) x1 (by omega) hn (congrFun s1 _) rfl ?_
  refine lw_arg (c := 3) (v := I sp_X (6 * j + 3)) (p := 1196) dL_law_1190 dL_law_1191 dL_law_1193 dL_law_1194 dL_law_1195 (by decide) x1 (by omega) hn (congrFun s1 _) rfl ?_
  refine lw_arg (c := 4) (v := I sp_X (6 * j + 4)) (p := 1202) dL_law_1196 dL_law_1197 dL_law_1199 dL_law_1200 dL_law_1201 (by decide) x1 (by omega) hn (congrFun s1 _) rfl ?_
  refine lw_bool (p := 1210) dL_law_1202 dL_law_1205 dL_law_1206 dL_law_1209 rfl ?_
  refine we_callV_int (p := 1213) (k' := 1) (a := [.ref 95, .int (I sp_X (6 * j + 1)), .int (I sp_X (6 * j + 2)), .int (I sp_X (6 * j + 3)), .int (if I sp_X (6 * j + 4) = 0 then 0 else 1)]) (rr := [.int w]) dL_law_1210 rfl rfl rfl rfl (rc_of rfl rfl (by decide) ⟨rfl, by decide⟩) (Nat.le_of_ble_eq_true rfl) (Nat.le_of_ble_eq_true rfl) (by decide) e2 (Or.inl rfl) rfl ?_
  exact we_icmp_eq (t := 1849) (p := 1216) dL_law_1213 (by decide) rfl rfl (fun _ => kk _ _ _ hL2) (fun z => absurd rfl z)
set_option maxRecDepth 10000 in
theorem l_rests {n j : Nat} {z5 z6 : Value} {I : Nat → Nat → Int32} {J : Nat → Nat → Int64} {F : Nat → Nat → Option Nat} {nc ns : Nat} {Q : Option Value → hp_H → Prop} (hv : Lv n I J F) (hj : 6 * j + 6 ≤ n) (hn : n ≤ 3072) (kk : ∀ I' J' F', Lv n I' J' F' → Ew 12 mL_law 1849 (lL j z5 z6) [] ((SH, nc, ns), I', J', F') Q) : Ew 12 mL_law 1218 (lL j z5 z6) [] ((SH, nc, ns), I, J, F) Q := by
  obtain ⟨⟨x, hw, hC, hM⟩, hX⟩ := hv
  have hcv : Cv 2 3 mX11_rests mX12_rests [.int (I sp_X (6 * j + 1)), .null, .null] [.int (I sp_X (6 * j + 1)), .null] := (PQ.cl (fun D s a b => p_rests a b)).v
  obtain ⟨v, y, hw2, hc, hm⟩ := hcv x I J F hw hC hM
  obtain ⟨w, rfl⟩ := (hm I J F nc ns hC.rf hM).int (by decide) (by decide)
  obtain ⟨_, _, e1, rfl, I1, J1, F1, rfl, hC1, f1⟩ := hc nc ns
  obtain ⟨_, _, e2, rfl, I2, J2, F2, rfl, hM2, f2⟩ := hm I1 J1 F1 nc ns hC1.rf (hM.f f1)
  have s1 : I1 sp_X = I sp_X := (f1 sp_X (by decide)).1
  have x1 : F1 sp_X 0 = some n := (congrFun (f1 sp_X (by decide)).2.2 0).trans hX
  have hL2 : Lv n I2 J2 F2 := Lv.of hw2 hC1 hM2 f2 x1
  refine we_aload_n (p := 1219) dL_law_1218 rfl rfl ?_
  refine lw_arg (c := 1) (v := I sp_X (6 * j + 1)) (p := 1225) dL_law_1219 dL_law_1220 dL_law_1222 dL_law_1223 dL_law_1224 (by decide) hX (by omega) hn rfl rfl ?_
  refine we_callV_int (p := 1228) (k' := 2) (a := [.ref 0, .int (I sp_X (6 * j + 1))]) (rr := []) dL_law_1225 rfl rfl rfl rfl (rc_of rfl rfl (by decide) ⟨rfl, by decide⟩) (Nat.le_of_ble_eq_true rfl) (Nat.le_of_ble_eq_true rfl) (by decide) e1 (Or.inl rfl) rfl ?_
  refine we_aload_n (p := 1229) dL_law_1228 rfl rfl ?_
  refine lw_arg (c := 1) (v := I sp_X (6 * j + 1)) (p := 1235) dL_law_1229 dL_law_1230 dL_law_1232 dL_law_1233 dL_law_1234 (by decide) x1 (by omega) hn (congrFun s1 _) rfl ?_
  refine we_callV_int (p := 1238) (k' := 3) (a := [.ref 95, .int (I sp_X (6 * j + 1))]) (rr := [.int w]) dL_law_1235 rfl rfl rfl rfl (rc_of rfl rfl (by decide) ⟨rfl, by decide⟩) (Nat.le_of_ble_eq_true rfl) (Nat.le_of_ble_eq_true rfl) (by decide) e2 (Or.inl rfl) rfl ?_
  exact we_icmp_eq (t := 1849) (p := 1241) dL_law_1238 (by decide) rfl rfl (fun _ => kk _ _ _ hL2) (fun z => absurd rfl z)
set_option maxRecDepth 10000 in
theorem l_rest {n j : Nat} {z5 z6 : Value} {I : Nat → Nat → Int32} {J : Nat → Nat → Int64} {F : Nat → Nat → Option Nat} {nc ns : Nat} {Q : Option Value → hp_H → Prop} (hv : Lv n I J F) (hj : 6 * j + 6 ≤ n) (hn : n ≤ 3072) (kk : ∀ I' J' F', Lv n I' J' F' → Ew 12 mL_law 1849 (lL j z5 z6) [] ((SH, nc, ns), I', J', F') Q) : Ew 12 mL_law 1243 (lL j z5 z6) [] ((SH, nc, ns), I, J, F) Q := by
  obtain ⟨⟨x, hw, hC, hM⟩, hX⟩ := hv
  have hcv : Cv 2 3 mX11_rest mX12_rest [.int (I sp_X (6 * j + 1)), .null] [.int (I sp_X (6 * j + 1)), .null] := (PQ.cl (fun D s a b => p_rest a b)).v
  obtain ⟨v, y, hw2, hc, hm⟩ := hcv x I J F hw hC hM
  obtain ⟨w, rfl⟩ := (hm I J F nc ns hC.rf hM).int (by decide) (by decide)
  obtain ⟨_, _, e1, rfl, I1, J1, F1, rfl, hC1, f1⟩ := hc nc ns
  obtain ⟨_, _, e2, rfl, I2, J2, F2, rfl, hM2, f2⟩ := hm I1 J1 F1 nc ns hC1.rf (hM.f f1)
  have s1 : I1 sp_X = I sp_X := (f1 sp_X (by decide)).1
  have x1 : F1 sp_X 0 = some n := (congrFun (f1 sp_X (by decide)).2.2 0).trans hX
  have hL2 : Lv n I2 J2 F2 := Lv.of hw2 hC1 hM2 f2 x1
  refine we_aload_n (p := 1244) dL_law_1243 rfl rfl ?_
  refine lw_arg (c := 1) (v := I sp_X (6 * j + 1)) (p := 1250) dL_law_1244 dL_law_1245 dL_law_1247 dL_law_1248 dL_law_1249 (by decide) hX (by omega) hn rfl rfl ?_
  refine we_callV_int (p := 1253) (k' := 2) (a := [.ref 0, .int (I sp_X (6 * j + 1))]) (rr := []) dL_law_1250 rfl rfl rfl rfl (rc_of rfl rfl (by decide) ⟨rfl, by decide⟩) (Nat.le_of_ble_eq_true rfl) (Nat.le_of_ble_eq_true rfl) (by decide) e1 (Or.inl rfl) rfl ?_
  refine we_aload_n (p := 1254) dL_law_1253 rfl rfl ?_
  refine lw_arg (c := 1) (v := I sp_X (6 * j + 1)) (p := 1260) dL_law_1254 dL_law_1255 dL_law_1257 dL_law_1258 dL_law_1259 (by decide) x1 (by omega) hn (congrFun s1 _) rfl ?_
  refine we_callV_int (p := 1263) (k' := 3) (a := [.ref 95, .int (I sp_X (6 * j + 1))]) (rr := [.int w]) dL_law_1260 rfl rfl rfl rfl (rc_of rfl rfl (by decide) ⟨rfl, by decide⟩) (Nat.le_of_ble_eq_true rfl) (Nat.le_of_ble_eq_true rfl) (by decide) e2 (Or.inl rfl) rfl ?_
  exact we_icmp_eq (t := 1849) (p := 1266) dL_law_1263 (by decide) rfl rfl (fun _ => kk _ _ _ hL2) (fun z => absurd rfl z)
set_option maxRecDepth 10000 in
theorem l_part {n j : Nat} {z5 z6 : Value} {I : Nat → Nat → Int32} {J : Nat → Nat → Int64} {F : Nat → Nat → Option Nat} {nc ns : Nat} {Q : Option Value → hp_H → Prop} (hv : Lv n I J F) (hj : 6 * j + 6 ≤ n) (hn : n ≤ 3072) (kk : ∀ I' J' F', Lv n I' J' F' → Ew 12 mL_law 1849 (lL j z5 z6) [] ((SH, nc, ns), I', J', F') Q) : Ew 12 mL_law 1268 (lL j z5 z6) [] ((SH, nc, ns), I, J, F) Q := by
  obtain ⟨⟨x, hw, hC, hM⟩, hX⟩ := hv
  have hcv : Cv 2 3 mX11_part mX12_part [.int (I sp_X (6 * j + 1)), .int (I sp_X (6 * j + 2)), .int (I sp_X (6 * j + 3))] [.int (I sp_X (6 * j + 1)), .int (I sp_X (6 * j + 2)), .int (I sp_X (6 * j + 3)), .null] := (PQ.cl (fun D s a b => p_part a b)).v
  obtain ⟨v, y, hw2, hc, hm⟩ := hcv x I J F hw hC hM
  obtain ⟨w, rfl⟩ := (hm I J F nc ns hC.rf hM).int (by decide) (by decide)
  obtain ⟨_, _, e1, rfl, I1, J1, F1, rfl, hC1, f1⟩ := hc nc ns
  obtain ⟨_, _, e2, rfl, I2, J2, F2, rfl, hM2, f2⟩ := hm I1 J1 F1 nc ns hC1.rf (hM.f f1)
  have s1 : I1 sp_X = I sp_X := (f1 sp_X (by decide)).1
  have x1 : F1 sp_X 0 = some n := (congrFun (f1 sp_X (by decide)).2.2 0).trans hX
  have hL2 : Lv n I2 J2 F2 := Lv.of hw2 hC1 hM2 f2 x1
  refine we_aload_n (p := 1269) dL_law_1268 rfl rfl ?_
  refine lw_arg (c := 1) (v := I sp_X (6 * j + 1)) (p := 1275) dL_law_1269 dL_law_1270 dL_law_1272 dL_law_1273 dL_law_1274 (by decide) hX (by omega) hn rfl rfl ?_
  refine lw_arg (c := 2) (v := I sp_X (6 * j + 2)) (p := 1281) dL_law_1275 dL_law_1276 dL_law_1278 dL_law_1279 dL_law_1280 (by decide) hX (by omega) hn rfl rfl ?_
  refine lw_arg (c := 3) (v := I sp_X (6 * j + 3)) (p := 1287) dL_law_1281 dL_law_1282 dL_law_1284 dL_law_1285 dL_law_1286 (by decide) hX (by omega) hn rfl rfl ?_
  refine we_callV_int (p := 1290) (k' := 2) (a := [.ref 0, .int (I sp_X (6 * j + 1)), .int (I sp_X (6 * j + 2)), .int (I sp_X (6 * j + 3))]) (rr := []) dL_law_1287 rfl rfl rfl rfl (rc_of rfl rfl (by decide) ⟨rfl, by decide⟩) (Nat.le_of_ble_eq_true rfl) (Nat.le_of_ble_eq_true rfl) (by decide) e1 (Or.inl rfl) rfl ?_
  refine we_aload_n (p := 1291) dL_law_1290 rfl rfl ?_
  refine lw_arg (c := 1) (v := I sp_X (6 * j + 1)) (p := 1297) dL_law_1291 dL_law_1292 dL_law_1294 dL_law_1295 dL_law_1296 (by decide) x1 (by omega) hn (congrFun s1 _) rfl ?_
  refine lw_arg (c := 2) (v := I sp_X (6 * j + 2)) (p := 1303) dL_law_1297 dL_law_1298 dL_law_1300 dL_law_1301 dL_law_1302 (by decide) x1 (by omega) hn (congrFun s1 _) rfl ?_
  refine lw_arg (c := 3) (v := I sp_X (6 * j + 3)) (p := 1309) dL_law_1303 dL_law_1304 dL_law_1306 dL_law_1307 dL_law_1308 (by decide) x1 (by omega) hn (congrFun s1 _) rfl ?_
  refine we_callV_int (p := 1312) (k' := 3) (a := [.ref 95, .int (I sp_X (6 * j + 1)), .int (I sp_X (6 * j + 2)), .int (I sp_X (6 * j + 3))]) (rr := [.int w]) dL_law_1309 rfl rfl rfl rfl (rc_of rfl rfl (by decide) ⟨rfl, by decide⟩) (Nat.le_of_ble_eq_true rfl) (Nat.le_of_ble_eq_true rfl) (by decide) e2 (Or.inl rfl) rfl ?_
  exact we_icmp_eq (t := 1849) (p := 1315) dL_law_1312 (by decide) rfl rfl (fun _ => kk _ _ _ hL2) (fun z => absurd rfl z)
set_option maxRecDepth 10000 in
theorem l_service {n j : Nat} {z5 z6 : Value} {I : Nat → Nat → Int32} {J : Nat → Nat → Int64} {F : Nat → Nat → Option Nat} {nc ns : Nat} {Q : Option Value → hp_H → Prop} (hv : Lv n I J F) (hj : 6 * j + 6 ≤ n) (hn : n ≤ 3072) (kk : ∀ I' J' F', Lv n I' J' F' → Ew 12 mL_law 1849 (lL j z5 z6) [] ((SH, nc, ns), I', J', F') Q) : Ew 12 mL_law 1317 (lL j z5 z6) [] ((SH, nc, ns), I, J, F) Q := by
  obtain ⟨⟨x, hw, hC, hM⟩, hX⟩ := hv
  have hcv : Cv 2 3 mX11_service mX12_service [.int (I sp_X (6 * j + 1)), .int (I sp_X (6 * j + 2))] [.int (I sp_X (6 * j + 1)), .int (I sp_X (6 * j + 2)), .null] := (PQ.cl (fun D s a b => p_service a b)).v
  obtain ⟨v, y, hw2, hc, hm⟩ := hcv x I J F hw hC hM
  obtain ⟨w, rfl⟩ := (hm I J F nc ns hC.rf hM).int (by decide) (by decide)
  obtain ⟨_, _, e1, rfl, I1, J1, F1, rfl, hC1, f1⟩ := hc nc ns
  obtain ⟨_, _, e2, rfl, I2, J2, F2, rfl, hM2, f2⟩ := hm I1 J1 F1 nc ns hC1.rf (hM.f f1)
  have s1 : I1 sp_X = I sp_X := (f1 sp_X (by decide)).1
  have x1 : F1 sp_X 0 = some n := (congrFun (f1 sp_X (by decide)).2.2 0).trans hX
  have hL2 : Lv n I2 J2 F2 := Lv.of hw2 hC1 hM2 f2 x1
  refine we_aload_n (p := 1318) dL_law_1317 rfl rfl ?_
  refine lw_arg (c := 1) (v := I sp_X (6 * j + 1)) (p := 1324) dL_law_1318 dL_law_1319 dL_law_1321 dL_law_1322 dL_law_1323 (by decide) hX (by omega) hn rfl rfl ?_
  refine lw_arg (c := 2) (v := I sp_X (6 * j + 2)) (p := 1330) dL_law_1324 dL_law_1325 dL_law_1327 dL_law_1328 dL_law_1329 (by decide) hX (by omega) hn rfl rfl ?_
  refine we_callV_int (p := 1333) (k' := 2) (a := [.ref 0, .int (I sp_X (6 * j + 1)), .int (I sp_X (6 * j + 2))]) (rr := []) dL_law_1330 rfl rfl rfl rfl (rc_of rfl rfl (by decide) ⟨rfl, by decide⟩) (Nat.le_of_ble_eq_true rfl) (Nat.le_of_ble_eq_true rfl) (by decide) e1 (Or.inl rfl) rfl ?_
  refine we_aload_n (p := 1334) dL_law_1333 rfl rfl ?_
  refine lw_arg (c := 1) (v := I sp_X (6 * j + 1)) (p := 1340) dL_law_1334 dL_law_1335 dL_law_1337 dL_law_1338 dL_law_1339 (by decide) x1 (by omega) hn (congrFun s1 _) rfl ?_
  refine lw_arg (c := 2) (v := I sp_X (6 * j + 2)) (p := 1346) dL_law_1340 dL_law_1341 dL_law_1343 dL_law_1344 dL_law_1345 (by decide) x1 (by omega) hn (congrFun s1 _) rfl ?_
  refine we_callV_int (p := 1349) (k' := 3) (a := [.ref 95, .int (I sp_X (6 * j + 1)), .int (I sp_X (6 * j + 2))]) (rr := [.int w]) dL_law_1346 rfl rfl rfl rfl (rc_of rfl rfl (by decide) ⟨rfl, by decide⟩) (Nat.le_of_ble_eq_true rfl) (Nat.le_of_ble_eq_true rfl) (by decide) e2 (Or.inl rfl) rfl ?_
  exact we_icmp_eq (t := 1849) (p := 1352) dL_law_1349 (by decide) rfl rfl (fun _ => kk _ _ _ hL2) (fun z => absurd rfl z)
set_option maxRecDepth 10000 in
theorem l_bestHand {n j : Nat} {z5 z6 : Value} {I : Nat → Nat → Int32} {J : Nat → Nat → Int64} {F : Nat → Nat → Option Nat} {nc ns : Nat} {Q : Option Value → hp_H → Prop} (hv : Lv n I J F) (hj : 6 * j + 6 ≤ n) (hn : n ≤ 3072) (kk : ∀ I' J' F', Lv n I' J' F' → Ew 12 mL_law 1849 (lL j z5 z6) [] ((SH, nc, ns), I', J', F') Q) : Ew 12 mL_law 1354 (lL j z5 z6) [] ((SH, nc, ns), I, J, F) Q := by
  obtain ⟨⟨x, hw, hC, hM⟩, hX⟩ := hv
  have hcv : Cv 2 3 mX11_bestHand mX12_bestHand [.int (I sp_X (6 * j + 1)), .int (I sp_X (6 * j + 2)), .null, .null, .null] [.int (I sp_X (6 * j + 1)), .int (I sp_X (6 * j + 2)), .null, .null, .null] := (PQ.cl (fun D s a b => p_bestHand a b)).v
  obtain ⟨v, y, hw2, hc, hm⟩ := hcv x I J F hw hC hM
  obtain ⟨w, rfl⟩ := (hm I J F nc ns hC.rf hM).int (by decide) (by decide)
  obtain ⟨_, _, e1, rfl, I1, J1, F1, rfl, hC1, f1⟩ := hc nc ns
  obtain ⟨_, _, e2, rfl, I2, J2, F2, rfl, hM2, f2⟩ := hm I1 J1 F1 nc ns hC1.rf (hM.f f1)
  have s1 : I1 sp_X = I sp_X := (f1 sp_X (by decide)).1
  have x1 : F1 sp_X 0 = some n := (congrFun (f1 sp_X (by decide)).2.2 0).trans hX
  have hL2 : Lv n I2 J2 F2 := Lv.of hw2 hC1 hM2 f2 x1
  refine we_aload_n (p := 1355) dL_law_1354 rfl rfl ?_
  refine lw_arg (c := 1) (v := I sp_X (6 * j + 1)) (p := 1361) dL_law_1355 dL_law_1356 dL_law_1358 dL_law_1359 dL_law_1360 (by decide) hX (by omega) hn rfl rfl ?_
  refine lw_arg (c := 2) (v := I sp_X (6 * j + 2)) (p := 1367) dL_law_1361 dL_law_1362 dL_law_1364 dL_law_1365 dL_law_1366 (by decide) hX (by omega) hn rfl rfl ?_
  refine we_callV_int (p := 1370) (k' := 2) (a := [.ref 0, .int (I sp_X (6 * j + 1)), .int (I sp_X (6 * j + 2))]) (rr := []) dL_law_1367 rfl rfl rfl rfl (rc_of rfl rfl (by decide) ⟨rfl, by decide⟩) (Nat.le_of_ble_eq_true rfl) (Nat.le_of_ble_eq_true rfl) (by decide) e1 (Or.inl rfl) rfl ?_
  refine we_aload_n (p := 1371) dL_law_1370 rfl rfl ?_
  refine lw_arg (c := 1) (v := I sp_X (6 * j + 1)) (p := 1377) dL_law_1371 dL_law_1372 dL_law_1374 dL_law_1375 dL_law_1376 (by decide) x1 (by omega) hn (congrFun s1 _) rfl ?_
  refine lw_arg (c := 2) (v := I sp_X (6 * j + 2)) (p := 1383) dL_law_1377 dL_law_1378 dL_law_1380 dL_law_1381 dL_law_1382 (by decide) x1 (by omega) hn (congrFun s1 _) rfl ?_
  refine we_callV_int (p := 1386) (k' := 3) (a := [.ref 95, .int (I sp_X (6 * j + 1)), .int (I sp_X (6 * j + 2))]) (rr := [.int w]) dL_law_1383 rfl rfl rfl rfl (rc_of rfl rfl (by decide) ⟨rfl, by decide⟩) (Nat.le_of_ble_eq_true rfl) (Nat.le_of_ble_eq_true rfl) (by decide) e2 (Or.inl rfl) rfl ?_
  exact we_icmp_eq (t := 1849) (p := 1389) dL_law_1386 (by decide) rfl rfl (fun _ => kk _ _ _ hL2) (fun z => absurd rfl z)
set_option maxRecDepth 10000 in
theorem l_rows {n j : Nat} {z5 z6 : Value} {I : Nat → Nat → Int32} {J : Nat → Nat → Int64} {F : Nat → Nat → Option Nat} {nc ns : Nat} {Q : Option Value → hp_H → Prop} (hv : Lv n I J F) (hj : 6 * j + 6 ≤ n) (hn : n ≤ 3072) (kk : ∀ I' J' F', Lv n I' J' F' → Ew 12 mL_law 1849 (lL j z5 z6) [] ((SH, nc, ns), I', J', F') Q) : Ew 12 mL_law 1391 (lL j z5 z6) [] ((SH, nc, ns), I, J, F) Q := by
  obtain ⟨⟨x, hw, hC, hM⟩, hX⟩ := hv
  have hcv : Cv 7 9 mX11_rows mX12_rows [] [] := (PQ.cl (fun D s a b => p_rows a b)).v
  obtain ⟨v, y, hw2, hc, hm⟩ := hcv x I J F hw hC hM
  obtain ⟨w, rfl⟩ := (hm I J F nc ns hC.rf hM).int (by decide) (by decide)
  obtain ⟨_, _, e1, rfl, I1, J1, F1, rfl, hC1, f1⟩ := hc nc ns
  obtain ⟨_, _, e2, rfl, I2, J2, F2, rfl, hM2, f2⟩ := hm I1 J1 F1 nc ns hC1.rf (hM.f f1)
  have s1 : I1 sp_X = I sp_X := (f1 sp_X (by decide)).1
  have x1 : F1 sp_X 0 = some n := (congrFun (f1 sp_X (by decide)).2.2 0).trans hX
  have hL2 : Lv n I2 J2 F2 := Lv.of hw2 hC1 hM2 f2 x1
  refine we_aload_n (p := 1392) dL_law_1391 rfl rfl ?_
  refine we_callV_int (p := 1395) (k' := 7) (a := [.ref 0]) (rr := []) dL_law_1392 rfl rfl rfl rfl (rc_of rfl rfl (by decide) ⟨rfl, by decide⟩) (Nat.le_of_ble_eq_true rfl) (Nat.le_of_ble_eq_true rfl) (by decide) e1 (Or.inl rfl) rfl ?_
  refine we_aload_n (p := 1396) dL_law_1395 rfl rfl ?_
  refine we_callV_int (p := 1399) (k' := 9) (a := [.ref 95]) (rr := [.int w]) dL_law_1396 rfl rfl rfl rfl (rc_of rfl rfl (by decide) ⟨rfl, by decide⟩) (Nat.le_of_ble_eq_true rfl) (Nat.le_of_ble_eq_true rfl) (by decide) e2 (Or.inl rfl) rfl ?_
  exact we_icmp_eq (t := 1849) (p := 1402) dL_law_1399 (by decide) rfl rfl (fun _ => kk _ _ _ hL2) (fun z => absurd rfl z)
set_option maxRecDepth 10000 in
theorem l_could {n j : Nat} {z5 z6 : Value} {I : Nat → Nat → Int32} {J : Nat → Nat → Int64} {F : Nat → Nat → Option Nat} {nc ns : Nat} {Q : Option Value → hp_H → Prop} (hv : Lv n I J F) (hj : 6 * j + 6 ≤ n) (hn : n ≤ 3072) (kk : ∀ I' J' F', Lv n I' J' F' → Ew 12 mL_law 1849 (lL j z5 z6) [] ((SH, nc, ns), I', J', F') Q) : Ew 12 mL_law 1404 (lL j z5 z6) [] ((SH, nc, ns), I, J, F) Q := by
  obtain ⟨⟨x, hw, hC, hM⟩, hX⟩ := hv
  have hcv : Cv 7 9 mX11_could mX12_could [.int (I sp_X (6 * j + 1))] [.int (I sp_X (6 * j + 1)), .null, .null] := (PQ.cl (fun D s a b => p_could a b)).v
  obtain ⟨v, y, hw2, hc, hm⟩ := hcv x I J F hw hC hM
  obtain ⟨w, rfl⟩ := (hm I J F nc ns hC.rf hM).int (by decide) (by decide)
  obtain ⟨_, _, e1, rfl, I1, J1, F1, rfl, hC1, f1⟩ := hc nc ns
  obtain ⟨_, _, e2, rfl, I2, J2, F2, rfl, hM2, f2⟩ := hm I1 J1 F1 nc ns hC1.rf (hM.f f1)
  have s1 : I1 sp_X = I sp_X := (f1 sp_X (by decide)).1
  have x1 : F1 sp_X 0 = some n := (congrFun (f1 sp_X (by decide)).2.2 0).trans hX
  have hL2 : Lv n I2 J2 F2 := Lv.of hw2 hC1 hM2 f2 x1
  refine we_aload_n (p := 1405) dL_law_1404 rfl rfl ?_
  refine lw_arg (c := 1) (v := I sp_X (6 * j + 1)) (p := 1411) dL_law_1405 dL_law_1406 dL_law_1408 dL_law_1409 dL_law_1410 (by decide) hX (by omega) hn rfl rfl ?_
  refine we_callV_int (p := 1414) (k' := 7) (a := [.ref 0, .int (I sp_X (6 * j + 1))]) (rr := []) dL_law_1411 rfl rfl rfl rfl (rc_of rfl rfl (by decide) ⟨rfl, by decide⟩) (Nat.le_of_ble_eq_true rfl) (Nat.le_of_ble_eq_true rfl) (by decide) e1 (Or.inl rfl) rfl ?_
  refine we_aload_n (p := 1415) dL_law_1414 rfl rfl ?_
  refine lw_arg (c := 1) (v := I sp_X (6 * j + 1)) (p := 1421) dL_law_1415 dL_law_1416 dL_law_1418 dL_law_1419 dL_law_1420 (by decide) x1 (by omega) hn (congrFun s1 _) rfl ?_
  refine we_callV_int (p := 1424) (k' := 9) (a := [.ref 95, .int (I sp_X (6 * j + 1))]) (rr := [.int w]) dL_law_1421 rfl rfl rfl rfl (rc_of rfl rfl (by decide) ⟨rfl, by decide⟩) (Nat.le_of_ble_eq_true rfl) (Nat.le_of_ble_eq_true rfl) (by decide) e2 (Or.inl rfl) rfl ?_
  exact we_icmp_eq (t := 1849) (p := 1427) dL_law_1424 (by decide) rfl rfl (fun _ => kk _ _ _ hL2) (fun z => absurd rfl z)
set_option maxRecDepth 10000 in
theorem l_surely {n j : Nat} {z5 z6 : Value} {I : Nat → Nat → Int32} {J : Nat → Nat → Int64} {F : Nat → Nat → Option Nat} {nc ns : Nat} {Q : Option Value → hp_H → Prop} (hv : Lv n I J F) (hj : 6 * j + 6 ≤ n) (hn : n ≤ 3072) (kk : ∀ I' J' F', Lv n I' J' F' → Ew 12 mL_law 1849 (lL j z5 z6) [] ((SH, nc, ns), I', J', F') Q) : Ew 12 mL_law 1429 (lL j z5 z6) [] ((SH, nc, ns), I, J, F) Q := by
  obtain ⟨⟨x, hw, hC, hM⟩, hX⟩ := hv
  have hcv : Cv 7 9 mX11_surely mX12_surely [.int (I sp_X (6 * j + 1))] [.int (I sp_X (6 * j + 1)), .null] := (PQ.cl (fun D s a b => p_surely a b)).v
  obtain ⟨v, y, hw2, hc, hm⟩ := hcv x I J F hw hC hM
  obtain ⟨w, rfl⟩ := (hm I J F nc ns hC.rf hM).int (by decide) (by decide)
  obtain ⟨_, _, e1, rfl, I1, J1, F1, rfl, hC1, f1⟩ := hc nc ns
  obtain ⟨_, _, e2, rfl, I2, J2, F2, rfl, hM2, f2⟩ := hm I1 J1 F1 nc ns hC1.rf (hM.f f1)
  have s1 : I1 sp_X = I sp_X := (f1 sp_X (by decide)).1
  have x1 : F1 sp_X 0 = some n := (congrFun (f1 sp_X (by decide)).2.2 0).trans hX
  have hL2 : Lv n I2 J2 F2 := Lv.of hw2 hC1 hM2 f2 x1
  refine we_aload_n (p := 1430) dL_law_1429 rfl rfl ?_
  refine lw_arg (c := 1) (v := I sp_X (6 * j + 1)) (p := 1436) dL_law_1430 dL_law_1431 dL_law_1433 dL_law_1434 dL_law_1435 (by decide) hX (by omega) hn rfl rfl ?_
  refine we_callV_int (p := 1439) (k' := 7) (a := [.ref 0, .int (I sp_X (6 * j + 1))]) (rr := []) dL_law_1436 rfl rfl rfl rfl (rc_of rfl rfl (by decide) ⟨rfl, by decide⟩) (Nat.le_of_ble_eq_true rfl) (Nat.le_of_ble_eq_true rfl) (by decide) e1 (Or.inl rfl) rfl ?_
  refine we_aload_n (p := 1440) dL_law_1439 rfl rfl ?_
  refine lw_arg (c := 1) (v := I sp_X (6 * j + 1)) (p := 1446) dL_law_1440 dL_law_1441 dL_law_1443 dL_law_1444 dL_law_1445 (by decide) x1 (by omega) hn (congrFun s1 _) rfl ?_
  refine we_callV_int (p := 1449) (k' := 9) (a := [.ref 95, .int (I sp_X (6 * j + 1))]) (rr := [.int w]) dL_law_1446 rfl rfl rfl rfl (rc_of rfl rfl (by decide) ⟨rfl, by decide⟩) (Nat.le_of_ble_eq_true rfl) (Nat.le_of_ble_eq_true rfl) (by decide) e2 (Or.inl rfl) rfl ?_
  exact we_icmp_eq (t := 1849) (p := 1452) dL_law_1449 (by decide) rfl rfl (fun _ => kk _ _ _ hL2) (fun z => absurd rfl z)
set_option maxRecDepth 10000 in
theorem l_firstOf {n j : Nat} {z5 z6 : Value} {I : Nat → Nat → Int32} {J : Nat → Nat → Int64} {F : Nat → Nat → Option Nat} {nc ns : Nat} {Q : Option Value → hp_H → Prop} (hv : Lv n I J F) (hj : 6 * j + 6 ≤ n) (hn : n ≤ 3072) (kk : ∀ I' J' F', Lv n I' J' F' → Ew 12 mL_law 1849 (lL j z5 z6) [] ((SH, nc, ns), I', J', F') Q) : Ew 12 mL_law 1454 (lL j z5 z6) [] ((SH, nc, ns), I, J, F) Q := by
  obtain ⟨⟨x, hw, hC, hM⟩, hX⟩ := hv
  have hcv : Cv 7 9 mX11_firstOf mX12_firstOf [.int (I sp_X (6 * j + 1))] [.int (I sp_X (6 * j + 1))] := (PQ.cl (fun D s a b => p_firstOf a b)).v
  obtain ⟨v, y, hw2, hc, hm⟩ := hcv x I J F hw hC hM
  obtain ⟨w, rfl⟩ := (hm I J F nc ns hC.rf hM).int (by decide) (by decide)
  obtain ⟨_, _, e1, rfl, I1, J1, F1, rfl, hC1, f1⟩ := hc nc ns
  obtain ⟨_, _, e2, rfl, I2, J2, F2, rfl, hM2, f2⟩ := hm I1 J1 F1 nc ns hC1.rf (hM.f f1)
  have s1 : I1 sp_X = I sp_X := (f1 sp_X (by decide)).1
  have x1 : F1 sp_X 0 = some n := (congrFun (f1 sp_X (by decide)).2.2 0).trans hX
  have hL2 : Lv n I2 J2 F2 := Lv.of hw2 hC1 hM2 f2 x1
  refine we_aload_n (p := 1455) dL_law_1454 rfl rfl ?_
  refine lw_arg (c := 1) (v := I sp_X (6 * j + 1)) (p := 1461) dL_law_1455 dL_law_1456 dL_law_1458 dL_law_1459 dL_law_1460 (by decide) hX (by omega) hn rfl rfl ?_
  refine we_callV_int (p := 1464) (k' := 7) (a := [.ref 0, .int (I sp_X (6 * j + 1))]) (rr := []) dL_law_1461 rfl rfl rfl rfl (rc_of rfl rfl (by decide) ⟨rfl, by decide⟩) (Nat.le_of_ble_eq_true rfl) (Nat.le_of_ble_eq_true rfl) (by decide) e1 (Or.inl rfl) rfl ?_
  refine we_aload_n (p := 1465) dL_law_1464 rfl rfl ?_
  refine lw_arg (c := 1) (v := I sp_X (6 * j + 1)) (p := 1471) dL_law_1465 dL_law_1466 dL_law_1468 dL_law_1469 dL_law_1470 (by decide) x1 (by omega) hn (congrFun s1 _) rfl ?_
  refine we_callV_int (p := 1474) (k' := 9) (a := [.ref 95, .int (I sp_X (6 * j + 1))]) (rr := [.int w]) dL_law_1471 rfl rfl rfl rfl (rc_of rfl rfl (by decide) ⟨rfl, by decide⟩) (Nat.le_of_ble_eq_true rfl) (Nat.le_of_ble_eq_true rfl) (by decide) e2 (Or.inl rfl) rfl ?_
  exact we_icmp_eq (t := 1849) (p := 1477) dL_law_1474 (by decide) rfl rfl (fun _ => kk _ _ _ hL2) (fun z => absurd rfl z)
set_option maxRecDepth 10000 in
theorem l_ask {n j : Nat} {z5 z6 : Value} {I : Nat → Nat → Int32} {J : Nat → Nat → Int64} {F : Nat → Nat → Option Nat} {nc ns : Nat} {Q : Option Value → hp_H → Prop} (hv : Lv n I J F) (hj : 6 * j + 6 ≤ n) (hn : n ≤ 3072) (kk : ∀ I' J' F', Lv n I' J' F' → Ew 12 mL_law 1849 (lL j z5 z6) [] ((SH, nc, ns), I', J', F') Q) : Ew 12 mL_law 1479 (lL j z5 z6) [] ((SH, nc, ns), I, J, F) Q := by
  obtain ⟨⟨x, hw, hC, hM⟩, hX⟩ := hv
  have hcv : Cv 7 10 mX11_ask mX12_ask [] [] := (PQ.cl (fun D s a b => p_ask a b)).v
  obtain ⟨v, y, hw2, hc, hm⟩ := hcv x I J F hw hC hM
  obtain ⟨w, rfl⟩ := (hm I J F nc ns hC.rf hM).int (by decide) (by decide)
  obtain ⟨_, _, e1, rfl, I1, J1, F1, rfl, hC1, f1⟩ := hc nc ns
  obtain ⟨_, _, e2, rfl, I2, J2, F2, rfl, hM2, f2⟩ := hm I1 J1 F1 nc ns hC1.rf (hM.f f1)
  have s1 : I1 sp_X = I sp_X := (f1 sp_X (by decide)).1
  have x1 : F1 sp_X 0 = some n := (congrFun (f1 sp_X (by decide)).2.2 0).trans hX
  have hL2 : Lv n I2 J2 F2 := Lv.of hw2 hC1 hM2 f2 x1
  refine we_aload_n (p := 1480) dL_law_1479 rfl rfl ?_
  refine we_callV_int (p := 1483) (k' := 7) (a := [.ref 0]) (rr := []) dL_law_1480 rfl rfl rfl rfl (rc_of rfl rfl (by decide) ⟨rfl, by decide⟩) (Nat.le_of_ble_eq_true rfl) (Nat.le_of_ble_eq_true rfl) (by decide) e1 (Or.inl rfl) rfl ?_
  refine we_aload_n (p := 1484) dL_law_1483 rfl rfl ?_
  refine we_callV_int (p := 1487) (k' := 10) (a := [.ref 95]) (rr := [.int w]) dL_law_1484 rfl rfl rfl rfl (rc_of rfl rfl (by decide) ⟨rfl, by decide⟩) (Nat.le_of_ble_eq_true rfl) (Nat.le_of_ble_eq_true rfl) (by decide) e2 (Or.inl rfl) rfl ?_
  exact we_icmp_eq (t := 1849) (p := 1490) dL_law_1487 (by decide) rfl rfl (fun _ => kk _ _ _ hL2) (fun z => absurd rfl z)
set_option maxRecDepth 10000 in
theorem l_askLeaves {n j : Nat} {z5 z6 : Value} {I : Nat → Nat → Int32} {J : Nat → Nat → Int64} {F : Nat → Nat → Option Nat} {nc ns : Nat} {Q : Option Value → hp_H → Prop} (hv : Lv n I J F) (hj : 6 * j + 6 ≤ n) (hn : n ≤ 3072) (kk : ∀ I' J' F', Lv n I' J' F' → Ew 12 mL_law 1849 (lL j z5 z6) [] ((SH, nc, ns), I', J', F') Q) : Ew 12 mL_law 1492 (lL j z5 z6) [] ((SH, nc, ns), I, J, F) Q := by
  obtain ⟨⟨x, hw, hC, hM⟩, hX⟩ := hv
  have hcv : Cv 7 10 mX11_askLeaves mX12_askLeaves [] [.null] := (PQ.cl (fun D s a b => p_askLeaves a b)).v
  obtain ⟨v, y, hw2, hc, hm⟩ := hcv x I J F hw hC hM
  obtain ⟨w, rfl⟩ := (hm I J F nc ns hC.rf hM).int (by decide) (by decide)
  obtain ⟨_, _, e1, rfl, I1, J1, F1, rfl, hC1, f1⟩ := hc nc ns
  obtain ⟨_, _, e2, rfl, I2, J2, F2, rfl, hM2, f2⟩ := hm I1 J1 F1 nc ns hC1.rf (hM.f f1)
  have s1 : I1 sp_X = I sp_X := (f1 sp_X (by decide)).1
  have x1 : F1 sp_X 0 = some n := (congrFun (f1 sp_X (by decide)).2.2 0).trans hX
  have hL2 : Lv n I2 J2 F2 := Lv.of hw2 hC1 hM2 f2 x1
  refine we_aload_n (p := 1493) dL_law_1492 rfl rfl ?_
  refine we_callV_int (p := 1496) (k' := 7) (a := [.ref 0]) (rr := []) dL_law_1493 rfl rfl rfl rfl (rc_of rfl rfl (by decide) ⟨rfl, by decide⟩) (Nat.le_of_ble_eq_true rfl) (Nat.le_of_ble_eq_true rfl) (by decide) e1 (Or.inl rfl) rfl ?_
  refine we_aload_n (p := 1497) dL_law_1496 rfl rfl ?_
  refine we_callV_int (p := 1500) (k' := 10) (a := [.ref 95]) (rr := [.int w]) dL_law_1497 rfl rfl rfl rfl (rc_of rfl rfl (by decide) ⟨rfl, by decide⟩) (Nat.le_of_ble_eq_true rfl) (Nat.le_of_ble_eq_true rfl) (by decide) e2 (Or.inl rfl) rfl ?_
  exact we_icmp_eq (t := 1849) (p := 1503) dL_law_1500 (by decide) rfl rfl (fun _ => kk _ _ _ hL2) (fun z => absurd rfl z)
set_option maxRecDepth 10000 in
theorem l_judge {n j : Nat} {z5 z6 : Value} {I : Nat → Nat → Int32} {J : Nat → Nat → Int64} {F : Nat → Nat → Option Nat} {nc ns : Nat} {Q : Option Value → hp_H → Prop} (hv : Lv n I J F) (hj : 6 * j + 6 ≤ n) (hn : n ≤ 3072) (kk : ∀ I' J' F', Lv n I' J' F' → Ew 12 mL_law 1849 (lL j z5 z6) [] ((SH, nc, ns), I', J', F') Q) : Ew 12 mL_law 1505 (lL j z5 z6) [] ((SH, nc, ns), I, J, F) Q := by
  obtain ⟨⟨x, hw, hC, hM⟩, hX⟩ := hv
  have hcv : Cv 2 3 mX11_judge mX12_judge [.null] [.null, .null, .null] := (PQ.cl (fun D s a b => p_judge a b)).v
  obtain ⟨v, y, hw2, hc, hm⟩ := hcv x I J F hw hC hM
  obtain ⟨w, rfl⟩ := (hm I J F nc ns hC.rf hM).int (by decide) (by decide)
  obtain ⟨_, _, e1, rfl, I1, J1, F1, rfl, hC1, f1⟩ := hc nc ns
  obtain ⟨_, _, e2, rfl, I2, J2, F2, rfl, hM2, f2⟩ := hm I1 J1 F1 nc ns hC1.rf (hM.f f1)
  have s1 : I1 sp_X = I sp_X := (f1 sp_X (by decide)).1
  have x1 : F1 sp_X 0 = some n := (congrFun (f1 sp_X (by decide)).2.2 0).trans hX
  have hL2 : Lv n I2 J2 F2 := Lv.of hw2 hC1 hM2 f2 x1
  refine we_aload_n (p := 1506) dL_law_1505 rfl rfl ?_
  refine we_callV_int (p := 1509) (k' := 2) (a := [.ref 0]) (rr := []) dL_law_1506 rfl rfl rfl rfl (rc_of rfl rfl (by decide) ⟨rfl, by decide⟩) (Nat.le_of_ble_eq_true rfl) (Nat.le_of_ble_eq_true rfl) (by decide) e1 (Or.inl rfl) rfl ?_
  refine we_aload_n (p := 1510) dL_law_1509 rfl rfl ?_
  refine we_callV_int (p := 1513) (k' := 3) (a := [.ref 95]) (rr := [.int w]) dL_law_1510 rfl rfl rfl rfl (rc_of rfl rfl (by decide) ⟨rfl, by decide⟩) (Nat.le_of_ble_eq_true rfl) (Nat.le_of_ble_eq_true rfl) (by decide) e2 (Or.inl rfl) rfl ?_
  exact we_icmp_eq (t := 1849) (p := 1516) dL_law_1513 (by decide) rfl rfl (fun _ => kk _ _ _ hL2) (fun z => absurd rfl z)
set_option maxRecDepth 10000 in
theorem l_life {n j : Nat} {z5 z6 : Value} {I : Nat → Nat → Int32} {J : Nat → Nat → Int64} {F : Nat → Nat → Option Nat} {nc ns : Nat} {Q : Option Value → hp_H → Prop} (hv : Lv n I J F) (hj : 6 * j + 6 ≤ n) (hn : n ≤ 3072) (kk : ∀ I' J' F', Lv n I' J' F' → Ew 12 mL_law 1849 (lL j z5 z6) [] ((SH, nc, ns), I', J', F') Q) : Ew 12 mL_law 1518 (lL j z5 z6) [] ((SH, nc, ns), I, J, F) Q := by
  obtain ⟨⟨x, hw, hC, hM⟩, hX⟩ := hv
  have hcv : Cv 7 7 mX11_life mX12_life [.int (I sp_X (6 * j + 1)), .int (I sp_X (6 * j + 2))] [.int (I sp_X (6 * j + 1)), .int (I sp_X (6 * j + 2)), .null] := (PQ.cl (fun D s a b => p_life a b)).v
  obtain ⟨v, y, hw2, hc, hm⟩ := hcv x I J F hw hC hM
  obtain ⟨w, rfl⟩ := (hm I J F nc ns hC.rf hM).int (by decide) (by decide)
  obtain ⟨_, _, e1, rfl, I1, J1, F1, rfl, hC1, f1⟩ := hc nc ns
  obtain ⟨_, _, e2, rfl, I2, J2, F2, rfl, hM2, f2⟩ := hm I1 J1 F1 nc ns hC1.rf (hM.f f1)
  have s1 : I1 sp_X = I sp_X := (f1 sp_X (by decide)).1
  have x1 : F1 sp_X 0 = some n := (congrFun (f1 sp_X (by decide)).2.2 0).trans hX
  have hL2 : Lv n I2 J2 F2 := Lv.of hw2 hC1 hM2 f2 x1
  refine we_aload_n (p := 1519) dL_law_1518 rfl rfl ?_
  refine lw_arg (c := 1) (v := I sp_X (6 * j + 1)) (p := 1525) dL_law_1519 dL_law_1520 dL_law_1522 dL_law_1523 dL_law_1524 (by decide) hX (by omega) hn rfl rfl ?_
  refine lw_arg (c := 2) (v := I sp_X (6 * j + 2)) (p := 1531) dL_law_1525 dL_law_1526 dL_law_1528 dL_law_1529 dL_law_1530 (by decide) hX (by omega) hn rfl rfl ?_
  refine we_callV_int (p := 1534) (k' := 7) (a := [.ref 0, .int (I sp_X (6 * j + 1)), .int (I sp_X (6 * j + 2))]) (rr := []) dL_law_1531 rfl rfl rfl rfl (rc_of rfl rfl (by decide) ⟨rfl, by decide⟩) (Nat.le_of_ble_eq_true rfl) (Nat.le_of_ble_eq_true rfl) (by decide) e1 (Or.inl rfl) rfl ?_
  refine we_aload_n (p := 1535) dL_law_1534 rfl rfl ?_
  refine lw_arg (c := 1) (v := I sp_X (6 * j + 1)) (p := 1541) dL_law_1535 dL_law_1536 dL_law_1538 dL_law_1539 dL_law_1540 (by decide) x1 (by omega) hn (congrFun s1 _) rfl ?_
  refine lw_arg (c := 2) (v := I sp_X (6 * j + 2)) (p := 1547) dL_law_1541 dL_law_1542 dL_law_1544 dL_law_1545 dL_law_1546 (by decide) x1 (by omega) hn (congrFun s1 _) rfl ?_
  refine we_callV_int (p := 1550) (k' := 7) (a := [.ref 95, .int (I sp_X (6 * j + 1)), .int (I sp_X (6 * j + 2))]) (rr := [.int w]) dL_law_1547 rfl rfl rfl rfl (rc_of rfl rfl (by decide) ⟨rfl, by decide⟩) (Nat.le_of_ble_eq_true rfl) (Nat.le_of_ble_eq_true rfl) (by decide) e2 (Or.inl rfl) rfl ?_
  exact we_icmp_eq (t := 1849) (p := 1553) dL_law_1550 (by decide) rfl rfl (fun _ => kk _ _ _ hL2) (fun z => absurd rfl z)
set_option maxRecDepth 10000 in
theorem l_lifeBy {n j : Nat} {z5 z6 : Value} {I : Nat → Nat → Int32} {J : Nat → Nat → Int64} {F : Nat → Nat → Option Nat} {nc ns : Nat} {Q : Option Value → hp_H → Prop} (hv : Lv n I J F) (hj : 6 * j + 6 ≤ n) (hn : n ≤ 3072) (kk : ∀ I' J' F', Lv n I' J' F' → Ew 12 mL_law 1849 (lL j z5 z6) [] ((SH, nc, ns), I', J', F') Q) : Ew 12 mL_law 1555 (lL j z5 z6) [] ((SH, nc, ns), I, J, F) Q := by
  obtain ⟨⟨x, hw, hC, hM⟩, hX⟩ := hv
  have hcv : Cv 7 7 mX11_lifeBy mX12_lifeBy [.int (I sp_X (6 * j + 1)), .int (I sp_X (6 * j + 2))] [.int (I sp_X (6 * j + 1)), .int (I sp_X (6 * j + 2)), .null] := (PQ.cl (fun D s a b => p_lifeBy a b)).v
  obtain ⟨v, y, hw2, hc, hm⟩ := hcv x I J F hw hC hM
  obtain ⟨w, rfl⟩ := (hm I J F nc ns hC.rf hM).int (by decide) (by decide)
  obtain ⟨_, _, e1, rfl, I1, J1, F1, rfl, hC1, f1⟩ := hc nc ns
  obtain ⟨_, _, e2, rfl, I2, J2, F2, rfl, hM2, f2⟩ := hm I1 J1 F1 nc ns hC1.rf (hM.f f1)
  have s1 : I1 sp_X = I sp_X := (f1 sp_X (by decide)).1
  have x1 : F1 sp_X 0 = some n := (congrFun (f1 sp_X (by decide)).2.2 0).trans hX
  have hL2 : Lv n I2 J2 F2 := Lv.of hw2 hC1 hM2 f2 x1
  refine we_aload_n (p := 1556) dL_law_1555 rfl rfl ?_
  refine lw_arg (c := 1) (v := I sp_X (6 * j + 1)) (p := 1562) dL_law_1556 dL_law_1557 dL_law_1559 dL_law_1560 dL_law_1561 (by decide) hX (by omega) hn rfl rfl ?_
  refine lw_arg (c := 2) (v := I sp_X (6 * j + 2)) (p := 1568) dL_law_1562 dL_law_1563 dL_law_1565 dL_law_1566 dL_law_1567 (by decide) hX (by omega) hn rfl rfl ?_
  refine we_callV_int (p := 1571) (k' := 7) (a := [.ref 0, .int (I sp_X (6 * j + 1)), .int (I sp_X (6 * j + 2))]) (rr := []) dL_law_1568 rfl rfl rfl rfl (rc_of rfl rfl (by decide) ⟨rfl, by decide⟩) (Nat.le_of_ble_eq_true rfl) (Nat.le_of_ble_eq_true rfl) (by decide) e1 (Or.inl rfl) rfl ?_
  refine we_aload_n (p := 1572) dL_law_1571 rfl rfl ?_
  refine lw_arg (c := 1) (v := I sp_X (6 * j + 1)) (p := 1578) dL_law_1572 dL_law_1573 dL_law_1575 dL_law_1576 dL_law_1577 (by decide) x1 (by omega) hn (congrFun s1 _) rfl ?_
  refine lw_arg (c := 2) (v := I sp_X (6 * j + 2)) (p := 1584) dL_law_1578 dL_law_1579 dL_law_1581 dL_law_1582 dL_law_1583 (by decide) x1 (by omega) hn (congrFun s1 _) rfl ?_
  refine we_callV_int (p := 1587) (k' := 7) (a := [.ref 95, .int (I sp_X (6 * j + 1)), .int (I sp_X (6 * j + 2))]) (rr := [.int w]) dL_law_1584 rfl rfl rfl rfl (rc_of rfl rfl (by decide) ⟨rfl, by decide⟩) (Nat.le_of_ble_eq_true rfl) (Nat.le_of_ble_eq_true rfl) (by decide) e2 (Or.inl rfl) rfl ?_
  exact we_icmp_eq (t := 1849) (p := 1590) dL_law_1587 (by decide) rfl rfl (fun _ => kk _ _ _ hL2) (fun z => absurd rfl z)
set_option maxRecDepth 10000 in
theorem l_lives {n j : Nat} {z5 z6 : Value} {I : Nat → Nat → Int32} {J : Nat → Nat → Int64} {F : Nat → Nat → Option Nat} {nc ns : Nat} {Q : Option Value → hp_H → Prop} (hv : Lv n I J F) (hj : 6 * j + 6 ≤ n) (hn : n ≤ 3072) (kk : ∀ I' J' F', Lv n I' J' F' → Ew 12 mL_law 1849 (lL j z5 z6) [] ((SH, nc, ns), I', J', F') Q) : Ew 12 mL_law 1592 (lL j z5 z6) [] ((SH, nc, ns), I, J, F) Q := by
  obtain ⟨⟨x, hw, hC, hM⟩, hX⟩ := hv
  have hcv : Cv 7 7 mX11_lives mX12_lives [.int (I sp_X (6 * j + 1)), .int (I sp_X (6 * j + 2)), .null, .null, .null] [.int (I sp_X (6 * j + 1)), .int (I sp_X (6 * j + 2)), .null, .null, .null] := (PQ.cl (fun D s a b => p_lives a b)).v
  obtain ⟨v, y, hw2, hc, hm⟩ := hcv x I J F hw hC hM
  obtain ⟨w, rfl⟩ := (hm I J F nc ns hC.rf hM).int (by decide) (by decide)
  obtain ⟨_, _, e1, rfl, I1, J1, F1, rfl, hC1, f1⟩ := hc nc ns
  obtain ⟨_, _, e2, rfl, I2, J2, F2, rfl, hM2, f2⟩ := hm I1 J1 F1 nc ns hC1.rf (hM.f f1)
  have s1 : I1 sp_X = I sp_X := (f1 sp_X (by decide)).1
  have x1 : F1 sp_X 0 = some n := (congrFun (f1 sp_X (by decide)).2.2 0).trans hX
  have hL2 : Lv n I2 J2 F2 := Lv.of hw2 hC1 hM2 f2 x1
  refine we_aload_n (p := 1593) dL_law_1592 rfl rfl ?_
  refine lw_arg (c := 1) (v := I sp_X (6 * j + 1)) (p := 1599) dL_law_1593 dL_law_1594 dL_law_1596 dL_law_1597 dL_law_1598 (by decide) hX (by omega) hn rfl rfl ?_
  refine lw_arg (c := 2) (v := I sp_X (6 * j + 2)) (p := 1605) dL_law_1599 dL_law_1600 dL_law_1602 dL_law_1603 dL_law_1604 (by decide) hX (by omega) hn rfl rfl ?_
  refine we_callV_int (p := 1608) (k' := 7) (a := [.ref 0, .int (I sp_X (6 * j + 1)), .int (I sp_X (6 * j + 2))]) (rr := []) dL_law_1605 rfl rfl rfl rfl (rc_of rfl rfl (by decide) ⟨rfl, by decide⟩) (Nat.le_of_ble_eq_true rfl) (Nat.le_of_ble_eq_true rfl) (by decide) e1 (Or.inl rfl) rfl ?_
  refine we_aload_n (p := 1609) dL_law_1608 rfl rfl ?_
  refine lw_arg (c := 1) (v := I sp_X (6 * j + 1)) (p := 1615) dL_law_1609 dL_law_1610 dL_law_1612 dL_law_1613 dL_law_1614 (by decide) x1 (by omega) hn (congrFun s1 _) rfl ?_
  refine lw_arg (c := 2) (v := I sp_X (6 * j + 2)) (p := 1621) dL_law_1615 dL_law_1616 dL_law_1618 dL_law_1619 dL_law_1620 (by decide) x1 (by omega) hn (congrFun s1 _) rfl ?_
  refine we_callV_int (p := 1624) (k' := 7) (a := [.ref 95, .int (I sp_X (6 * j + 1)), .int (I sp_X (6 * j + 2))]) (rr := [.int w]) dL_law_1621 rfl rfl rfl rfl (rc_of rfl rfl (by decide) ⟨rfl, by decide⟩) (Nat.le_of_ble_eq_true rfl) (Nat.le_of_ble_eq_true rfl) (by decide) e2 (Or.inl rfl) rfl ?_
  exact we_icmp_eq (t := 1849) (p := 1627) dL_law_1624 (by decide) rfl rfl (fun _ => kk _ _ _ hL2) (fun z => absurd rfl z)
set_option maxRecDepth 10000 in
theorem l_sail {n j : Nat} {z5 z6 : Value} {I : Nat → Nat → Int32} {J : Nat → Nat → Int64} {F : Nat → Nat → Option Nat} {nc ns : Nat} {Q : Option Value → hp_H → Prop} (hv : Lv n I J F) (hj : 6 * j + 6 ≤ n) (hn : n ≤ 3072) (kk : ∀ I' J' F', Lv n I' J' F' → Ew 12 mL_law 1849 (lL j z5 z6) [] ((SH, nc, ns), I', J', F') Q) : Ew 12 mL_law 1629 (lL j z5 z6) [] ((SH, nc, ns), I, J, F) Q := by
  obtain ⟨⟨x, hw, hC, hM⟩, hX⟩ := hv
  have hcv : Cv 3 2 mX11_sail mX12_sail [.int (I sp_X (6 * j + 1))] [.int (I sp_X (6 * j + 1))] := k_sail.v
  obtain ⟨v, y, hw2, hc, hm⟩ := hcv x I J F hw hC hM
  obtain ⟨w, rfl⟩ := (hm I J F nc ns hC.rf hM).int (by decide) (by decide)
  obtain ⟨_, _, e1, rfl, I1, J1, F1, rfl, hC1, f1⟩ := hc nc ns
  obtain ⟨_, _, e2, rfl, I2, J2, F2, rfl, hM2, f2⟩ := hm I1 J1 F1 nc ns hC1.rf (hM.f f1)
  have s1 : I1 sp_X = I sp_X := (f1 sp_X (by decide)).1
  have x1 : F1 sp_X 0 = some n := (congrFun (f1 sp_X (by decide)).2.2 0).trans hX
  have hL2 : Lv n I2 J2 F2 := Lv.of hw2 hC1 hM2 f2 x1
  refine we_aload_n (p := 1630) dL_law_1629 rfl rfl ?_
  refine lw_arg (c := 1) (v := I sp_X (6 * j + 1)) (p := 1636) dL_law_1630 dL_law_1631 dL_law_1633 dL_law_1634 dL_law_1635 (by decide) hX (by omega) hn rfl rfl ?_
  refine we_callV_int (p := 1639) (k' := 3) (a := [.ref 0, .int (I sp_X (6 * j + 1))]) (rr := []) dL_law_1636 rfl rfl rfl rfl (rc_of rfl rfl (by decide) ⟨rfl, by decide⟩) (Nat.le_of_ble_eq_true rfl) (Nat.le_of_ble_eq_true rfl) (by decide) e1 (Or.inl rfl) rfl ?_
  refine we_aload_n (p := 1640) dL_law_1639 rfl rfl ?_
  refine lw_arg (c := 1) (v := I sp_X (6 * j + 1)) (p := 1646) dL_law_1640 dL_law_1641 dL_law_1643 dL_law_1644 dL_law_1645 (by decide) x1 (by omega) hn (congrFun s1 _) rfl ?_
  refine we_callV_int (p := 1649) (k' := 2) (a := [.ref 95, .int (I sp_X (6 * j + 1))]) (rr := [.int w]) dL_law_1646 rfl rfl rfl rfl (rc_of rfl rfl (by decide) ⟨rfl, by decide⟩) (Nat.le_of_ble_eq_true rfl) (Nat.le_of_ble_eq_true rfl) (by decide) e2 (Or.inl rfl) rfl ?_
  exact we_icmp_eq (t := 1849) (p := 1652) dL_law_1649 (by decide) rfl rfl (fun _ => kk _ _ _ hL2) (fun z => absurd rfl z)
set_option maxRecDepth 10000 in
theorem l_court {n j : Nat} {z5 z6 : Value} {I : Nat → Nat → Int32} {J : Nat → Nat → Int64} {F : Nat → Nat → Option Nat} {nc ns : Nat} {Q : Option Value → hp_H → Prop} (hv : Lv n I J F) (hj : 6 * j + 6 ≤ n) (hn : n ≤ 3072) (kk : ∀ I' J' F', Lv n I' J' F' → Ew 12 mL_law 1849 (lL j z5 z6) [] ((SH, nc, ns), I', J', F') Q) : Ew 12 mL_law 1654 (lL j z5 z6) [] ((SH, nc, ns), I, J, F) Q := by
  obtain ⟨⟨x, hw, hC, hM⟩, hX⟩ := hv
  have hcv : Cv 5 6 mX11_court mX12_court [.int (I sp_X (6 * j + 1))] [.int (I sp_X (6 * j + 1)), .null] := k_court.v
  obtain ⟨v, y, hw2, hc, hm⟩ := hcv x I J F hw hC hM
  obtain ⟨w, rfl⟩ := (hm I J F nc ns hC.rf hM).int (by decide) (by decide)
  obtain ⟨_, _, e1, rfl, I1, J1, F1, rfl, hC1, f1⟩ := hc nc ns
  obtain ⟨_, _, e2, rfl, I2, J2, F2, rfl, hM2, f2⟩ := hm I1 J1 F1 nc ns hC1.rf (hM.f f1)
  have s1 : I1 sp_X = I sp_X := (f1 sp_X (by decide)).1
  have x1 : F1 sp_X 0 = some n := (congrFun (f1 sp_X (by decide)).2.2 0).trans hX
  have hL2 : Lv n I2 J2 F2 := Lv.of hw2 hC1 hM2 f2 x1
  refine we_aload_n (p := 1655) dL_law_1654 rfl rfl ?_
  refine lw_arg (c := 1) (v := I sp_X (6 * j + 1)) (p := 1661) dL_law_1655 dL_law_1656 dL_law_1658 dL_law_1659 dL_law_1660 (by decide) hX (by omega) hn rfl rfl ?_
  refine we_callV_int (p := 1664) (k' := 5) (a := [.ref 0, .int (I sp_X (6 * j + 1))]) (rr := []) dL_law_1661 rfl rfl rfl rfl (rc_of rfl rfl (by decide) ⟨rfl, by decide⟩) (Nat.le_of_ble_eq_true rfl) (Nat.le_of_ble_eq_true rfl) (by decide) e1 (Or.inl rfl) rfl ?_
  refine we_aload_n (p := 1665) dL_law_1664 rfl rfl ?_
  refine lw_arg (c := 1) (v := I sp_X (6 * j + 1)) (p := 1671) dL_law_1665 dL_law_1666 dL_law_1668 dL_law_1669 dL_law_1670 (by decide) x1 (by omega) hn (congrFun s1 _) rfl ?_
  refine we_callV_int (p := 1674) (k' := 6) (a := [.ref 95, .int (I sp_X (6 * j + 1))]) (rr := [.int w]) dL_law_1671 rfl rfl rfl rfl (rc_of rfl rfl (by decide) ⟨rfl, by decide⟩) (Nat.le_of_ble_eq_true rfl) (Nat.le_of_ble_eq_true rfl) (by decide) e2 (Or.inl rfl) rfl ?_
  exact we_icmp_eq (t := 1849) (p := 1677) dL_law_1674 (by decide) rfl rfl (fun _ => kk _ _ _ hL2) (fun z => absurd rfl z)
set_option maxRecDepth 10000 in
theorem l_seed {n j : Nat} {z5 z6 : Value} {I : Nat → Nat → Int32} {J : Nat → Nat → Int64} {F : Nat → Nat → Option Nat} {nc ns : Nat} {Q : Option Value → hp_H → Prop} (hv : Lv n I J F) (hj : 6 * j + 6 ≤ n) (hn : n ≤ 3072) (kk : ∀ I' J' F', Lv n I' J' F' → Ew 12 mL_law 1849 (lL j z5 z6) [] ((SH, nc, ns), I', J', F') Q) : Ew 12 mL_law 1679 (lL j z5 z6) [] ((SH, nc, ns), I, J, F) Q := by
  obtain ⟨⟨x, hw, hC, hM⟩, hX⟩ := hv
  have hcv : Cv 2 1 mX11_seed mX12_seed [.int (I sp_X (6 * j + 1))] [.int (I sp_X (6 * j + 1))] := k_seed.v
  obtain ⟨v, y, hw2, hc, hm⟩ := hcv x I J F hw hC hM
  obtain ⟨w, rfl⟩ := (hm I J F nc ns hC.rf hM).int (by decide) (by decide)
  obtain ⟨_, _, e1, rfl, I1, J1, F1, rfl, hC1, f1⟩ := hc nc ns
  obtain ⟨_, _, e2, rfl, I2, J2, F2, rfl, hM2, f2⟩ := hm I1 J1 F1 nc ns hC1.rf (hM.f f1)
  have s1 : I1 sp_X = I sp_X := (f1 sp_X (by decide)).1
  have x1 : F1 sp_X 0 = some n := (congrFun (f1 sp_X (by decide)).2.2 0).trans hX
  have hL2 : Lv n I2 J2 F2 := Lv.of hw2 hC1 hM2 f2 x1
  refine we_aload_n (p := 1680) dL_law_1679 rfl rfl ?_
  refine lw_arg (c := 1) (v := I sp_X (6 * j + 1)) (p := 1686) dL_law_1680 dL_law_1681 dL_law_1683 dL_law_1684 dL_law_1685 (by decide) hX (by omega) hn rfl rfl ?_
  refine we_callV_int (p := 1689) (k' := 2) (a := [.ref 0, .int (I sp_X (6 * j + 1))]) (rr := []) dL_law_1686 rfl rfl rfl rfl (rc_of rfl rfl (by decide) ⟨rfl, by decide⟩) (Nat.le_of_ble_eq_true rfl) (Nat.le_of_ble_eq_true rfl) (by decide) e1 (Or.inl rfl) rfl ?_
  refine we_aload_n (p := 1690) dL_law_1689 rfl rfl ?_
  refine lw_arg (c := 1) (v := I sp_X (6 * j + 1)) (p := 1696) dL_law_1690 dL_law_1691 dL_law_1693 dL_law_1694 dL_law_1695 (by decide) x1 (by omega) hn (congrFun s1 _) rfl ?_
  refine we_callV_int (p := 1699) (k' := 1) (a := [.ref 95, .int (I sp_X (6 * j + 1))]) (rr := [.int w]) dL_law_1696 rfl rfl rfl rfl (rc_of rfl rfl (by decide) ⟨rfl, by decide⟩) (Nat.le_of_ble_eq_true rfl) (Nat.le_of_ble_eq_true rfl) (by decide) e2 (Or.inl rfl) rfl ?_
  exact we_icmp_eq (t := 1849) (p := 1702) dL_law_1699 (by decide) rfl rfl (fun _ => kk _ _ _ hL2) (fun z => absurd rfl z)
set_option maxRecDepth 10000 in
theorem l_undo {n j : Nat} {z5 z6 : Value} {I : Nat → Nat → Int32} {J : Nat → Nat → Int64} {F : Nat → Nat → Option Nat} {nc ns : Nat} {Q : Option Value → hp_H → Prop} (hv : Lv n I J F) (hj : 6 * j + 6 ≤ n) (hn : n ≤ 3072) (kk : ∀ I' J' F', Lv n I' J' F' → Ew 12 mL_law 1849 (lL j z5 z6) [] ((SH, nc, ns), I', J', F') Q) : Ew 12 mL_law 1704 (lL j z5 z6) [] ((SH, nc, ns), I, J, F) Q := by
  obtain ⟨⟨x, hw, hC, hM⟩, hX⟩ := hv
  have hcv : Cv 2 2 mX11_undo mX12_undo [] [] := k_undo.v
  obtain ⟨v, y, hw2, hc, hm⟩ := hcv x I J F hw hC hM
  obtain ⟨w, rfl⟩ := (hm I J F nc ns hC.rf hM).int (by decide) (by decide)
  obtain ⟨_, _, e1, rfl, I1, J1, F1, rfl, hC1, f1⟩ := hc nc ns
  obtain ⟨_, _, e2, rfl, I2, J2, F2, rfl, hM2, f2⟩ := hm I1 J1 F1 nc ns hC1.rf (hM.f f1)
  have s1 : I1 sp_X = I sp_X := (f1 sp_X (by decide)).1
  have x1 : F1 sp_X 0 = some n := (congrFun (f1 sp_X (by decide)).2.2 0).trans hX
  have hL2 : Lv n I2 J2 F2 := Lv.of hw2 hC1 hM2 f2 x1
  refine we_aload_n (p := 1705) dL_law_1704 rfl rfl ?_
  refine we_callV_int (p := 1708) (k' := 2) (a := [.ref 0]) (rr := []) dL_law_1705 rfl rfl rfl rfl (rc_of rfl rfl (by decide) ⟨rfl, by decide⟩) (Nat.le_of_ble_eq_true rfl) (Nat.le_of_ble_eq_true rfl) (by decide) e1 (Or.inl rfl) rfl ?_
  refine we_aload_n (p := 1709) dL_law_1708 rfl rfl ?_
  refine we_callV_int (p := 1712) (k' := 2) (a := [.ref 95]) (rr := [.int w]) dL_law_1709 rfl rfl rfl rfl (rc_of rfl rfl (by decide) ⟨rfl, by decide⟩) (Nat.le_of_ble_eq_true rfl) (Nat.le_of_ble_eq_true rfl) (by decide) e2 (Or.inl rfl) rfl ?_
  exact we_icmp_eq (t := 1849) (p := 1715) dL_law_1712 (by decide) rfl rfl (fun _ => kk _ _ _ hL2) (fun z => absurd rfl z)
set_option maxRecDepth 10000 in
theorem l_image {n j : Nat} {z5 z6 : Value} {I : Nat → Nat → Int32} {J : Nat → Nat → Int64} {F : Nat → Nat → Option Nat} {nc ns : Nat} {Q : Option Value → hp_H → Prop} (hv : Lv n I J F) (hj : 6 * j + 6 ≤ n) (hn : n ≤ 3072) (kk : ∀ I' J' F', Lv n I' J' F' → Ew 12 mL_law 1849 (lL j z5 z6) [] ((SH, nc, ns), I', J', F') Q) : Ew 12 mL_law 1717 (lL j z5 z6) [] ((SH, nc, ns), I, J, F) Q := by
  obtain ⟨⟨x, hw, hC, hM⟩, hX⟩ := hv
  have hcv : Cv 2 1 mX11_image mX12_image [] [] := k_image.v
  obtain ⟨v, y, hw2, hc, hm⟩ := hcv x I J F hw hC hM
  obtain ⟨w, rfl⟩ := (hm I J F nc ns hC.rf hM).int (by decide) (by decide)
  obtain ⟨_, _, e1, rfl, I1, J1, F1, rfl, hC1, f1⟩ := hc nc ns
  obtain ⟨_, _, e2, rfl, I2, J2, F2, rfl, hM2, f2⟩ := hm I1 J1 F1 nc ns hC1.rf (hM.f f1)
  have s1 : I1 sp_X = I sp_X := (f1 sp_X (by decide)).1
  have x1 : F1 sp_X 0 = some n := (congrFun (f1 sp_X (by decide)).2.2 0).trans hX
  have hL2 : Lv n I2 J2 F2 := Lv.of hw2 hC1 hM2 f2 x1
  refine we_aload_n (p := 1718) dL_law_1717 rfl rfl ?_
  refine we_callV_int (p := 1721) (k' := 2) (a := [.ref 0]) (rr := []) dL_law_1718 rfl rfl rfl rfl (rc_of rfl rfl (by decide) ⟨rfl, by decide⟩) (Nat.le_of_ble_eq_true rfl) (Nat.le_of_ble_eq_true rfl) (by decide) e1 (Or.inl rfl) rfl ?_
  refine we_aload_n (p := 1722) dL_law_1721 rfl rfl ?_
  refine we_callV_int (p := 1725) (k' := 1) (a := [.ref 95]) (rr := [.int w]) dL_law_1722 rfl rfl rfl rfl (rc_of rfl rfl (by decide) ⟨rfl, by decide⟩) (Nat.le_of_ble_eq_true rfl) (Nat.le_of_ble_eq_true rfl) (by decide) e2 (Or.inl rfl) rfl ?_
  exact we_icmp_eq (t := 1849) (p := 1728) dL_law_1725 (by decide) rfl rfl (fun _ => kk _ _ _ hL2) (fun z => absurd rfl z)
set_option maxRecDepth 10000 in
theorem l_back {n j : Nat} {z5 z6 : Value} {I : Nat → Nat → Int32} {J : Nat → Nat → Int64} {F : Nat → Nat → Option Nat} {nc ns : Nat} {Q : Option Value → hp_H → Prop} (hv : Lv n I J F) (hj : 6 * j + 6 ≤ n) (hn : n ≤ 3072) (kk : ∀ I' J' F', Lv n I' J' F' → Ew 12 mL_law 1849 (lL j z5 z6) [] ((SH, nc, ns), I', J', F') Q) : Ew 12 mL_law 1730 (lL j z5 z6) [] ((SH, nc, ns), I, J, F) Q := by
  obtain ⟨⟨x, hw, hC, hM⟩, hX⟩ := hv
  have hcv : Cv 2 1 mX11_back mX12_back [.int (I sp_X (6 * j + 1))] [.int (I sp_X (6 * j + 1))] := k_back.v
  obtain ⟨v, y, hw2, hc, hm⟩ := hcv x I J F hw hC hM
  obtain ⟨w, rfl⟩ := (hm I J F nc ns hC.rf hM).int (by decide) (by decide)
  obtain ⟨_, _, e1, rfl, I1, J1, F1, rfl, hC1, f1⟩ := hc nc ns
  obtain ⟨_, _, e2, rfl, I2, J2, F2, rfl, hM2, f2⟩ := hm I1 J1 F1 nc ns hC1.rf (hM.f f1)
  have s1 : I1 sp_X = I sp_X := (f1 sp_X (by decide)).1
  have x1 : F1 sp_X 0 = some n := (congrFun (f1 sp_X (by decide)).2.2 0).trans hX
  have hL2 : Lv n I2 J2 F2 := Lv.of hw2 hC1 hM2 f2 x1
  refine we_aload_n (p := 1731) dL_law_1730 rfl rfl ?_
  refine lw_arg (c := 1) (v := I sp_X (6 * j + 1)) (p := 1737) dL_law_1731 dL_law_1732 dL_law_1734 dL_law_1735 dL_law_1736 (by decide) hX (by omega) hn rfl rfl ?_
  refine we_callV_int (p := 1740) (k' := 2) (a := [.ref 0, .int (I sp_X (6 * j + 1))]) (rr := []) dL_law_1737 rfl rfl rfl rfl (rc_of rfl rfl (by decide) ⟨rfl, by decide⟩) (Nat.le_of_ble_eq_true rfl) (Nat.le_of_ble_eq_true rfl) (by decide) e1 (Or.inl rfl) rfl ?_
  refine we_aload_n (p := 1741) dL_law_1740 rfl rfl ?_
  refine lw_arg (c := 1) (v := I sp_X (6 * j + 1)) (p := 1747) dL_law_1741 dL_law_1742 dL_law_1744 dL_law_1745 dL_law_1746 (by decide) x1 (by omega) hn (congrFun s1 _) rfl ?_
  refine we_callV_int (p := 1750) (k' := 1) (a := [.ref 95, .int (I sp_X (6 * j + 1))]) (rr := [.int w]) dL_law_1747 rfl rfl rfl rfl (rc_of rfl rfl (by decide) ⟨rfl, by decide⟩) (Nat.le_of_ble_eq_true rfl) (Nat.le_of_ble_eq_true rfl) (by decide) e2 (Or.inl rfl) rfl ?_
  exact we_icmp_eq (t := 1849) (p := 1753) dL_law_1750 (by decide) rfl rfl (fun _ => kk _ _ _ hL2) (fun z => absurd rfl z)
set_option maxRecDepth 10000 in
theorem l_size {n j : Nat} {z5 z6 : Value} {I : Nat → Nat → Int32} {J : Nat → Nat → Int64} {F : Nat → Nat → Option Nat} {nc ns : Nat} {Q : Option Value → hp_H → Prop} (hv : Lv n I J F) (hj : 6 * j + 6 ≤ n) (hn : n ≤ 3072) (kk : ∀ I' J' F', Lv n I' J' F' → Ew 12 mL_law 1849 (lL j z5 z6) [] ((SH, nc, ns), I', J', F') Q) : Ew 12 mL_law 1811 (lL j z5 z6) [] ((SH, nc, ns), I, J, F) Q := by
  obtain ⟨⟨x, hw, hC, hM⟩, hX⟩ := hv
  have hcv : Cv 1 1 mX11_size mX12_size [.int (I sp_X (6 * j + 1))] [.int (I sp_X (6 * j + 1))] := k_size.v
  obtain ⟨v, y, hw2, hc, hm⟩ := hcv x I J F hw hC hM
  obtain ⟨w, rfl⟩ := (hm I J F nc ns hC.rf hM).int (by decide) (by decide)
  obtain ⟨_, _, e1, rfl, I1, J1, F1, rfl, hC1, f1⟩ := hc nc ns
  obtain ⟨_, _, e2, rfl, I2, J2, F2, rfl, hM2, f2⟩ := hm I1 J1 F1 nc ns hC1.rf (hM.f f1)
  have s1 : I1 sp_X = I sp_X := (f1 sp_X (by decide)).1
  have x1 : F1 sp_X 0 = some n := (congrFun (f1 sp_X (by decide)).2.2 0).trans hX
  have hL2 : Lv n I2 J2 F2 := Lv.of hw2 hC1 hM2 f2 x1
  refine we_aload_n (p := 1812) dL_law_1811 rfl rfl ?_
  refine lw_arg (c := 1) (v := I sp_X (6 * j + 1)) (p := 1818) dL_law_1812 dL_law_1813 dL_law_1815 dL_law_1816 dL_law_1817 (by decide) hX (by omega) hn rfl rfl ?_
  refine we_callV_int (p := 1821) (k' := 1) (a := [.ref 0, .int (I sp_X (6 * j + 1))]) (rr := []) dL_law_1818 rfl rfl rfl rfl (rc_of rfl rfl (by decide) ⟨rfl, by decide⟩) (Nat.le_of_ble_eq_true rfl) (Nat.le_of_ble_eq_true rfl) (by decide) e1 (Or.inl rfl) rfl ?_
  refine we_aload_n (p := 1822) dL_law_1821 rfl rfl ?_
  refine lw_arg (c := 1) (v := I sp_X (6 * j + 1)) (p := 1828) dL_law_1822 dL_law_1823 dL_law_1825 dL_law_1826 dL_law_1827 (by decide) x1 (by omega) hn (congrFun s1 _) rfl ?_
  refine we_callV_int (p := 1831) (k' := 1) (a := [.ref 95, .int (I sp_X (6 * j + 1))]) (rr := [.int w]) dL_law_1828 rfl rfl rfl rfl (rc_of rfl rfl (by decide) ⟨rfl, by decide⟩) (Nat.le_of_ble_eq_true rfl) (Nat.le_of_ble_eq_true rfl) (by decide) e2 (Or.inl rfl) rfl ?_
  exact we_icmp_eq (t := 1849) (p := 1834) dL_law_1831 (by decide) rfl rfl (fun _ => kk _ _ _ hL2) (fun z => absurd rfl z)
set_option maxRecDepth 10000 in
theorem l_trouble {n j : Nat} {z5 z6 : Value} {I : Nat → Nat → Int32} {J : Nat → Nat → Int64} {F : Nat → Nat → Option Nat} {nc ns : Nat} {Q : Option Value → hp_H → Prop} (hv : Lv n I J F) (hj : 6 * j + 6 ≤ n) (hn : n ≤ 3072) (kk : ∀ I' J' F', Lv n I' J' F' → Ew 12 mL_law 1849 (lL j z5 z6) [] ((SH, nc, ns), I', J', F') Q) : Ew 12 mL_law 1836 (lL j z5 z6) [] ((SH, nc, ns), I, J, F) Q := by
  obtain ⟨⟨x, hw, hC, hM⟩, hX⟩ := hv
  have hcv : Cv 0 0 mX11_trouble mX12_trouble [] [] := k_trouble.v
  obtain ⟨v, y, hw2, hc, hm⟩ := hcv x I J F hw hC hM
  obtain ⟨w, rfl⟩ := (hm I J F nc ns hC.rf hM).int (by decide) (by decide)
  obtain ⟨_, _, e1, rfl, I1, J1, F1, rfl, hC1, f1⟩ := hc nc ns
  obtain ⟨_, _, e2, rfl, I2, J2, F2, rfl, hM2, f2⟩ := hm I1 J1 F1 nc ns hC1.rf (hM.f f1)
  have s1 : I1 sp_X = I sp_X := (f1 sp_X (by decide)).1
  have x1 : F1 sp_X 0 = some n := (congrFun (f1 sp_X (by decide)).2.2 0).trans hX
  have hL2 : Lv n I2 J2 F2 := Lv.of hw2 hC1 hM2 f2 x1
  refine we_aload_n (p := 1837) dL_law_1836 rfl rfl ?_
  refine we_callV_int (p := 1840) (k' := 0) (a := [.ref 0]) (rr := []) dL_law_1837 rfl rfl rfl rfl (rc_of rfl rfl (by decide) ⟨rfl, by decide⟩) (Nat.le_of_ble_eq_true rfl) (Nat.le_of_ble_eq_true rfl) (by decide) e1 (Or.inl rfl) rfl ?_
  refine we_aload_n (p := 1841) dL_law_1840 rfl rfl ?_
  refine we_callV_int (p := 1844) (k' := 0) (a := [.ref 95]) (rr := [.int w]) dL_law_1841 rfl rfl rfl rfl (rc_of rfl rfl (by decide) ⟨rfl, by decide⟩) (Nat.le_of_ble_eq_true rfl) (Nat.le_of_ble_eq_true rfl) (by decide) e2 (Or.inl rfl) rfl ?_
  exact we_icmp_eq (t := 1849) (p := 1847) dL_law_1844 (by decide) rfl rfl (fun _ => kk _ _ _ hL2) (fun z => absurd rfl z)
