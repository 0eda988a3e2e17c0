/-! SworeCaptain.led's contract where it throws; the law's own led. -/
abbrev ns_XC (D : va_G) (cA : Nat → ClassId) (L : Nat) (xs : Nat → Int32) (ad : Nat → Nat) (h : hp_H) (sz : Nat) (h1 : hp_H) : String → State → State → Prop := fun E st t => E = ns_X ∧ sm_Qb D cA L xs ad h sz h1 st t
set_option maxHeartbeats 4000000 in
theorem sm_metX {l : Launch} (hl : l.stackTraces = false) {d : Nat} {f : ev_M → Nat → List Value → List Value → hp_H → ev_Re} (hT : sm_T l f d) {a : List Value} {h h1 : hp_H} {L : Nat} {xs : Nat → Int32} (hev : f mX11_led 0 (ev_entry a (mX mX11_led)) [] h = some (some .null, h1)) (ha : (ev_en a).length ≤ mX mX11_led) (ho : hp_ok h) (hsc : sm_sc h L xs) (D : va_G) (cA : Nat → ClassId) (ad : Nat → Nat) (sz : Nat) :
    vx_Met l (mY mX11_led) (wM (mY mX11_led) (mC mX11_led) (mX mX11_led) (mR mX11_led)) (sm_rm d (hp_dc h h1 + 1) (hp_ds h h1 + 6)) (sm_Pc D cA L xs ad h sz a) (fun _ _ _ _ => False) (ns_XC D cA L xs ad h sz h1) (hp_dc h h1 + 1) (hp_ds h h1 + 6) (va_A (sm_w cA ad h) sz) := by
  obtain ⟨m1, m2, m3, m4, m5, m6, m7, m8⟩ := mo_mX11_led
  refine vx_ofW (cc := mC mX11_led) (maxL := mX mX11_led) (ret := mR mX11_led) m3 rfl ?_
  intro p e s m args below meth c s₁ B hml hex hpc
  obtain ⟨rfl, hsz, hP, hK, hD0, hSt⟩ := hpc
  subst hsz
  have hx := B.exec
  have hb := B.bytes
  have hts0 := atoms_spec (ws := wM (mY mX11_led) (mC mX11_led) (mX mX11_led) (mR mX11_led)) B.pre
  have hown : s.vm.findClass (ev_on (mO mX11_led)) = some m.cls := by rw [← m7]; exact findClass_of_methodNamed B.named
  have hlocks := B.notSynchronized
  have hin : meth.name = (mY mX11_led).name := (name_of_methodNamed B.named B.method).1
  have hts : ∀ w ∈ wG, w.before ((a.map (sm_cv ad)).toArray) s = true := fun w hw => hts0 w (List.mem_cons_of_mem _ hw)
  rw [lg_entry_eq]
  have hF : sm_Fx p s m ((a.map (sm_cv ad)).toArray) meth c mX11_led D cA (va_A (sm_w cA ad h) s.heap.size) := ⟨hx, hb, hml, hown, hts, hin, hK, fun q hq => Or.inr hq⟩
  have hH : sm_Hx s D cA (va_A (sm_w cA ad h) s.heap.size) L xs ad h s.heap [] := ⟨hP, hD0.self, va_S.rf, ho, hsc, hSt⟩
  refine hT mX11_led 0 _ [] h (some .null) h1 hev p e _ s m _ below meth c s.heap [] 0 0 _ D cA _ L xs ad _ hF (sm_L_entry ha) hH (Nat.le_refl _) (Nat.le_refl _) (by rw [Nat.zero_add]; exact Nat.le_succ _) (by rw [Nat.zero_add]; exact Nat.le_add_right _ _) (fun ad' als' H' locs' pc' st' e1 e2 e2b e3 => ?_)
  rw [Nat.zero_add, Nat.zero_add]
  obtain ⟨p1, p2, p3, p4, p5, p6⟩ := e2
  obtain ⟨q1, rfl, -⟩ := e3
  have hpc24 : pc' = 24 := led24 q1
  subst hpc24
  have hw : sm_Wd ad s := hSt.2.2.2.2.2.2
  obtain ⟨tx, htx⟩ := hw.1 10 381 1 (by decide)
  refine ns_throw (tx := tx) hx hb hl hown (hts _ (wG5 167 rfl rfl)) (hts _ (wG1 23 rfl rfl)) htx (fun w hw2 => ?_) p6.2.2.2.2.2.1.1 p6.2.2.2.2.2.1.2 p3 (e2b.trans hml.symm) hex ?_ ?_ (Nat.le_refl _) (Nat.le_refl _) hlocks (fun t k1 k2 k3 => ?_) (fun z hz => p3.2.2 z hz) (Nat.le_refl _) (Nat.le_refl _)
  · rcases ns_allin w hw2 with z | ⟨z1, z2⟩
    · exact hts w z
    · exact va_tabs (List.all_eq_true.mp ns_ot w hw2) rfl (hw.2.1 w z1 z2)
  · show 5 < d + 10
    omega
  · show 100 ≤ 40 * d + 200
    omega
  · refine ⟨rfl, ⟨ad', e1, p1.kept (fun k q hk => k3 q.1 (vx_lt p1 hk)), p2⟩, ⟨p4, p5⟩, Nat.le_trans p3.1 k2, fun q h1 h2 => ?_⟩
    rw [k3 q (Nat.lt_of_lt_of_le h1 p3.1)]
    exact p3.2.1 q h1 h2
section
variable {p : Program} {l : Launch} {e : Env} {R : Room} {s : State} {m : MethodId} {args : Array Value} {below : List Frame} {meth : Method} {c : Code} {H : Heap} {locs : List Loc} {cells slots : Nat} {Q : State → Prop}
/-- a call that always throws -/
theorem sm_callX {mc ms pc : Nat} {als : Array Slot} {st0 rest : List Value} {XC : String → State → State → Prop} {free : Addr → Prop} (hr : vx_Run p l e R s m args below meth c H locs cells slots mc ms (F0 m pc als st0) rest (fun _ _ _ => False) XC free)
    (kx : ∀ (q : Addr) (st1 t : State) (L : List Loc) (E : String) (ce : Cell), st1.heap = H → s.vm.Alike t.vm → XC E st1 t → t.heap[q]? = some ce → ce.vm = .none → s.vm.findClass E = some ce.cls → (∀ z ∈ L, free z.base) → vx_W p l e R s m args below meth c t.heap (locs ++ L) (cells + mc) (slots + ms) Q (F0 m pc als rest) q) : W p l e R s m args below meth c H locs cells slots Q (F0 m pc als st0) := by
  intro T hT X
  rcases hr T hT X with ⟨v, st1, t, T', L, h0, X', hL, e1, e2, hq, st⟩ | ⟨q, st1, t, T', L, E, ce, h0, X', hL, e1, e2, hq, hce, hcv, hcl, st⟩
  · exact hq.elim
  · obtain ⟨t2, a1, b1⟩ := kx q st1 t L E ce h0 (by rw [← e2]; exact X'.warmed.alike) hq hce hcv hcl hL T' e1 X'
    exact ⟨t2, st.trans a1, b1⟩
variable {M : ev_M} {ad : Nat → Nat} {als : Array Slot} {pc : Nat} {h : hp_H} {D : va_G} {cA : Nat → ClassId} {A : Nat → Prop} {L : Nat} {xs : Nat → Int32}
/-- a step of the interpreter that makes nothing -/
theorem sm_stp0 {i : Instr} {len pc1 : Nat} {ls st ls1 st1 : List Value} {h1 : hp_H} (hF : sm_Fx p s m args meth c M D cA A) (hL : sm_L als (mX M) ad ls) (hH : sm_Hx s D cA A L xs ad h H locs)
    (hfr : 2 ≤ R.frames) (hlo : 100 ≤ R.locals) (hrc : cells ≤ R.cells) (hrs : slots ≤ R.slots) (hd : decode (mC M) pc = .ok (i, len)) (hl : ev_lok i len = true) (he : ev_stp M i pc ls st h = some (pc1, ls1, st1, h1)) (h11 : h1.1 = h.1)
    (k : ∀ (als' : Array Slot) (H' : Heap) (locs' : List Loc), sm_L als' (mX M) ad ls1 → sm_Hx s D cA A L xs ad h1 H' locs' → W p l e R s m args below meth c H' locs' cells slots Q (F0 m pc1 als' (st1.map (sm_cv ad)))) :
    W p l e R s m args below meth c H locs cells slots Q (F0 m pc als (st.map (sm_cv ad))) := by
  have z1 : hp_dc h h1 = 0 := by simp only [hp_dc]; rw [h11]; exact Nat.sub_self _
  have z2 : hp_ds h h1 = 0 := by simp only [hp_ds]; rw [h11]; exact Nat.sub_self _
  refine sm_stpK hF hL hH hfr hlo (by rw [z1]; exact hrc) (by rw [z2]; exact hrs) hd hl he (fun ad' als' H' locs' e1 e2 e3 => ?_)
  have e4 : ad' = ad := e1.2 (by rw [h11])
  subst e4
  rw [z1, z2]
  exact k als' H' locs' e2 e3
theorem sm_runSW {y : MethodName} {bytes cc : ByteArray} {maxL nL mc ms n index : Nat} {ret : Option FieldType} {hh : List (Nat × Nat × Nat × Nat)} {ws : List Cond} {rm : Room} {Pc : Array Value → State → Prop} {Qc : Array Value → State → Outcome → State → Prop} {free : Addr → Prop} {Ts : List Cond} {own : String} {As rest : List Value} {g : JFrame}
    (hlo : 9 + (maxL + 11) + rm.locals ≤ R.locals) (S : CallFix p m c cc nL s args Ts own) (hM : Met l y ws rm Pc Qc mc ms free) (cw : vx_CSW R s args own index y bytes maxL ret hh ws rm mc ms n) (hp : PreS s H Pc As)
    (hg : g.method = m) (hn : As.length = n) (hsize : g.locals.size = nL) (hstack : g.stack = As.reverse ++ rest) (hW : 2 * g.monitorRoom + (rest.map fun v => v.category).sum ≤ 9) (hdg : decode cc g.pc = .ok (.invokestatic index, 3)) (hf : cells + mc ≤ R.cells ∧ slots + ms ≤ R.slots) :
    va_Run p l e R s m args below meth c H locs cells slots mc ms g rest (Qc As.toArray) free := by
  obtain ⟨⟨a1, a2, a3, -, a5, a6⟩, a7, a8, a9, a10, a11, b1⟩ := cw
  have hK : Back l R p e below s args y 3 9 (PreOf R mc ms Pc) (PostOf Qc mc ms free) := va_backW (hh := hh) (bytes := bytes) (maxL := maxL) (ret := ret) hM hp.1 a1 a2 a3 hlo a5 a6 (fun a' U hW => word_at hW (Or.inl (by first | rfl | simp [Cond.onTables, Cond.keeps, Cond.steady])) a8)
  obtain ⟨s1, s2, s3, s4, -⟩ := S
  intro T hT X
  obtain ⟨v, vm1, ⟨U', l2, k2, n2⟩, w1, X', ⟨g', mk, t, L, e1, e2, hq, h1, hL, h2, h3⟩, st⟩ := vx_callSW X s1 (hh := hh) (bytes := bytes) (maxL := maxL) (ret := ret) s4 a11 b1 a8 a7 a9 hK hg (hsize.trans s3.symm) (argsL := As) (rest := rest) (fun sig h => hn.trans (a10 sig h)) hstack hW (by rw [s2]; exact hdg) (fun vm1 w1 => ⟨hf.1, hf.2, hp.2 (T.setVm vm1) hT w1⟩)
  dsimp only [Pt.U, Pt.locs, Pt.cells, Pt.slots] at X' e1 e2 h1 h2 h3 st
  subst h1; subst h2; subst h3
  exact ⟨v, (T.setVm vm1).calling g' mk As.toArray, t, U', L, hT, X', hL, e1, e2, hq, st⟩
end
