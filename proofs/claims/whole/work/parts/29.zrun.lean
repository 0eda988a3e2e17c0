/-! Calls with up to nine words left on the stack: the kit's run rows say eight. -/
section
variable {p : Program} {l : Launch} {e : Env} {R : Room} {s : State} {m : MethodId} {args : Array Value} {below : List Frame} {meth : Method} {c : Code} {H : Heap} {locs : List Loc} {cells slots : Nat}
variable {y : MethodName} {bytes cc : ByteArray} {maxL nL mc ms n index : Nat} {ret : Option FieldType} {ws : List Cond} {rm : Room} {Pc : Array Value → State → Prop} {Qc : Array Value → State → Outcome → State → Prop} {free : Addr → Prop} {Ts : List Cond} {own C : String} {b : Addr} {As rest : List Value} {g : JFrame}
theorem sm_room9 {pc : Nat} {ls : Array Slot} {st : List Value} (h : (st.map fun v => v.category).sum ≤ 9) : 2 * (F0 m pc ls rest).monitorRoom + (st.map fun v => v.category).sum ≤ 9 := by
  show 2 * 0 + _ ≤ 9
  omega
theorem sm_back9 (hM : Met l y ws rm Pc Qc mc ms free) (hp : FrameBlind Pc) (hrc : rm.cells = mc) (hrs : rm.slots = ms) (hfr : rm.frames + 1 ≤ R.frames) (hlo : 9 + (maxL + 11) + rm.locals ≤ R.locals) (hws : ∀ w ∈ ws, ∀ (a' : Array Value) (U : State), s.WarmedH U.vm → w.before a' U = true) (hcw : Cond.code y bytes maxL ret ∈ ws) (hini : (Cond.initialized y.cls).before args s = true) :
    Back l R p e below s args y 3 9 (PreOf R mc ms Pc) (PostOf Qc mc ms free) :=
  back_of (bytes := bytes) (maxL := maxL) (ret := ret) hM hp hrc hrs hfr hlo hws hcw (fun a' U hW => word_at hW (Or.inl (by first | rfl | simp [Cond.onTables, Cond.keeps, Cond.steady])) hini)
theorem sm_runV (hlo : 9 + (maxL + 11) + rm.locals ≤ R.locals) (S : CallFix p m c cc nL s args Ts own) (hM : Met l y ws rm Pc Qc mc ms free) (cw : CallW R s args own C index y bytes maxL ret ws rm mc ms n) (hp : PreV s H C b Pc As)
    (hg : g.method = m) (hn : As.length = n) (hsize : g.locals.size = nL) (hstack : g.stack = As.reverse ++ .ref b :: rest) (hW : 2 * g.monitorRoom + (rest.map fun v => v.category).sum ≤ 9) (hdg : decode cc g.pc = .ok (.invokevirtual index, 3)) (hf : cells + mc ≤ R.cells ∧ slots + ms ≤ R.slots) :
    va_Run p l e R s m args below meth c H locs cells slots mc ms g rest (Qc (Value.ref b :: As).toArray) free := by
  obtain ⟨⟨a1, a2, a3, -, a5, a6, a7, a8, a9, a10, a11⟩, b1, b2⟩ := cw
  have hK := sm_back9 (p := p) (e := e) (below := below) hM hp.1 a1 a2 a3 hlo a5 a6 a8
  obtain ⟨s1, s2, s3, s4, -⟩ := S
  obtain ⟨-, ⟨cB, c1, c2, c3⟩, c4⟩ := hp
  intro T hT X
  obtain ⟨v, vm1, ⟨U', l2, k2, n2⟩, w1, X', ⟨g', mk, t, L, e1, e2, hq, h1, hL, h2, h3⟩, st⟩ := callV X s1 (C := C) (bytes := bytes) (maxL := maxL) (ret := ret) s4 a11 b1 b2 a7 a9 hK (by rw [hT]; exact c1) c2 c3 hg (hsize.trans s3.symm) (argsL := As) (rest := rest) (fun sig h => hn.trans (a10 sig h)) hstack hW (by rw [s2]; exact hdg) (fun vm1 w1 => ⟨hf.1, hf.2, c4 (T.setVm vm1) hT w1⟩)
  dsimp only [Pt.U, Pt.locs, Pt.cells, Pt.slots] at X' e1 e2 h1 h2 h3 st
  subst h1; subst h2; subst h3
  exact ⟨v, (T.setVm vm1).calling g' mk (Value.ref b :: As).toArray, t, U', L, hT, X', hL, e1, e2, hq, st⟩
theorem sm_runS (hlo : 9 + (maxL + 11) + rm.locals ≤ R.locals) (S : CallFix p m c cc nL s args Ts own) (hM : Met l y ws rm Pc Qc mc ms free) (cw : CallB R s args own index y bytes maxL ret ws rm mc ms n ∧ (Cond.static y).before args s = true) (hp : PreS s H Pc As)
    (hg : g.method = m) (hn : As.length = n) (hsize : g.locals.size = nL) (hstack : g.stack = As.reverse ++ rest) (hW : 2 * g.monitorRoom + (rest.map fun v => v.category).sum ≤ 9) (hdg : decode cc g.pc = .ok (.invokestatic index, 3)) (hf : cells + mc ≤ R.cells ∧ slots + ms ≤ R.slots) :
    va_Run p l e R s m args below meth c H locs cells slots mc ms g rest (Qc As.toArray) free := by
  obtain ⟨⟨a1, a2, a3, -, a5, a6, a7, a8, a9, a10, a11⟩, b1⟩ := cw
  have hK := sm_back9 (p := p) (e := e) (below := below) hM hp.1 a1 a2 a3 hlo a5 a6 a8
  obtain ⟨s1, s2, s3, s4, -⟩ := S
  intro T hT X
  obtain ⟨v, vm1, ⟨U', l2, k2, n2⟩, w1, X', ⟨g', mk, t, L, e1, e2, hq, h1, hL, h2, h3⟩, st⟩ := callS X s1 (bytes := bytes) (maxL := maxL) (ret := ret) s4 a11 b1 a8 a7 a9 hK hg (hsize.trans s3.symm) (argsL := As) (rest := rest) (fun sig h => hn.trans (a10 sig h)) hstack hW (by rw [s2]; exact hdg) (fun vm1 w1 => ⟨hf.1, hf.2, hp.2 (T.setVm vm1) hT w1⟩)
  dsimp only [Pt.U, Pt.locs, Pt.cells, Pt.slots] at X' e1 e2 h1 h2 h3 st
  subst h1; subst h2; subst h3
  exact ⟨v, (T.setVm vm1).calling g' mk As.toArray, t, U', L, hT, X', hL, e1, e2, hq, st⟩
theorem sm_runI (hlo : 9 + (maxL + 11) + rm.locals ≤ R.locals) (S : CallFix p m c cc nL s args Ts own) (hM : Met l y ws rm Pc Qc mc ms free) (cw : CallB R s args own index y bytes maxL none ws rm mc ms n ∧ y.name = "<init>" ∧ (Cond.instanceMethod y).before args s = true) (hp : PreS s H Pc (.ref b :: As))
    (hg : g.method = m) (hn : As.length = n) (hsize : g.locals.size = nL) (hstack : g.stack = As.reverse ++ .ref b :: rest) (hW : 2 * g.monitorRoom + (rest.map fun v => v.category).sum ≤ 9) (hdg : decode cc g.pc = .ok (.invokespecial index, 3)) (hf : cells + mc ≤ R.cells ∧ slots + ms ≤ R.slots) :
    va_Run p l e R s m args below meth c H locs cells slots mc ms g rest (Qc (Value.ref b :: As).toArray) free := by
  obtain ⟨⟨a1, a2, a3, -, a5, a6, a7, a8, a9, a10, a11⟩, b1, b2⟩ := cw
  have hK := sm_back9 (p := p) (e := e) (below := below) hM hp.1 a1 a2 a3 hlo a5 a6 a8
  obtain ⟨s1, s2, s3, s4, -⟩ := S
  intro T hT X
  obtain ⟨v, vm1, ⟨U', l2, k2, n2⟩, w1, X', ⟨g', mk, t, L, e1, e2, hq, h1, hL, h2, h3⟩, st⟩ := callI X s1 (bytes := bytes) (maxL := maxL) s4 b1 a11 b2 a7 a9 hK hg (hsize.trans s3.symm) (a := b) (argsL := As) (rest := rest) (fun sig h => hn.trans (a10 sig h)) hstack hW (by rw [s2]; exact hdg) (fun vm1 w1 => ⟨hf.1, hf.2, hp.2 (T.setVm vm1) hT w1⟩)
  dsimp only [Pt.U, Pt.locs, Pt.cells, Pt.slots] at X' e1 e2 h1 h2 h3 st
  subst h1; subst h2; subst h3
  exact ⟨v, (T.setVm vm1).calling g' mk (Value.ref b :: As).toArray, t, U', L, hT, X', hL, e1, e2, hq, st⟩
theorem sm_runIN {host : String} (hlo : 9 + (maxL + 11) + rm.locals ≤ R.locals) (S : CallFix p m c cc nL s args Ts own) (hM : Met l y ws rm Pc Qc mc ms free) (cw : va_CN R s args own index y host bytes maxL none ws rm mc ms n ∧ y.name = "<init>" ∧ (Cond.instanceMethod y).before args s = true) (hp : PreS s H Pc (.ref b :: As))
    (hg : g.method = m) (hn : As.length = n) (hsize : g.locals.size = nL) (hstack : g.stack = As.reverse ++ .ref b :: rest) (hW : 2 * g.monitorRoom + (rest.map fun v => v.category).sum ≤ 9) (hdg : decode cc g.pc = .ok (.invokespecial index, 3)) (hf : cells + mc ≤ R.cells ∧ slots + ms ≤ R.slots) :
    va_Run p l e R s m args below meth c H locs cells slots mc ms g rest (Qc (Value.ref b :: As).toArray) free := by
  obtain ⟨⟨⟨a1, a2, a3, -, a5, a6⟩, a7, a8, a9, a10, a11⟩, b1, b2⟩ := cw
  have hK := sm_back9 (p := p) (e := e) (below := below) hM hp.1 a1 a2 a3 hlo a5 a6 a8
  obtain ⟨s1, s2, s3, s4, -⟩ := S
  intro T hT X
  obtain ⟨v, vm1, ⟨U', l2, k2, n2⟩, w1, X', ⟨g', mk, t, L, e1, e2, hq, h1, hL, h2, h3⟩, st⟩ := va_callIN X s1 (bytes := bytes) (maxL := maxL) s4 b1 a11 b2 a7 a9 hK hg (hsize.trans s3.symm) (a := b) (argsL := As) (rest := rest) (fun sig h => hn.trans (a10 sig h)) hstack hW (by rw [s2]; exact hdg) (fun vm1 w1 => ⟨hf.1, hf.2, hp.2 (T.setVm vm1) hT w1⟩)
  dsimp only [Pt.U, Pt.locs, Pt.cells, Pt.slots] at X' e1 e2 h1 h2 h3 st
  subst h1; subst h2; subst h3
  exact ⟨v, (T.setVm vm1).calling g' mk (Value.ref b :: As).toArray, t, U', L, hT, X', hL, e1, e2, hq, st⟩
end
