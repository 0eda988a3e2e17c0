/-! SworeCaptain.led throws: new NoSuchElementException(text), its constructors (the library's chain wants index 7 of each; this class has 13), athrow. -/
theorem rd_err {α β : Type} (x : Reader DecodeError α) (f : α → Reader DecodeError β) {b : ByteArray} {q : Nat} {z : DecodeError} (h : x.runAt b q = .error z) : (x >>= f).runAt b q = .error z := by
  show Except.bind (x b q) _ = _
  rw [show x b q = .error z from h]
  rfl
theorem dec_out {b : ByteArray} {q : Nat} (h : ¬ q < b.size) (x : Instr × Nat) : decode b q ≠ .ok x := by
  have h1 : (Reader.u1 : Reader DecodeError Nat).runAt b q = .error (HasTruncated.truncated q) := by
    have h0 : (Reader.u1 : Reader DecodeError Nat) b q = (if h : q < b.size then (do set (q + 1); pure b[q].toNat : Reader DecodeError Nat) else throw (HasTruncated.truncated q)) b q := rfl
    show (Reader.u1 : Reader DecodeError Nat) b q = _
    rw [h0, dif_neg h]
    rfl
  have h2 : (Decoder.instr q).runAt b q = .error (HasTruncated.truncated q) := by
    unfold Decoder.instr
    exact rd_err _ _ h1
  intro e
  unfold decode at e
  rw [h2] at e
  cases e
theorem led24 {q : Nat} (h : decode cX11_led q = .ok (.new 379, 3)) : q = 24 := by
  have hs : cX11_led.size = 37 := by decide +kernel
  by_cases hq : q < 37
  · have h2 : ∀ z : Fin 37, (match decode cX11_led z.val with | .ok (.new 379, 3) => decide (z.val = 24) | _ => true) = true := by decide +kernel
    have h3 := h2 ⟨q, hq⟩
    simp only [h] at h3
    exact of_decide_eq_true h3
  · exact absurd h (dec_out (by rw [hs]; exact hq) _)
abbrev ns_X : String := "java/util/NoSuchElementException"
abbrev ns_R : String := "java/lang/RuntimeException"
def ns_p : List Cond := Bundle.passSAtoms ns_X ns_R 13 prog_28_method_4_code
def ns_q : List Cond := Bundle.chainSAtoms ns_R ["java/lang/Exception"]
def ns_tl : List Cond := [.methodLink RX11 383 (Bundle.initS ns_X), .instantiable ns_X 6, .castable ns_X ns_X, .selects ns_X Bundle.tFill0 Bundle.tFill0, .selects ns_X Bundle.tFill Bundle.tFill, .lays ns_X Bundle.tN "cause" "Ljava/lang/Throwable;", .lays ns_X Bundle.tN "stackTrace" Bundle.steD, .lays ns_X Bundle.tN "suppressedExceptions" Bundle.listD, .lays ns_X Bundle.tN "detailMessage" "Ljava/lang/String;", .fieldLink Bundle.tN 198 Bundle.tN "backtrace" "Ljava/lang/Object;", .lays Bundle.tN Bundle.tN "backtrace" "Ljava/lang/Object;", .lays ns_X Bundle.tN "backtrace" "Ljava/lang/Object;"]

section
variable {p : Program} {l : Launch} {e : Env} {R : Room} {s : State} {m : MethodId} {args : Array Value} {below : List Frame} {meth : Method} {c : Code} {cells slots : Nat}
set_option maxHeartbeats 4000000 in
theorem ns_ctor {V : State} (X : Stand p l e R s m args below meth c V [] cells slots) (hexec : p.tables.exec = Jvm.exec) (htr : e.platform.stackTraces = false) (hown : s.vm.findClass RX11 = some m.cls)
    (w1 : ∀ w ∈ Bundle.throwableAtoms, w.before args s = true) (w2 : ∀ w ∈ Bundle.throwableSAtoms, w.before args s = true) (w3 : ∀ w ∈ ns_p, w.before args s = true) (w4 : ∀ w ∈ ns_q, w.before args s = true) (w5 : ∀ w ∈ ns_tl, w.before args s = true)
    (hU : (Cond.isRef (.static Bundle.tN "UNASSIGNED_STACK" Bundle.steD)).before args s = true) (hN : (Cond.isRef (.static Bundle.tN "SUPPRESSED_SENTINEL" Bundle.listD)).before args s = true)
    {a : Addr} {cX : ClassId} {kX : Class} (hfX : s.vm.findClass ns_X = some cX) (hkX : s.vm.classes[cX]? = some kX) (hcell : V.heap[a]? = some (freshCell cX kX)) (hnew : s.heap.size ≤ a) {msg : Value} (hmsg : msg.isRef = true)
    {g : JFrame} (hg : g.method = m) (hsize : g.locals.size = c.maxLocals) (hlocked : g.locked = none) (hentered : g.entered = []) (hstack : g.stack = [msg, .ref a, .ref a])
    (hd6 : decode c.code g.pc = .ok (.invokespecial 383, 3)) (hd9 : decode c.code (g.pc + 3) = .ok (.athrow, 1)) (hout : ∀ x ∈ c.exceptionTable.toList, covers x (g.pc + 3) = false)
    (hRf : 5 < R.frames) (hRl : 2 * g.monitorRoom + 100 ≤ R.locals) (hlocks : meth.locks = false) :
    ∃ U : State, Steps p.tables e below (V.setTop g) U ∧ U.status = .running ∧ Ended U below (.threw a) ∧ s.WarmedH U.vm ∧ s.sameButNew ({ U with vm := s.vm } : State) [] cells slots ∧ ∃ ce, U.heap[a]? = some ce ∧ ce.vm = .none ∧ s.vm.findClass ns_X = some ce.cls := by
  have howns : e.platform.frameOwnsMonitors = true := by rw [X.admits.platform]
  have hfin : e.platform.finalization = false := by rw [X.admits.platform]
  have hpl : e.platform.magicAccessors = ({} : Platform).magicAccessors := by rw [X.admits.platform]
  have a5 : ∀ x, x ∈ ns_tl → x.holds args s none s [] = true := fun x hx => w5 x hx
  obtain ⟨T, Z0, L, -, Y⟩ := ThrowableC.of_atoms (args := args) howns hfin hpl w1
  obtain ⟨Z, M, LZ, LM, hnZ⟩ := Init0T.ofS_atoms (args := args) hpl L Y w2
  obtain ⟨P2, Ps, hlen, L2, hL, hP2m, hlink2, hlink⟩ := Bundle.chainS (args := args) hpl hnZ ["java/lang/Exception"] ns_R (by decide) (by decide) w4
  obtain ⟨P1, L1, hP1m, hs1⟩ := PassC.ofS_atoms (args := args) (s := s) hpl (X := ns_X) (Y := ns_R) (index := 13) (bytes := prog_28_method_4_code) (by decide) (by decide) (by decide +kernel) (by decide +kernel) (by decide +kernel) (by decide +kernel) w3
  have hlink1 : P1.sup = P2.m := Option.some.inj (hs1.symm.trans hP2m)
  have hfound : s.vm.findClass ns_X = some P1.m.cls := findClass_of_methodNamed hP1m
  cases Option.some.inj (hfX.symm.trans hfound)
  obtain ⟨c1, kX', hc1, hk, hord, -, -, hn6⟩ := Cond.instantiable_spec (a5 (.instantiable ns_X 6) (by simp [ns_tl]))
  cases Option.some.inj (hc1.symm.trans hfound)
  cases Option.some.inj (hkX.symm.trans hk)
  have hsel0 : selectMethod e.platform s.vm P1.m.cls T.fill0 = .method T.fill0 := by
    obtain ⟨c2, r2, m2, q1, q2, q3, q4, -⟩ := Cond.selects_spec (a5 (.selects ns_X Bundle.tFill0 Bundle.tFill0) (by simp [ns_tl]))
    cases Option.some.inj (q1.symm.trans hfound)
    cases Option.some.inj (q2.symm.trans (State.methodFound?_of_named Y.fill0 (by decide)))
    cases Option.some.inj (q3.symm.trans Y.fill0)
    rw [Launch.admits_selectMethod X.admits]; exact q4
  have hselF : selectMethod e.platform s.vm P1.m.cls T.fill = .method T.fill := by
    obtain ⟨c2, r2, m2, q1, q2, q3, q4, -⟩ := Cond.selects_spec (a5 (.selects ns_X Bundle.tFill Bundle.tFill) (by simp [ns_tl]))
    cases Option.some.inj (q1.symm.trans hfound)
    cases Option.some.inj (q2.symm.trans (State.methodFound?_of_named Y.fill (by decide)))
    cases Option.some.inj (q3.symm.trans Y.fill)
    rw [Launch.admits_selectMethod X.admits]; exact q4
  obtain ⟨cS0, hcS0, hiss⟩ := Y.statics
  obtain ⟨u0, hu0⟩ := Cond.staticRefV Y.unassigned L.unassignedStatic L.statics hcS0 hiss hU
  obtain ⟨sen, hsen⟩ := Cond.staticRefV Y.sentinel L.sentinelStatic L.statics hcS0 hiss hN
  obtain ⟨ci, i9, fB, hk9, hg9, ha9, hsB, -, hnB, htB, hffB⟩ := Cond.ownField (t := .object "java/lang/Object") Y.found L.cls (by decide +kernel) (a5 (.fieldLink Bundle.tN 198 Bundle.tN "backtrace" "Ljava/lang/Object;") (by simp [ns_tl])) (a5 (.lays Bundle.tN Bundle.tN "backtrace" "Ljava/lang/Object;") (by simp [ns_tl])) e.platform hpl
  obtain ⟨cS, hcS', heS, -, hkeep⟩ := X.same.2.2.2.2.2 T.aS cS0 hcS0
  have hcS : V.heap[T.aS]? = some cS := hcS'
  have hknownS : cS.vm ≠ .unknown := by
    rw [heS]; intro hu
    rw [show cS0.vm = .unknown from hu] at hiss
    cases hiss
  have hneS : T.aS ≠ a := Nat.ne_of_lt (Nat.lt_of_lt_of_le (Array.getElem?_eq_some_iff.mp hcS0).1 hnew)
  obtain ⟨iM, hffM⟩ := Y.msg
  obtain ⟨tyC, dC, hdC, hdnC⟩ := Cond.laysAt hfound hk Y.cause (a5 (.lays ns_X Bundle.tN "cause" "Ljava/lang/Throwable;") (by simp [ns_tl]))
  obtain ⟨tyS, dS, hdS, hdnS⟩ := Cond.laysAt hfound hk Y.stack (a5 (.lays ns_X Bundle.tN "stackTrace" Bundle.steD) (by simp [ns_tl]))
  obtain ⟨tyP, dP, hdP, hdnP⟩ := Cond.laysAt hfound hk Y.supp (a5 (.lays ns_X Bundle.tN "suppressedExceptions" Bundle.listD) (by simp [ns_tl]))
  obtain ⟨tyM, dM, hdM, hdnM⟩ := Cond.laysAt hfound hk hffM (a5 (.lays ns_X Bundle.tN "detailMessage" "Ljava/lang/String;") (by simp [ns_tl]))
  obtain ⟨tyB, dB, hdB, hdnB⟩ := Cond.laysAt hfound hk hffB (a5 (.lays ns_X Bundle.tN "backtrace" "Ljava/lang/Object;") (by simp [ns_tl]))
  have bC := Cond.laysApart hdB hdC hdnB hdnC (by rw [hnB, Y.causeName]; decide)
  have bS := Cond.laysApart hdB hdS hdnB hdnS (by rw [hnB, Y.stackName]; decide)
  have bP := Cond.laysApart hdB hdP hdnB hdnP (by rw [hnB, Y.suppName]; decide)
  have hskip : SkipFacts T e.platform s (fun u => u) u0 ((preparedCellV T.toThrowableT (freshCell P1.m.cls kX) a u0 sen).withEntry V.cur) :=
    ⟨{ ci198 := ci, i198 := i9, fBack := fB }, ⟨hk9, hg9, ha9, hsB⟩, by
      have hz := fresh_default (c := P1.m.cls) tyB
      rw [htB] at hz
      simpa [preparedCellV, Cell.setSlot, Cell.withEntry, Array.getElem?_setIfInBounds, bC, bS, bP, bC.symm, bS.symm, bP.symm, defaultValue] using hz, fun _ _ => rfl⟩
  obtain ⟨tm, methC, cdC, kC, vm1, hnC, -, -, -, -, -, -, -, hW1, st1⟩ := Steps.initColdS (tb := p.tables) (e := e) (below := below) (s := s) (U := V) X.here hexec X.warmed hpl hown (t := Bundle.initS ns_X) rfl rfl (by decide)
    (a5 (.methodLink RX11 383 (Bundle.initS ns_X)) (by simp [ns_tl])) (w3 (.instanceMethod (Bundle.initS ns_X)) (by simp [ns_p, Bundle.passSAtoms])) (bytes := prog_28_method_4_code) (maxL := 2) (w3 (.code (Bundle.initS ns_X) prog_28_method_4_code 2 none) (by simp [ns_p, Bundle.passSAtoms]))
    (f := g) hg (a := a) (msg := msg) (rest := [.ref a]) hstack hd6
  cases Option.some.inj (hnC.symm.trans hP1m)
  have X1 := X.noted hW1
  have hcat : (Value.ref a).category = 1 := rfl
  obtain ⟨vm2, X2, st2⟩ := X1.ctorMessageOffV hexec (g := { g with stack := [.ref a] }) hg hsize T L Z LZ M LM (P1 :: P2 :: Ps)
    (fun P hP => by
      rcases List.mem_cons.mp hP with rfl | hP
      · exact L1
      · rcases List.mem_cons.mp hP with rfl | hP
        · exact L2
        · exact hL P hP) ⟨hlink1, hlink2, hlink⟩ (u0 := u0) (sen := sen) (self := a) hmsg (cell := freshCell P1.m.cls kX) (cellS := cS)
    hcell (fun _ => by simp) (by simp) rfl rfl hsel0 hselF hcS hneS hknownS (by rw [hkeep _ (fun h => nomatch h)]; exact hu0) (by rw [hkeep _ (fun h => nomatch h)]; exact hsen)
    (Takes.of_laid hk hord tyC (by rw [Y.causeType]; rfl)) (Takes.of_laid hk hord tyS (by rw [Y.stackType]; exact fits_refV_array _ u0)) (Takes.of_laid hk hord tyP (by rw [Y.suppType]; exact fits_refV_object _ sen))
    (Takes.of_laid hk hord tyM (by rw [Y.msgType]; exact fits_refV_object _ ⟨msg, hmsg⟩)) Y.objLocals hskip htr [] hd6
    (by simp only [List.length_cons, hlen, List.length_nil]; omega)
    (by
      have hm : ({ g with stack := [.ref a] } : JFrame).monitorRoom = g.monitorRoom := rfl
      rw [hm]
      simp only [List.length_cons, hlen, List.length_nil, List.map_cons, List.map_nil, List.sum_cons, List.sum_nil, hcat]
      omega)
  obtain ⟨hwalk, hrun, hended, hWU, hsame⟩ := X2.athrowLeaves hexec (g := { g with stack := [.ref a], pc := g.pc + 3 }) hg hlocked hentered hout (a := a) (rest := []) rfl hd9 hlocks
  have hlt : a < ((V.setVm vm1).setVm vm2).heap.size := (Array.getElem?_eq_some_iff.mp hcell).1
  refine ⟨_, st1 _ (fun acts => ?_), hrun, hended, hWU, hsame.weaken (fun y hy hlt' => ?_) (Nat.le_refl _) (Nat.le_refl _), _, heapAt_setCell_self (s := (V.setVm vm1).setVm vm2) (plainBareV T.toThrowableT (freshCell P1.m.cls kX) a u0 sen msg) hlt, rfl, hfound⟩
  · rw [doInvoke_state]
    exact st2 _ hwalk
  · exfalso
    have hb : y.base = a := by
      simp only [List.nil_append, List.mem_cons, List.not_mem_nil, or_false] at hy
      rcases hy with rfl | rfl | rfl | rfl | rfl <;> rfl
    rw [hb] at hlt'
    exact Nat.not_lt.mpr hnew hlt'
end
