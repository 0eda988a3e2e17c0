/-! The words of the throw, out of the tables. -/
theorem wT1 {w : Cond} (i : Nat) (h : tables_1_1[i]? = some w) : w ∈ lw_tbl := List.mem_append_right _ (List.mem_append_left _ (List.mem_of_getElem? h))
theorem wT2 {w : Cond} (i : Nat) (h : tables_1_2[i]? = some w) : w ∈ lw_tbl := List.mem_append_right _ (List.mem_append_right _ (List.mem_append_left _ (List.mem_of_getElem? h)))
theorem wT3 {w : Cond} (i : Nat) (h : tables_1_3[i]? = some w) : w ∈ lw_tbl := List.mem_append_right _ (List.mem_append_right _ (List.mem_append_right _ (List.mem_append_left _ (List.mem_of_getElem? h))))
theorem wT4 {w : Cond} (i : Nat) (h : tables_1_4[i]? = some w) : w ∈ lw_tbl := List.mem_append_right _ (List.mem_append_right _ (List.mem_append_right _ (List.mem_append_right _ (List.mem_append_left _ (List.mem_of_getElem? h)))))
theorem wT5 {w : Cond} (i : Nat) (h : tables_1_5[i]? = some w) : w ∈ lw_tbl := List.mem_append_right _ (List.mem_append_right _ (List.mem_append_right _ (List.mem_append_right _ (List.mem_append_right _ (List.mem_append_left _ (List.mem_of_getElem? h))))))
theorem wT6 {w : Cond} (i : Nat) (h : tables_1_6[i]? = some w) : w ∈ lw_tbl := List.mem_append_right _ (List.mem_append_right _ (List.mem_append_right _ (List.mem_append_right _ (List.mem_append_right _ (List.mem_append_right _ (List.mem_append_left _ (List.mem_of_getElem? h)))))))
theorem wT7 {w : Cond} (i : Nat) (h : tables_1_7[i]? = some w) : w ∈ lw_tbl := List.mem_append_right _ (List.mem_append_right _ (List.mem_append_right _ (List.mem_append_right _ (List.mem_append_right _ (List.mem_append_right _ (List.mem_append_right _ (List.mem_append_left _ (List.mem_of_getElem? h))))))))
theorem wT8 {w : Cond} (i : Nat) (h : tables_1_8[i]? = some w) : w ∈ lw_tbl := List.mem_append_right _ (List.mem_append_right _ (List.mem_append_right _ (List.mem_append_right _ (List.mem_append_right _ (List.mem_append_right _ (List.mem_append_right _ (List.mem_append_right _ (List.mem_of_getElem? h))))))))
abbrev ns_ok (w : Cond) : Prop := w ∈ wG ∨ (w ∈ lw_tbl ∧ sm_isN w = true)
def ns_t : List Cond := [.initialized Bundle.tN, .superclass Bundle.tN "java/lang/Object", .instanceMethod Bundle.tFill, .codeSync Bundle.tFill LibCode.Throwable.Fill.code 1 (some (.object Bundle.tN)), .instanceMethod Bundle.tFill0, .native Bundle.tFill0, .instanceMethod Bundle.tInit0, .code Bundle.tInit0 LibCode.Throwable.Init0.code 1 none, .instanceMethod Bundle.oInit, .code Bundle.oInit ⟨#[0xb1]⟩ 1 none, .methodLink Bundle.tN 1 Bundle.oInit, .methodLink Bundle.tN 27 Bundle.tFill, .methodLink Bundle.tN 202 Bundle.tFill0, .fieldLink Bundle.tN 7 Bundle.tN "cause" "Ljava/lang/Throwable;", .lays Bundle.tN Bundle.tN "cause" "Ljava/lang/Throwable;", .fieldLink Bundle.tN 17 Bundle.tN "stackTrace" Bundle.steD, .lays Bundle.tN Bundle.tN "stackTrace" Bundle.steD, .fieldLink Bundle.tN 24 Bundle.tN "suppressedExceptions" Bundle.listD, .lays Bundle.tN Bundle.tN "suppressedExceptions" Bundle.listD, .fieldLink Bundle.tN 13 Bundle.tN "UNASSIGNED_STACK" Bundle.steD, .fieldLink Bundle.tN 20 Bundle.tN "SUPPRESSED_SENTINEL" Bundle.listD, .lays Bundle.tN Bundle.tN "detailMessage" "Ljava/lang/String;"]
theorem ns_tin : ∀ w ∈ ns_t, ns_ok w := (List.forall_mem_cons.mpr ⟨Or.inl (wG1 20 rfl rfl), List.forall_mem_cons.mpr ⟨Or.inl (wG5 189 rfl rfl), List.forall_mem_cons.mpr ⟨Or.inl (wG5 198 rfl rfl), List.forall_mem_cons.mpr ⟨Or.inl (wG5 200 rfl rfl), List.forall_mem_cons.mpr ⟨Or.inl (wG5 203 rfl rfl), List.forall_mem_cons.mpr ⟨Or.inl (wG5 205 rfl rfl), List.forall_mem_cons.mpr ⟨Or.inl (wG5 190 rfl rfl), List.forall_mem_cons.mpr ⟨Or.inl (wG5 191 rfl rfl), List.forall_mem_cons.mpr ⟨Or.inl (wG1 30 rfl rfl), List.forall_mem_cons.mpr ⟨Or.inl (wG1 31 rfl rfl), List.forall_mem_cons.mpr ⟨Or.inl (wG5 192 rfl rfl), List.forall_mem_cons.mpr ⟨Or.inl (wG5 197 rfl rfl), List.forall_mem_cons.mpr ⟨Or.inl (wG5 201 rfl rfl), List.forall_mem_cons.mpr ⟨Or.inl (wG5 221 rfl rfl), List.forall_mem_cons.mpr ⟨Or.inl (wG5 179 rfl rfl), List.forall_mem_cons.mpr ⟨Or.inl (wG5 222 rfl rfl), List.forall_mem_cons.mpr ⟨Or.inl (wG5 181 rfl rfl), List.forall_mem_cons.mpr ⟨Or.inl (wG5 223 rfl rfl), List.forall_mem_cons.mpr ⟨Or.inl (wG5 183 rfl rfl), List.forall_mem_cons.mpr ⟨Or.inl (wG5 193 rfl rfl), List.forall_mem_cons.mpr ⟨Or.inl (wG5 195 rfl rfl), List.forall_mem_cons.mpr ⟨Or.inl (wG5 185 rfl rfl), fun _ h => absurd h List.not_mem_nil⟩⟩⟩⟩⟩⟩⟩⟩⟩⟩⟩⟩⟩⟩⟩⟩⟩⟩⟩⟩⟩⟩)
theorem ns_tf : Bundle.throwableAtoms.filter vx_no = ns_t := by decide +kernel
theorem ns_sin : ∀ w ∈ Bundle.throwableSAtoms, ns_ok w := (List.forall_mem_cons.mpr ⟨Or.inl (wG5 217 rfl rfl), List.forall_mem_cons.mpr ⟨Or.inl (wG5 218 rfl rfl), List.forall_mem_cons.mpr ⟨Or.inl (wG5 220 rfl rfl), List.forall_mem_cons.mpr ⟨Or.inl (wG5 185 rfl rfl), fun _ h => absurd h List.not_mem_nil⟩⟩⟩⟩)
theorem ns_pin : ∀ w ∈ ns_p, ns_ok w := (List.forall_mem_cons.mpr ⟨Or.inl (wG5 208 rfl rfl), List.forall_mem_cons.mpr ⟨Or.inl (wG5 209 rfl rfl), List.forall_mem_cons.mpr ⟨Or.inl (wG5 210 rfl rfl), List.forall_mem_cons.mpr ⟨Or.inl (wG5 211 rfl rfl), List.forall_mem_cons.mpr ⟨Or.inr ⟨wT5 171 rfl, rfl⟩, fun _ h => absurd h List.not_mem_nil⟩⟩⟩⟩⟩)
theorem ns_qin : ∀ w ∈ ns_q, ns_ok w := (List.forall_mem_cons.mpr ⟨Or.inl (wG5 211 rfl rfl), List.forall_mem_cons.mpr ⟨Or.inl (wG5 212 rfl rfl), List.forall_mem_cons.mpr ⟨Or.inl (wG5 213 rfl rfl), List.forall_mem_cons.mpr ⟨Or.inl (wG5 214 rfl rfl), List.forall_mem_cons.mpr ⟨Or.inr ⟨wT5 173 rfl, rfl⟩, List.forall_mem_cons.mpr ⟨Or.inl (wG5 214 rfl rfl), List.forall_mem_cons.mpr ⟨Or.inl (wG5 215 rfl rfl), List.forall_mem_cons.mpr ⟨Or.inl (wG5 216 rfl rfl), List.forall_mem_cons.mpr ⟨Or.inl (wG5 217 rfl rfl), List.forall_mem_cons.mpr ⟨Or.inr ⟨wT5 175 rfl, rfl⟩, fun _ h => absurd h List.not_mem_nil⟩⟩⟩⟩⟩⟩⟩⟩⟩⟩)
theorem ns_lin : ∀ w ∈ ns_tl, ns_ok w := (List.forall_mem_cons.mpr ⟨Or.inl (wG5 207 rfl rfl), List.forall_mem_cons.mpr ⟨Or.inl (wG5 168 rfl rfl), List.forall_mem_cons.mpr ⟨Or.inr ⟨wT5 169 rfl, rfl⟩, List.forall_mem_cons.mpr ⟨Or.inl (wG5 176 rfl rfl), List.forall_mem_cons.mpr ⟨Or.inl (wG5 177 rfl rfl), List.forall_mem_cons.mpr ⟨Or.inl (wG5 178 rfl rfl), List.forall_mem_cons.mpr ⟨Or.inl (wG5 180 rfl rfl), List.forall_mem_cons.mpr ⟨Or.inl (wG5 182 rfl rfl), List.forall_mem_cons.mpr ⟨Or.inl (wG5 184 rfl rfl), List.forall_mem_cons.mpr ⟨Or.inl (wG5 188 rfl rfl), List.forall_mem_cons.mpr ⟨Or.inl (wG5 187 rfl rfl), List.forall_mem_cons.mpr ⟨Or.inl (wG5 186 rfl rfl), fun _ h => absurd h List.not_mem_nil⟩⟩⟩⟩⟩⟩⟩⟩⟩⟩⟩⟩)
def ns_all : List Cond := ns_t ++ (Bundle.throwableSAtoms ++ (ns_p ++ (ns_q ++ ns_tl)))
theorem ns_allin : ∀ w ∈ ns_all, ns_ok w := fun w hw => (List.mem_append.mp hw).elim (ns_tin w) (fun hw => (List.mem_append.mp hw).elim (ns_sin w) (fun hw => (List.mem_append.mp hw).elim (ns_pin w) (fun hw => (List.mem_append.mp hw).elim (ns_qin w) (ns_lin w))))
theorem ns_ot : ns_all.all Cond.onTables = true := by decide +kernel
section
variable {p : Program} {l : Launch} {e : Env} {R : Room} {s : State} {m : MethodId} {args : Array Value} {below : List Frame} {meth : Method} {c : Code} {H : Heap} {locs : List Loc} {cells slots : Nat}
set_option maxHeartbeats 4000000 in
/-- led at pc 24: the throw -/
theorem ns_throw {Qc : Array Value → State → Outcome → State → Prop} {XC : String → State → State → Prop} {ls : Array Slot} {A : Nat → Prop} {mc ms sa : Nat} {tx : String} {free : Addr → Prop} (hexec : p.tables.exec = Jvm.exec) (hb : c.code = cX11_led) (hl : l.stackTraces = false) (hown : s.vm.findClass RX11 = some m.cls)
    (hk : (Cond.classLink RX11 379 ns_X).before args s = true) (hini : (Cond.initialized ns_X).before args s = true) (hstr : vk_R RX11 381 tx sa s) (hat : ∀ w ∈ ns_all, w.before args s = true)
    (hU : vx_Zq Bundle.tN "UNASSIGNED_STACK" Bundle.steD A s s.heap) (hN : vx_Zq Bundle.tN "SUPPRESSED_SENTINEL" Bundle.listD A s s.heap) (hS : va_S A s.heap H locs) (hsize : ls.size = c.maxLocals) (hout : ∀ x ∈ c.exceptionTable.toList, False)
    (hRf : 5 < R.frames) (hRl : 100 ≤ R.locals) (hRc : cells + 1 ≤ R.cells) (hRs : slots + 6 ≤ R.slots) (hlocks : meth.locks = false)
    (hx : ∀ t : State, s.vm.Alike t.vm → H.size ≤ t.heap.size → (∀ q : Nat, q < H.size → t.heap[q]? = H[q]?) → XC ns_X s t) (hf : ∀ z ∈ locs, free z.base) (hc : cells + 1 ≤ mc) (hs : slots + 6 ≤ ms) :
    W p l e R s m args below meth c H locs cells slots (vx_MQ below Qc XC args s mc ms free) (F0 m 24 ls []) := by
  intro T hT X
  have htr : e.platform.stackTraces = false := (show e.platform.stackTraces = l.stackTraces by rw [X.admits.platform]).trans hl
  have Y := vx_rebase X (R' := { frames := R.frames, locals := R.locals, cells := 1, slots := 6 }) (Nat.le_refl _) (Nat.le_refl _) hRc hRs
  obtain ⟨s', hA⟩ : ∃ z, z = (T.setVm s.vm).setFrames (.invoking m args :: below) := ⟨_, rfl⟩
  rw [← hA] at Y
  have hvm : s'.vm = s.vm := by rw [hA]; rfl
  have hhp : s'.heap = H := by rw [hA]; exact hT
  have hW0 : s.WarmedH s'.vm := by rw [hvm]; exact State.WarmedH.refl s
  have hat' : ∀ w ∈ ns_all, w.before args s' = true := fun w hw => va_tabs (List.all_eq_true.mp ns_ot w hw) hvm.symm (hat w hw)
  have hk' : (Cond.classLink RX11 379 ns_X).before args s' = true := va_tabs rfl hvm.symm hk
  have hini' : (Cond.initialized ns_X).before args s' = true := va_tabs rfl hvm.symm hini
  have hU' : vx_Zq Bundle.tN "UNASSIGNED_STACK" Bundle.steD A s' s'.heap := by rw [hhp]; exact vx_Zq.moved hW0.alike (hU.kept hS.2.1)
  have hN' : vx_Zq Bundle.tN "SUPPRESSED_SENTINEL" Bundle.listD A s' s'.heap := by rw [hhp]; exact vx_Zq.moved hW0.alike (hN.kept hS.2.1)
  have t1 : ∀ w ∈ Bundle.throwableAtoms, w.before args s' = true := vx_own (fun w hw => hat' w (List.mem_append_left _ (by rw [ns_tf] at hw; exact hw))) (vx_isRefq hU'.1) (vx_isRefq hN'.1) hU'.2.word hN'.2.word
  have t2 : ∀ w ∈ Bundle.throwableSAtoms, w.before args s' = true := fun w hw => hat' w (List.mem_append_right _ (List.mem_append_left _ hw))
  have t3 : ∀ w ∈ ns_p, w.before args s' = true := fun w hw => hat' w (List.mem_append_right _ (List.mem_append_right _ (List.mem_append_left _ hw)))
  have t4 : ∀ w ∈ ns_q, w.before args s' = true := fun w hw => hat' w (List.mem_append_right _ (List.mem_append_right _ (List.mem_append_right _ (List.mem_append_left _ hw))))
  have t5 : ∀ w ∈ ns_tl, w.before args s' = true := fun w hw => hat' w (List.mem_append_right _ (List.mem_append_right _ (List.mem_append_right _ (List.mem_append_right _ hw))))
  have hown' : s'.vm.findClass RX11 = some m.cls := by rw [hvm]; exact hown
  have hins : (Cond.instantiable ns_X 6).before args s' = true := t5 _ (by simp [ns_tl])
  have d0 : decode c.code 24 = .ok (.new 379, 3) := by rw [hb]; decide +kernel
  have d3 : decode c.code 27 = .ok (.dup, 1) := by rw [hb]; decide +kernel
  have d4 : decode c.code 28 = .ok (.ldc_w 381, 3) := by rw [hb]; decide +kernel
  have d7 : decode c.code 31 = .ok (.invokespecial 383, 3) := by rw [hb]; decide +kernel
  have d10 : decode c.code 34 = .ok (.athrow, 1) := by rw [hb]; decide +kernel
  obtain ⟨vm1, cX, kX, hfX, hkX, -, -, X1, st1⟩ := Y.newCold hexec (own := RX11) (C := ns_X) (index := 379) (n := 6) hown' hk' hins hini'
    (g := F0 m 24 ls []) rfl d0 (Nat.le_refl _) (Nat.le_refl _)
  generalize hT1 : (T.setVm vm1).pushCell { cls := cX, slots := kX.instanceTypes.map defaultValue, vm := .none } = T1 at X1 st1
  have hcellA : T1.heap[T.heap.size]? = some (freshCell cX kX) := by rw [← hT1]; exact State.heap_pushCell_size _ _
  have hstr' : vk_R RX11 381 tx sa s' := vk_R.warm hW0 hstr
  obtain ⟨U, hsteps, hrun, hend, hW, hsame, ce, hce, hv, hcl⟩ := ns_ctor X1 hexec htr hown' t1 t2 t3 t4 t5 (vx_isRefq hU'.1) (vx_isRefq hN'.1) hfX hkX hcellA (by rw [hhp, hT]; exact Nat.le_refl _) (msg := .ref sa) rfl
    (g := { method := m, pc := 31, locals := ls, stack := [.ref sa, .ref T.heap.size, .ref T.heap.size], locked := none }) rfl hsize rfl rfl rfl d7 d10 (fun x hx => (hout x hx).elim) hRf (by show 2 * 0 + 100 ≤ R.locals; omega) hlocks
  obtain ⟨f1, f2⟩ := vx_frame hsame
  rw [hhp] at f1 f2
  have hWs : s.WarmedH U.vm := State.WarmedH.trans hW0 hW
  rw [hvm] at hcl
  have hall : s.sameButNew ({ U with vm := s.vm } : State) locs mc ms := by
    subst hA
    obtain ⟨e1, e2⟩ := hsame
    rw [State.setFrames_setFrames] at e1
    have h2 : (T.setVm s.vm).sameButNew ({ U with vm := s.vm } : State) [] (0 + 1) (0 + 6) := ⟨e1, e2⟩
    have h3 := X.same.trans h2
    rw [List.append_nil] at h3
    exact h3.mono hc hs
  refine ⟨U, ?_, .threw T.heap.size, hrun, hend, Or.inr ⟨T.heap.size, rfl, ns_X, ce, locs, hx U hWs.alike f1 (fun q hq => f2 q hq (fun z hz => nomatch hz)), hce, hv, hcl, hWs, hall, hf⟩⟩
  refine st1 _ ?_
  show Steps p.tables e below (T1.setTop { method := m, pc := 27, locals := ls, stack := [.ref T.heap.size], locked := none }) _
  jvm_step X1.here [X1.here.top, hexec, d3, Value.category]
  exact X1.ldcStringW hexec (own := RX11) (text := tx) (index := 381) (a := sa) hown' hstr'.1 hstr'.2
    (g := { method := m, pc := 28, locals := ls, stack := [.ref T.heap.size, .ref T.heap.size], locked := none }) rfl d4 _ hsteps
end
