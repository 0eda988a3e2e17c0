/-! What stood before the law began: ROOM, the script, the Strings; words that calls of nest mates and arrays of references want. -/
def sm_isN : Cond → Bool
  | .methodLinkNest .. => true
  | .fieldLinkNest .. => true
  | .declares _ => true
  | .castable .. => true
  | _ => false
def sm_tys (cA : Nat → ClassId) : List (ClassId × FieldType) := [(cA 12, .int), (cA 13, .long), (cA 14, .byte), (cA 15, .object "SworeCaptain$Moment"), (cA 16, .array .int), (cA 17, .array .long)]
abbrev sm_StrJ (ad : Nat → Nat) (j : Nat) (A : Nat → Prop) (U : State) (H : Heap) : Prop :=
  va_O "java/lang/String" (ad (sp_S + j)) A U H ∧ va_OF "java/lang/String" "coder" "B" (.int 0) (ad (sp_S + j)) A U H ∧ va_OF "java/lang/String" "value" "[B" (.ref (ad (sp_V + j))) (ad (sp_S + j)) A U H ∧ va_T .byte (ad (sp_V + j)) (ev_sb j).length (fun i => .int ((ev_sb j).getD i 0)) A U H
abbrev sm_Wd (ad : Nat → Nat) (U : State) : Prop := (∀ o x j : Nat, (ev_stl o).lookup x = some j → ∃ tx : String, vk_R (ev_on o) x tx (ad (sp_S + j)) U) ∧ (∀ w ∈ lw_tbl, sm_isN w = true → va_Nw w U) ∧ va_AO "SworeCaptain$Moment" U ∧ va_AOA .int U ∧ va_AOA .long U
def sm_St (ad : Nat → Nat) (L : Nat) (xs : Nat → Int32) (A : Nat → Prop) (U : State) (H : Heap) : Prop :=
  (va_Z "SworeCaptain" "ROOM" "[I" (.ref (ad sp_R)) A U H ∧ va_T .int (ad sp_R) 7 (fun j => .int (ev_room.getD j 0)) A U H) ∧
  (va_X (ad sp_X) L xs U H ∧ ad sp_X < H.size ∧ ¬ A (ad sp_X)) ∧ (∀ j, j < 27 → sm_StrJ ad j A U H) ∧
  va_Z "java/lang/String" "COMPACT_STRINGS" "Z" (.int 1) A U H ∧ va_Zq "jdk/internal/util/Preconditions" "SIOOBE_FORMATTER" "Ljava/util/function/BiFunction;" A U H ∧
  (vx_Zq "java/lang/Throwable" "UNASSIGNED_STACK" "[Ljava/lang/StackTraceElement;" A U H ∧ vx_Zq "java/lang/Throwable" "SUPPRESSED_SENTINEL" "Ljava/util/List;" A U H) ∧ sm_Wd ad U
theorem va_AOA.moved {t : FieldType} {u U : State} (hvm : u.vm.Alike U.vm) (h : va_AOA t u) : va_AOA t U := Cond.overAtom_setVm (args := #[]) hvm (Cond.arrayOver (.array t)) rfl h
theorem sm_heap {ad : Nat → Nat} {L : Nat} {xs : Nat → Int32} {A B : Nat → Prop} {s U : State} {H1 : Heap} (hvm : s.vm.Alike U.vm) (hz : s.heap.size ≤ H1.size) (hq : ∀ a : Nat, a < s.heap.size → ¬ A a → H1[a]? = s.heap[a]?) (hAB : ∀ q, B q → A q) (hw : sm_Wd ad U) (h : sm_St ad L xs A s s.heap) : sm_St ad L xs B U H1 := by
  obtain ⟨⟨h1, h2⟩, ⟨h3, h4, h5⟩, h6, h7, h8, ⟨h9, h10⟩, -⟩ := h
  exact ⟨⟨((h1.moved hvm).kept hq).narrow hAB, ((h2.moved hvm).kept hq).narrow hAB⟩, ⟨(h3.moved hvm).kept (hq _ h4 h5), Nat.lt_of_lt_of_le h4 hz, fun z => h5 (hAB _ z)⟩,
    fun j hj => ⟨(((h6 j hj).1.moved hvm).kept hq).narrow hAB, (((h6 j hj).2.1.moved hvm).kept hq).narrow hAB, (((h6 j hj).2.2.1.moved hvm).kept hq).narrow hAB, (((h6 j hj).2.2.2.moved hvm).kept hq).narrow hAB⟩,
    ((h7.moved hvm).kept hq).narrow hAB, ((h8.moved hvm).kept hq).narrow hAB, ⟨((h9.moved hvm).kept hq).narrow hAB, ((h10.moved hvm).kept hq).narrow hAB⟩, hw⟩
theorem sm_Wd.warm {ad : Nat → Nat} {s U : State} (hW : s.WarmedH U.vm) (h : sm_Wd ad s) : sm_Wd ad U := by
  obtain ⟨h1, h2, h3, h4, h5⟩ := h
  refine ⟨fun o x j hj => ?_, fun w hw hn => ?_, h3.moved hW.alike, h4.moved hW.alike, h5.moved hW.alike⟩
  · obtain ⟨tx, q⟩ := h1 o x j hj
    exact ⟨tx, q.warm hW⟩
  · have q := h2 w hw hn
    cases w <;> first | exact va_Nw.warmM hW q | exact va_Nw.warmF hW q | exact va_Nw.warmD hW q | exact va_Nw.warmC hW q | cases hn
theorem sm_Wd.same {ad : Nat → Nat} {u U : State} (hv : u.vm = U.vm) (h : sm_Wd ad u) : sm_Wd ad U := by
  obtain ⟨h1, h2, h3, h4, h5⟩ := h
  have hal : u.vm.Alike U.vm := hv ▸ Vm.Alike.refl _
  refine ⟨fun o x j hj => ?_, fun w hw hn => ?_, h3.moved hal, h4.moved hal, h5.moved hal⟩
  · obtain ⟨tx, q⟩ := h1 o x j hj
    exact ⟨tx, q.same hv.symm⟩
  · have q := h2 w hw hn
    cases w <;> first | exact va_Nw.same rfl hv q | cases hn
/-- at a call: the callee's start -/
theorem sm_St.go {ad : Nat → Nat} {L : Nat} {xs : Nat → Int32} {A B : Nat → Prop} {s U : State} {H : Heap} {locs : List Loc} (hW : s.WarmedH U.vm) (hU : U.heap = H) (hS : va_S A s.heap H locs) (hAB : ∀ q, B q → A q) (h : sm_St ad L xs A s s.heap) : sm_St ad L xs B U U.heap := by
  rw [hU]
  exact sm_heap hW.alike hS.1 hS.2.1 hAB (h.2.2.2.2.2.2.warm hW) h
theorem sm_St.same {ad : Nat → Nat} {L : Nat} {xs : Nat → Int32} {A : Nat → Prop} {u U : State} (hv : u.vm = U.vm) (hh : u.heap = U.heap) (h : sm_St ad L xs A u u.heap) : sm_St ad L xs A U U.heap := by
  rw [← hh]
  exact sm_heap (hv ▸ Vm.Alike.refl _) (Nat.le_refl _) (fun _ _ _ => rfl) (fun _ z => z) (h.2.2.2.2.2.2.same hv) h
