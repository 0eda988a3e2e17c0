/-! The 27 Strings at the start. -/
abbrev st_v (own : String) (x : Nat) : Term := .field (.string own x) "java/lang/String" "value" "[B"
def st_ws (own : String) (x : Nat) (bs : List Int32) : List Cond := [.exactly (.string own x) "java/lang/String", .eq (.field (.string own x) "java/lang/String" "coder" "B") (.int 0), .arrayOf (st_v own x) .byte, .eq (.length (st_v own x)) (.int (Int32.ofNat bs.length))] ++ (List.range bs.length).map (fun i => .eq (.elem (st_v own x) (.int (Int32.ofNat i))) (.int (bs.getD i 0)))
theorem st_blk : ((flatC (Jvm.Cond.and given_1 narrow_1)).drop 33).take 387 = ev_strs.flatMap (fun q => st_ws (ev_on q.1) q.2.1 q.2.2) := by decide +kernel
theorem va_OFof {args : Array Value} {s : State} {t : Term} {own n d : String} {v : Value} {a : Nat} {A : Nat → Prop} (ht : t.eval args s none [] s = some (.ref a)) (h : (Term.field t own n d).eval args s none [] s = some v) (hA : ∀ a : Nat, a < s.heap.size → ¬ A a) : va_OF own n d v a A s s.heap := by
  cases hf : s.fieldFound? own n d with
  | none =>
    exfalso
    simp [Term.eval, ht, State.fieldOf?, State.fieldNamed?, hf] at h
  | some q =>
    obtain ⟨c, k, i, f⟩ := q
    obtain ⟨h1, cell, h2, h3, h4, h5, h6⟩ := Term.field_spec hf ht h
    exact ⟨c, k, i, f, cell, hf, h1, h2, h3, h6, hA a (Array.getElem?_eq_some_iff.mp h2).1⟩
theorem st_str {s : State} {args : Array Value} {A : Nat → Prop} {own : String} {x : Nat} {bs : List Int32} (hw : ∀ w ∈ st_ws own x bs, w.before args s = true) (hn : bs.length < 2 ^ 31) (hA : ∀ a : Nat, a < s.heap.size → ¬ A a) :
    ∃ a v : Nat, (Term.string own x).eval args s none [] s = some (.ref a) ∧ va_O "java/lang/String" a A s s.heap ∧ va_OF "java/lang/String" "coder" "B" (.int 0) a A s s.heap ∧ va_OF "java/lang/String" "value" "[B" (.ref v) a A s s.heap ∧ va_T .byte v bs.length (fun i => .int (bs.getD i 0)) A s s.heap := by
  have h1 := hw (.exactly (.string own x) "java/lang/String") (List.mem_append_left _ (by simp))
  have h2 := hw (.eq (.field (.string own x) "java/lang/String" "coder" "B") (.int 0)) (List.mem_append_left _ (by simp))
  have h3 := hw (.arrayOf (st_v own x) .byte) (List.mem_append_left _ (by simp))
  have h4 := hw (.eq (.length (st_v own x)) (.int (Int32.ofNat bs.length))) (List.mem_append_left _ (by simp))
  obtain ⟨a, c, cA, kA, q1, -⟩ := Cond.exactly_spec (args := args) (first := s) (o := none) (s := s) (idx := []) (t := .string own x) (cls := "java/lang/String") h1
  obtain ⟨v, e, q⟩ := va_Tof (N := bs.length) (f := fun i => .int (bs.getD i 0)) (A := A) hn h3 (va_eqt h4) (fun j hj => va_eqt (hw _ (List.mem_append_right _ (List.mem_map.mpr ⟨j, List.mem_range.mpr hj, rfl⟩)))) hA
  exact ⟨a, v, q1, va_Oof h1 q1 hA, va_OFof q1 (va_eqt h2) hA, va_OFof q1 e hA, q⟩
theorem st_len : ∀ q ∈ ev_strs, q.2.2.length < 2 ^ 31 := by decide +kernel
theorem st_one {s : State} {args : Array Value} {A : Nat → Prop} (hgv : (Jvm.Cond.and given_1 narrow_1).before args s = true) (hA : ∀ a : Nat, a < s.heap.size → ¬ A a) {q : Nat × Nat × List Int32} (hq : q ∈ ev_strs) :
    ∃ a v : Nat, (Term.string (ev_on q.1) q.2.1).eval args s none [] s = some (.ref a) ∧ va_O "java/lang/String" a A s s.heap ∧ va_OF "java/lang/String" "coder" "B" (.int 0) a A s s.heap ∧ va_OF "java/lang/String" "value" "[B" (.ref v) a A s s.heap ∧ va_T .byte v q.2.2.length (fun i => .int (q.2.2.getD i 0)) A s s.heap :=
  st_str (fun w hw => flat_of_before _ hgv w (List.mem_of_mem_drop (List.mem_of_mem_take (by rw [st_blk]; exact List.mem_flatMap.mpr ⟨q, hq, hw⟩)))) (st_len q hq) hA
def st_P (o x j : Nat) : Prop := ∃ bs : List Int32, ev_strs[j]? = some (o, x, bs) ∧ ∃ tx : String, Cond.stringRef (ev_on o) x tx ∈ lw_tbl
theorem stl_all : ∀ o, ∀ q ∈ ev_stl o, st_P o q.1 q.2
  | 7 => List.forall_mem_cons.mpr ⟨⟨_, rfl, _, wT1 155 rfl⟩, fun _ h => absurd h List.not_mem_nil⟩
  | 10 => List.forall_mem_cons.mpr ⟨⟨_, rfl, _, wT5 206 rfl⟩, fun _ h => absurd h List.not_mem_nil⟩
  | 11 => List.forall_mem_cons.mpr ⟨⟨_, rfl, _, wT6 151 rfl⟩, List.forall_mem_cons.mpr ⟨⟨_, rfl, _, wT6 184 rfl⟩, List.forall_mem_cons.mpr ⟨⟨_, rfl, _, wT6 201 rfl⟩, List.forall_mem_cons.mpr ⟨⟨_, rfl, _, wT6 202 rfl⟩, List.forall_mem_cons.mpr ⟨⟨_, rfl, _, wT6 203 rfl⟩, List.forall_mem_cons.mpr ⟨⟨_, rfl, _, wT6 204 rfl⟩, List.forall_mem_cons.mpr ⟨⟨_, rfl, _, wT6 205 rfl⟩, List.forall_mem_cons.mpr ⟨⟨_, rfl, _, wT6 206 rfl⟩, List.forall_mem_cons.mpr ⟨⟨_, rfl, _, wT6 166 rfl⟩, List.forall_mem_cons.mpr ⟨⟨_, rfl, _, wT6 183 rfl⟩, List.forall_mem_cons.mpr ⟨⟨_, rfl, _, wT6 211 rfl⟩, List.forall_mem_cons.mpr ⟨⟨_, rfl, _, wT6 212 rfl⟩, List.forall_mem_cons.mpr ⟨⟨_, rfl, _, wT6 236 rfl⟩, List.forall_mem_cons.mpr ⟨⟨_, rfl, _, wT6 237 rfl⟩, List.forall_mem_cons.mpr ⟨⟨_, rfl, _, wT6 238 rfl⟩, List.forall_mem_cons.mpr ⟨⟨_, rfl, _, wT6 239 rfl⟩, List.forall_mem_cons.mpr ⟨⟨_, rfl, _, wT7 0 rfl⟩, List.forall_mem_cons.mpr ⟨⟨_, rfl, _, wT7 1 rfl⟩, List.forall_mem_cons.mpr ⟨⟨_, rfl, _, wT7 2 rfl⟩, List.forall_mem_cons.mpr ⟨⟨_, rfl, _, wT7 7 rfl⟩, List.forall_mem_cons.mpr ⟨⟨_, rfl, _, wT7 12 rfl⟩, List.forall_mem_cons.mpr ⟨⟨_, rfl, _, wT7 17 rfl⟩, List.forall_mem_cons.mpr ⟨⟨_, rfl, _, wT7 18 rfl⟩, List.forall_mem_cons.mpr ⟨⟨_, rfl, _, wT7 23 rfl⟩, List.forall_mem_cons.mpr ⟨⟨_, rfl, _, wT7 24 rfl⟩, fun _ h => absurd h List.not_mem_nil⟩⟩⟩⟩⟩⟩⟩⟩⟩⟩⟩⟩⟩⟩⟩⟩⟩⟩⟩⟩⟩⟩⟩⟩⟩
  | 0 => fun _ h => absurd h List.not_mem_nil
  | 1 => fun _ h => absurd h List.not_mem_nil
  | 2 => fun _ h => absurd h List.not_mem_nil
  | 3 => fun _ h => absurd h List.not_mem_nil
  | 4 => fun _ h => absurd h List.not_mem_nil
  | 5 => fun _ h => absurd h List.not_mem_nil
  | 6 => fun _ h => absurd h List.not_mem_nil
  | 8 => fun _ h => absurd h List.not_mem_nil
  | 9 => fun _ h => absurd h List.not_mem_nil
  | n + 12 => fun _ h => absurd h List.not_mem_nil
