/-! Runs to what holds behind them. -/
def Ew (k : Nat) (M : ev_M) (pc : Nat) (ls st : List Value) (h : hp_H) (Q : Option Value → hp_H → Prop) : Prop := ∃ r h', Ev k M pc ls st h r h' ∧ Q r h'
theorem Ew.up {k k' : Nat} {M : ev_M} {pc : Nat} {ls st : List Value} {h : hp_H} {Q : Option Value → hp_H → Prop} (hk : k ≤ k') (q : Ew k M pc ls st h Q) : Ew k' M pc ls st h Q := by
  obtain ⟨r, h', e, z⟩ := q
  exact ⟨r, h', e.up hk, z⟩
theorem Ew.mono {k : Nat} {M : ev_M} {pc : Nat} {ls st : List Value} {h : hp_H} {Q Q' : Option Value → hp_H → Prop} (q : Ew k M pc ls st h Q) (i : ∀ r h', Q r h' → Q' r h') : Ew k M pc ls st h Q' := by
  obtain ⟨r, h', e, z⟩ := q
  exact ⟨r, h', e, i _ _ z⟩
theorem Ev.w {k : Nat} {M : ev_M} {pc : Nat} {ls st : List Value} {h h' : hp_H} {r : Option Value} {Q : Option Value → hp_H → Prop} (e : Ev k M pc ls st h r h') (z : Q r h') : Ew k M pc ls st h Q := ⟨r, h', e, z⟩
section
variable {k : Nat} {M : ev_M} {pc p : Nat} {ls st ls1 : List Value} {S : List (Nat × Nat) × Nat × Nat} {I : Nat → Nat → Int32} {J : Nat → Nat → Int64} {F : Nat → Nat → Option Nat} {Q : Option Value → hp_H → Prop} {h : hp_H}
theorem we_iconst {n : Int} {v : Int32} (hd : decode (mC M) pc = .ok (.iconst n, 1)) (hv : Int32.ofInt n = v) (hp : pc + 1 = p) (q : Ew k M p ls (.int v :: st) h Q) : Ew k M pc ls (st) h Q := by
  obtain ⟨r, h', e, z⟩ := q
  exact ⟨r, h', e_iconst hd hv hp e, z⟩
theorem we_bipush {n : Int} {v : Int32} (hd : decode (mC M) pc = .ok (.bipush n, 2)) (hv : (Int8.ofInt n).toInt32 = v) (hp : pc + 2 = p) (q : Ew k M p ls (.int v :: st) h Q) : Ew k M pc ls (st) h Q := by
  obtain ⟨r, h', e, z⟩ := q
  exact ⟨r, h', e_bipush hd hv hp e, z⟩
theorem we_sipush {n : Int} {v : Int32} (hd : decode (mC M) pc = .ok (.sipush n, 3)) (hv : (Int16.ofInt n).toInt32 = v) (hp : pc + 3 = p) (q : Ew k M p ls (.int v :: st) h Q) : Ew k M pc ls (st) h Q := by
  obtain ⟨r, h', e, z⟩ := q
  exact ⟨r, h', e_sipush hd hv hp e, z⟩
theorem we_lconst {n : Fin 2} {v : Int64} (hd : decode (mC M) pc = .ok (.lconst n, 1)) (hv : Int64.ofNat (n : Nat) = v) (hp : pc + 1 = p) (q : Ew k M p ls (.long v :: st) h Q) : Ew k M pc ls (st) h Q := by
  obtain ⟨r, h', e, z⟩ := q
  exact ⟨r, h', e_lconst hd hv hp e, z⟩
theorem we_iload_n {j : Fin 4} {x : Int32} (hd : decode (mC M) pc = .ok (.iload_n j, 1)) (hl : ls[(j : Nat)]? = some (.int x)) (hp : pc + 1 = p) (q : Ew k M p ls (.int x :: st) h Q) : Ew k M pc ls (st) h Q := by
  obtain ⟨r, h', e, z⟩ := q
  exact ⟨r, h', e_iload_n hd hl hp e, z⟩
theorem we_iload {j : Nat} {x : Int32} (hd : decode (mC M) pc = .ok (.iload j, 2)) (hl : ls[j]? = some (.int x)) (hp : pc + 2 = p) (q : Ew k M p ls (.int x :: st) h Q) : Ew k M pc ls (st) h Q := by
  obtain ⟨r, h', e, z⟩ := q
  exact ⟨r, h', e_iload hd hl hp e, z⟩
theorem we_istore_n {j : Fin 4} {x : Int32} (hd : decode (mC M) pc = .ok (.istore_n j, 1)) (hl : ev_s1 ls (j : Nat) (.int x) = some ls1) (hp : pc + 1 = p) (q : Ew k M p ls1 (st) h Q) : Ew k M pc ls (.int x :: st) h Q := by
  obtain ⟨r, h', e, z⟩ := q
  exact ⟨r, h', e_istore_n hd hl hp e, z⟩
theorem we_istore {j : Nat} {x : Int32} (hd : decode (mC M) pc = .ok (.istore j, 2)) (hl : ev_s1 ls j (.int x) = some ls1) (hp : pc + 2 = p) (q : Ew k M p ls1 (st) h Q) : Ew k M pc ls (.int x :: st) h Q := by
  obtain ⟨r, h', e, z⟩ := q
  exact ⟨r, h', e_istore hd hl hp e, z⟩
theorem we_lload_n {j : Fin 4} {x : Int64} (hd : decode (mC M) pc = .ok (.lload_n j, 1)) (hl : ls[(j : Nat)]? = some (.long x)) (hp : pc + 1 = p) (q : Ew k M p ls (.long x :: st) h Q) : Ew k M pc ls (st) h Q := by
  obtain ⟨r, h', e, z⟩ := q
  exact ⟨r, h', e_lload_n hd hl hp e, z⟩
theorem we_lload {j : Nat} {x : Int64} (hd : decode (mC M) pc = .ok (.lload j, 2)) (hl : ls[j]? = some (.long x)) (hp : pc + 2 = p) (q : Ew k M p ls (.long x :: st) h Q) : Ew k M pc ls (st) h Q := by
  obtain ⟨r, h', e, z⟩ := q
  exact ⟨r, h', e_lload hd hl hp e, z⟩
theorem we_lstore_n {j : Fin 4} {x : Int64} (hd : decode (mC M) pc = .ok (.lstore_n j, 1)) (hl : ev_s2 ls (j : Nat) (.long x) = some ls1) (hp : pc + 1 = p) (q : Ew k M p ls1 (st) h Q) : Ew k M pc ls (.long x :: st) h Q := by
  obtain ⟨r, h', e, z⟩ := q
  exact ⟨r, h', e_lstore_n hd hl hp e, z⟩
theorem we_lstore {j : Nat} {x : Int64} (hd : decode (mC M) pc = .ok (.lstore j, 2)) (hl : ev_s2 ls j (.long x) = some ls1) (hp : pc + 2 = p) (q : Ew k M p ls1 (st) h Q) : Ew k M pc ls (.long x :: st) h Q := by
  obtain ⟨r, h', e, z⟩ := q
  exact ⟨r, h', e_lstore hd hl hp e, z⟩
theorem we_aload_n {j : Fin 4} {x : Nat} (hd : decode (mC M) pc = .ok (.aload_n j, 1)) (hl : ls[(j : Nat)]? = some (.ref x)) (hp : pc + 1 = p) (q : Ew k M p ls (.ref x :: st) h Q) : Ew k M pc ls (st) h Q := by
  obtain ⟨r, h', e, z⟩ := q
  exact ⟨r, h', e_aload_n hd hl hp e, z⟩
theorem we_aload {j : Nat} {x : Nat} (hd : decode (mC M) pc = .ok (.aload j, 2)) (hl : ls[j]? = some (.ref x)) (hp : pc + 2 = p) (q : Ew k M p ls (.ref x :: st) h Q) : Ew k M pc ls (st) h Q := by
  obtain ⟨r, h', e, z⟩ := q
  exact ⟨r, h', e_aload hd hl hp e, z⟩
theorem we_astore_n {j : Fin 4} {x : Nat} (hd : decode (mC M) pc = .ok (.astore_n j, 1)) (hl : ev_s1 ls (j : Nat) (.ref x) = some ls1) (hp : pc + 1 = p) (q : Ew k M p ls1 (st) h Q) : Ew k M pc ls (.ref x :: st) h Q := by
  obtain ⟨r, h', e, z⟩ := q
  exact ⟨r, h', e_astore_n hd hl hp e, z⟩
theorem we_astore {j : Nat} {x : Nat} (hd : decode (mC M) pc = .ok (.astore j, 2)) (hl : ev_s1 ls j (.ref x) = some ls1) (hp : pc + 2 = p) (q : Ew k M p ls1 (st) h Q) : Ew k M pc ls (.ref x :: st) h Q := by
  obtain ⟨r, h', e, z⟩ := q
  exact ⟨r, h', e_astore hd hl hp e, z⟩
theorem we_iinc {j : Nat} {n : Int} {x : Int32} (hd : decode (mC M) pc = .ok (.iinc j n, 3)) (hg : ls[j]? = some (.int x)) (hl : ev_s1 ls j (.int (x + Int32.ofInt n)) = some ls1) (hp : pc + 3 = p) (q : Ew k M p ls1 (st) h Q) : Ew k M pc ls (st) h Q := by
  obtain ⟨r, h', e, z⟩ := q
  exact ⟨r, h', e_iinc hd hg hl hp e, z⟩
theorem we_dup_int {x : Int32} (hd : decode (mC M) pc = .ok (.dup, 1)) (hp : pc + 1 = p) (q : Ew k M p ls (.int x :: .int x :: st) h Q) : Ew k M pc ls (.int x :: st) h Q := by
  obtain ⟨r, h', e, z⟩ := q
  exact ⟨r, h', e_dup_int hd hp e, z⟩
theorem we_pop_int {x : Int32} (hd : decode (mC M) pc = .ok (.pop, 1)) (hp : pc + 1 = p) (q : Ew k M p ls (st) h Q) : Ew k M pc ls (.int x :: st) h Q := by
  obtain ⟨r, h', e, z⟩ := q
  exact ⟨r, h', e_pop_int hd hp e, z⟩
theorem we_dup_ref {x : Nat} (hd : decode (mC M) pc = .ok (.dup, 1)) (hp : pc + 1 = p) (q : Ew k M p ls (.ref x :: .ref x :: st) h Q) : Ew k M pc ls (.ref x :: st) h Q := by
  obtain ⟨r, h', e, z⟩ := q
  exact ⟨r, h', e_dup_ref hd hp e, z⟩
theorem we_pop_ref {x : Nat} (hd : decode (mC M) pc = .ok (.pop, 1)) (hp : pc + 1 = p) (q : Ew k M p ls (st) h Q) : Ew k M pc ls (.ref x :: st) h Q := by
  obtain ⟨r, h', e, z⟩ := q
  exact ⟨r, h', e_pop_ref hd hp e, z⟩
theorem we_dup2 {x : Int32} {y : Nat} (hd : decode (mC M) pc = .ok (.dup2, 1)) (hp : pc + 1 = p) (q : Ew k M p ls (.int x :: .ref y :: .int x :: .ref y :: st) h Q) : Ew k M pc ls (.int x :: .ref y :: st) h Q := by
  obtain ⟨r, h', e, z⟩ := q
  exact ⟨r, h', e_dup2 hd hp e, z⟩
theorem we_ldcI {x : Nat} {v : Int32} (hd : decode (mC M) pc = .ok (.ldc x, 2)) (hv : (ev_kil (mO M)).lookup x = some v) (hp : pc + 2 = p) (q : Ew k M p ls (.int v :: st) h Q) : Ew k M pc ls (st) h Q := by
  obtain ⟨r, h', e, z⟩ := q
  exact ⟨r, h', e_ldcI hd hv hp e, z⟩
theorem we_ldcwI {x : Nat} {v : Int32} (hd : decode (mC M) pc = .ok (.ldc_w x, 3)) (hv : (ev_kil (mO M)).lookup x = some v) (hp : pc + 3 = p) (q : Ew k M p ls (.int v :: st) h Q) : Ew k M pc ls (st) h Q := by
  obtain ⟨r, h', e, z⟩ := q
  exact ⟨r, h', e_ldcwI hd hv hp e, z⟩
theorem we_ldcS {x j : Nat} (hd : decode (mC M) pc = .ok (.ldc x, 2)) (hn : (ev_kil (mO M)).lookup x = none) (hv : (ev_stl (mO M)).lookup x = some j) (hp : pc + 2 = p) (q : Ew k M p ls (.ref (sp_S + j) :: st) h Q) : Ew k M pc ls (st) h Q := by
  obtain ⟨r, h', e, z⟩ := q
  exact ⟨r, h', e_ldcS hd hn hv hp e, z⟩
theorem we_ldcwS {x j : Nat} (hd : decode (mC M) pc = .ok (.ldc_w x, 3)) (hn : (ev_kil (mO M)).lookup x = none) (hv : (ev_stl (mO M)).lookup x = some j) (hp : pc + 3 = p) (q : Ew k M p ls (.ref (sp_S + j) :: st) h Q) : Ew k M pc ls (st) h Q := by
  obtain ⟨r, h', e, z⟩ := q
  exact ⟨r, h', e_ldcwS hd hn hv hp e, z⟩
theorem we_ldc2 {x : Nat} {v : Int64} (hd : decode (mC M) pc = .ok (.ldc2_w x, 3)) (hv : (ev_kll (mO M)).lookup x = some v) (hp : pc + 3 = p) (q : Ew k M p ls (.long v :: st) h Q) : Ew k M pc ls (st) h Q := by
  obtain ⟨r, h', e, z⟩ := q
  exact ⟨r, h', e_ldc2 hd hv hp e, z⟩
theorem we_iadd {x y : Int32} (hd : decode (mC M) pc = .ok (.iadd, 1)) (hp : pc + 1 = p) (q : Ew k M p ls (.int (x + y) :: st) h Q) : Ew k M pc ls (.int y :: .int x :: st) h Q := by
  obtain ⟨r, h', e, z⟩ := q
  exact ⟨r, h', e_iadd hd hp e, z⟩
theorem we_isub {x y : Int32} (hd : decode (mC M) pc = .ok (.isub, 1)) (hp : pc + 1 = p) (q : Ew k M p ls (.int (x - y) :: st) h Q) : Ew k M pc ls (.int y :: .int x :: st) h Q := by
  obtain ⟨r, h', e, z⟩ := q
  exact ⟨r, h', e_isub hd hp e, z⟩
theorem we_imul {x y : Int32} (hd : decode (mC M) pc = .ok (.imul, 1)) (hp : pc + 1 = p) (q : Ew k M p ls (.int (x * y) :: st) h Q) : Ew k M pc ls (.int y :: .int x :: st) h Q := by
  obtain ⟨r, h', e, z⟩ := q
  exact ⟨r, h', e_imul hd hp e, z⟩
theorem we_iand {x y : Int32} (hd : decode (mC M) pc = .ok (.iand, 1)) (hp : pc + 1 = p) (q : Ew k M p ls (.int (x &&& y) :: st) h Q) : Ew k M pc ls (.int y :: .int x :: st) h Q := by
  obtain ⟨r, h', e, z⟩ := q
  exact ⟨r, h', e_iand hd hp e, z⟩
theorem we_ior {x y : Int32} (hd : decode (mC M) pc = .ok (.ior, 1)) (hp : pc + 1 = p) (q : Ew k M p ls (.int (x ||| y) :: st) h Q) : Ew k M pc ls (.int y :: .int x :: st) h Q := by
  obtain ⟨r, h', e, z⟩ := q
  exact ⟨r, h', e_ior hd hp e, z⟩
theorem we_ixor {x y : Int32} (hd : decode (mC M) pc = .ok (.ixor, 1)) (hp : pc + 1 = p) (q : Ew k M p ls (.int (x ^^^ y) :: st) h Q) : Ew k M pc ls (.int y :: .int x :: st) h Q := by
  obtain ⟨r, h', e, z⟩ := q
  exact ⟨r, h', e_ixor hd hp e, z⟩
theorem we_ishl {x y : Int32} (hd : decode (mC M) pc = .ok (.ishl, 1)) (hp : pc + 1 = p) (q : Ew k M p ls (.int (x <<< (y &&& 31)) :: st) h Q) : Ew k M pc ls (.int y :: .int x :: st) h Q := by
  obtain ⟨r, h', e, z⟩ := q
  exact ⟨r, h', e_ishl hd hp e, z⟩
theorem we_ishr {x y : Int32} (hd : decode (mC M) pc = .ok (.ishr, 1)) (hp : pc + 1 = p) (q : Ew k M p ls (.int (x >>> (y &&& 31)) :: st) h Q) : Ew k M pc ls (.int y :: .int x :: st) h Q := by
  obtain ⟨r, h', e, z⟩ := q
  exact ⟨r, h', e_ishr hd hp e, z⟩
theorem we_iushr {x y : Int32} (hd : decode (mC M) pc = .ok (.iushr, 1)) (hp : pc + 1 = p) (q : Ew k M p ls (.int (x.toUInt32 >>> (y.toUInt32 &&& Int32.toUInt32 31)).toInt32 :: st) h Q) : Ew k M pc ls (.int y :: .int x :: st) h Q := by
  obtain ⟨r, h', e, z⟩ := q
  exact ⟨r, h', e_iushr hd hp e, z⟩
theorem we_idiv {x y : Int32} (hd : decode (mC M) pc = .ok (.idiv, 1)) (hn : ¬ y = 0) (hp : pc + 1 = p) (q : Ew k M p ls (.int (x / y) :: st) h Q) : Ew k M pc ls (.int y :: .int x :: st) h Q := by
  obtain ⟨r, h', e, z⟩ := q
  exact ⟨r, h', e_idiv hd hn hp e, z⟩
theorem we_irem {x y : Int32} (hd : decode (mC M) pc = .ok (.irem, 1)) (hn : ¬ y = 0) (hp : pc + 1 = p) (q : Ew k M p ls (.int (x - x / y * y) :: st) h Q) : Ew k M pc ls (.int y :: .int x :: st) h Q := by
  obtain ⟨r, h', e, z⟩ := q
  exact ⟨r, h', e_irem hd hn hp e, z⟩
theorem we_ladd {x y : Int64} (hd : decode (mC M) pc = .ok (.ladd, 1)) (hp : pc + 1 = p) (q : Ew k M p ls (.long (x + y) :: st) h Q) : Ew k M pc ls (.long y :: .long x :: st) h Q := by
  obtain ⟨r, h', e, z⟩ := q
  exact ⟨r, h', e_ladd hd hp e, z⟩
theorem we_lsub {x y : Int64} (hd : decode (mC M) pc = .ok (.lsub, 1)) (hp : pc + 1 = p) (q : Ew k M p ls (.long (x - y) :: st) h Q) : Ew k M pc ls (.long y :: .long x :: st) h Q := by
  obtain ⟨r, h', e, z⟩ := q
  exact ⟨r, h', e_lsub hd hp e, z⟩
theorem we_lmul {x y : Int64} (hd : decode (mC M) pc = .ok (.lmul, 1)) (hp : pc + 1 = p) (q : Ew k M p ls (.long (x * y) :: st) h Q) : Ew k M pc ls (.long y :: .long x :: st) h Q := by
  obtain ⟨r, h', e, z⟩ := q
  exact ⟨r, h', e_lmul hd hp e, z⟩
theorem we_ldiv {x y : Int64} (hd : decode (mC M) pc = .ok (.ldiv, 1)) (hn : ¬ y = 0) (hp : pc + 1 = p) (q : Ew k M p ls (.long (x / y) :: st) h Q) : Ew k M pc ls (.long y :: .long x :: st) h Q := by
  obtain ⟨r, h', e, z⟩ := q
  exact ⟨r, h', e_ldiv hd hn hp e, z⟩
theorem we_lrem {x y : Int64} (hd : decode (mC M) pc = .ok (.lrem, 1)) (hn : ¬ y = 0) (hp : pc + 1 = p) (q : Ew k M p ls (.long (x - x / y * y) :: st) h Q) : Ew k M pc ls (.long y :: .long x :: st) h Q := by
  obtain ⟨r, h', e, z⟩ := q
  exact ⟨r, h', e_lrem hd hn hp e, z⟩
theorem we_lcmp {x y : Int64} (hd : decode (mC M) pc = .ok (.lcmp, 1)) (hp : pc + 1 = p) (q : Ew k M p ls (.int (lg_cmp x y) :: st) h Q) : Ew k M pc ls (.long y :: .long x :: st) h Q := by
  obtain ⟨r, h', e, z⟩ := q
  exact ⟨r, h', e_lcmp hd hp e, z⟩
theorem we_i2l {x : Int32} (hd : decode (mC M) pc = .ok (.i2l, 1)) (hp : pc + 1 = p) (q : Ew k M p ls (.long x.toInt64 :: st) h Q) : Ew k M pc ls (.int x :: st) h Q := by
  obtain ⟨r, h', e, z⟩ := q
  exact ⟨r, h', e_i2l hd hp e, z⟩
theorem we_i2b {x : Int32} (hd : decode (mC M) pc = .ok (.i2b, 1)) (hp : pc + 1 = p) (q : Ew k M p ls (.int x.toInt8.toInt32 :: st) h Q) : Ew k M pc ls (.int x :: st) h Q := by
  obtain ⟨r, h', e, z⟩ := q
  exact ⟨r, h', e_i2b hd hp e, z⟩
theorem we_i2c {x : Int32} (hd : decode (mC M) pc = .ok (.i2c, 1)) (hp : pc + 1 = p) (q : Ew k M p ls (.int (x.toUInt32 % 65536).toInt32 :: st) h Q) : Ew k M pc ls (.int x :: st) h Q := by
  obtain ⟨r, h', e, z⟩ := q
  exact ⟨r, h', e_i2c hd hp e, z⟩
theorem we_goto {off : Int} (hd : decode (mC M) pc = .ok (.goto off, 3)) (h0 : 0 ≤ (pc : Int) + off) (hp : ev_tg pc off = p) (q : Ew k M p ls st h Q) : Ew k M pc ls st h Q := by
  obtain ⟨r, h', e, z⟩ := q
  exact ⟨r, h', e_goto hd h0 hp e, z⟩
theorem we_icmp_eq {x y : Int32} {off : Int} {t : Nat} (hd : decode (mC M) pc = .ok (.if_icmp .eq off, 3)) (h0 : 0 ≤ (pc : Int) + off) (ht : ev_tg pc off = t) (hp : pc + 3 = p) (qt : x = y → Ew k M t ls st h Q) (qf : ¬ x = y → Ew k M p ls st h Q) : Ew k M pc ls (.int y :: .int x :: st) h Q := by
  by_cases c : x = y
  · obtain ⟨r, h', e, z⟩ := qt c
    exact ⟨r, h', e_icmp_eq hd h0 ht hp (fun _ => e) (fun n => absurd c n), z⟩
  · obtain ⟨r, h', e, z⟩ := qf c
    exact ⟨r, h', e_icmp_eq hd h0 ht hp (fun n => absurd n c) (fun _ => e), z⟩
theorem we_if_eq {x : Int32} {off : Int} {t : Nat} (hd : decode (mC M) pc = .ok (.ifCond .eq off, 3)) (h0 : 0 ≤ (pc : Int) + off) (ht : ev_tg pc off = t) (hp : pc + 3 = p) (qt : x = 0 → Ew k M t ls st h Q) (qf : ¬ x = 0 → Ew k M p ls st h Q) : Ew k M pc ls (.int x :: st) h Q := by
  by_cases c : x = 0
  · obtain ⟨r, h', e, z⟩ := qt c
    exact ⟨r, h', e_if_eq hd h0 ht hp (fun _ => e) (fun n => absurd c n), z⟩
  · obtain ⟨r, h', e, z⟩ := qf c
    exact ⟨r, h', e_if_eq hd h0 ht hp (fun n => absurd n c) (fun _ => e), z⟩
theorem we_icmp_ne {x y : Int32} {off : Int} {t : Nat} (hd : decode (mC M) pc = .ok (.if_icmp .ne off, 3)) (h0 : 0 ≤ (pc : Int) + off) (ht : ev_tg pc off = t) (hp : pc + 3 = p) (qt : ¬ x = y → Ew k M t ls st h Q) (qf : x = y → Ew k M p ls st h Q) : Ew k M pc ls (.int y :: .int x :: st) h Q := by
  by_cases c : x = y
  · obtain ⟨r, h', e, z⟩ := qf c
    exact ⟨r, h', e_icmp_ne hd h0 ht hp (fun n => absurd c n) (fun _ => e), z⟩
  · obtain ⟨r, h', e, z⟩ := qt c
    exact ⟨r, h', e_icmp_ne hd h0 ht hp (fun _ => e) (fun n => absurd n c), z⟩
theorem we_if_ne {x : Int32} {off : Int} {t : Nat} (hd : decode (mC M) pc = .ok (.ifCond .ne off, 3)) (h0 : 0 ≤ (pc : Int) + off) (ht : ev_tg pc off = t) (hp : pc + 3 = p) (qt : ¬ x = 0 → Ew k M t ls st h Q) (qf : x = 0 → Ew k M p ls st h Q) : Ew k M pc ls (.int x :: st) h Q := by
  by_cases c : x = 0
  · obtain ⟨r, h', e, z⟩ := qf c
    exact ⟨r, h', e_if_ne hd h0 ht hp (fun n => absurd c n) (fun _ => e), z⟩
  · obtain ⟨r, h', e, z⟩ := qt c
    exact ⟨r, h', e_if_ne hd h0 ht hp (fun _ => e) (fun n => absurd n c), z⟩
theorem we_icmp_lt {x y : Int32} {off : Int} {t : Nat} (hd : decode (mC M) pc = .ok (.if_icmp .lt off, 3)) (h0 : 0 ≤ (pc : Int) + off) (ht : ev_tg pc off = t) (hp : pc + 3 = p) (qt : x < y → Ew k M t ls st h Q) (qf : ¬ x < y → Ew k M p ls st h Q) : Ew k M pc ls (.int y :: .int x :: st) h Q := by
  by_cases c : x < y
  · obtain ⟨r, h', e, z⟩ := qt c
    exact ⟨r, h', e_icmp_lt hd h0 ht hp (fun _ => e) (fun n => absurd c n), z⟩
  · obtain ⟨r, h', e, z⟩ := qf c
    exact ⟨r, h', e_icmp_lt hd h0 ht hp (fun n => absurd n c) (fun _ => e), z⟩
theorem we_if_lt {x : Int32} {off : Int} {t : Nat} (hd : decode (mC M) pc = .ok (.ifCond .lt off, 3)) (h0 : 0 ≤ (pc : Int) + off) (ht : ev_tg pc off = t) (hp : pc + 3 = p) (qt : x < 0 → Ew k M t ls st h Q) (qf : ¬ x < 0 → Ew k M p ls st h Q) : Ew k M pc ls (.int x :: st) h Q := by
  by_cases c : x < 0
  · obtain ⟨r, h', e, z⟩ := qt c
    exact ⟨r, h', e_if_lt hd h0 ht hp (fun _ => e) (fun n => absurd c n), z⟩
  · obtain ⟨r, h', e, z⟩ := qf c
    exact ⟨r, h', e_if_lt hd h0 ht hp (fun n => absurd n c) (fun _ => e), z⟩
theorem we_icmp_ge {x y : Int32} {off : Int} {t : Nat} (hd : decode (mC M) pc = .ok (.if_icmp .ge off, 3)) (h0 : 0 ≤ (pc : Int) + off) (ht : ev_tg pc off = t) (hp : pc + 3 = p) (qt : y ≤ x → Ew k M t ls st h Q) (qf : ¬ y ≤ x → Ew k M p ls st h Q) : Ew k M pc ls (.int y :: .int x :: st) h Q := by
  by_cases c : y ≤ x
  · obtain ⟨r, h', e, z⟩ := qt c
    exact ⟨r, h', e_icmp_ge hd h0 ht hp (fun _ => e) (fun n => absurd c n), z⟩
  · obtain ⟨r, h', e, z⟩ := qf c
    exact ⟨r, h', e_icmp_ge hd h0 ht hp (fun n => absurd n c) (fun _ => e), z⟩
theorem we_if_ge {x : Int32} {off : Int} {t : Nat} (hd : decode (mC M) pc = .ok (.ifCond .ge off, 3)) (h0 : 0 ≤ (pc : Int) + off) (ht : ev_tg pc off = t) (hp : pc + 3 = p) (qt : 0 ≤ x → Ew k M t ls st h Q) (qf : ¬ 0 ≤ x → Ew k M p ls st h Q) : Ew k M pc ls (.int x :: st) h Q := by
  by_cases c : 0 ≤ x
  · obtain ⟨r, h', e, z⟩ := qt c
    exact ⟨r, h', e_if_ge hd h0 ht hp (fun _ => e) (fun n => absurd c n), z⟩
  · obtain ⟨r, h', e, z⟩ := qf c
    exact ⟨r, h', e_if_ge hd h0 ht hp (fun n => absurd n c) (fun _ => e), z⟩
theorem we_icmp_gt {x y : Int32} {off : Int} {t : Nat} (hd : decode (mC M) pc = .ok (.if_icmp .gt off, 3)) (h0 : 0 ≤ (pc : Int) + off) (ht : ev_tg pc off = t) (hp : pc + 3 = p) (qt : y < x → Ew k M t ls st h Q) (qf : ¬ y < x → Ew k M p ls st h Q) : Ew k M pc ls (.int y :: .int x :: st) h Q := by
  by_cases c : y < x
  · obtain ⟨r, h', e, z⟩ := qt c
    exact ⟨r, h', e_icmp_gt hd h0 ht hp (fun _ => e) (fun n => absurd c n), z⟩
  · obtain ⟨r, h', e, z⟩ := qf c
    exact ⟨r, h', e_icmp_gt hd h0 ht hp (fun n => absurd n c) (fun _ => e), z⟩
theorem we_if_gt {x : Int32} {off : Int} {t : Nat} (hd : decode (mC M) pc = .ok (.ifCond .gt off, 3)) (h0 : 0 ≤ (pc : Int) + off) (ht : ev_tg pc off = t) (hp : pc + 3 = p) (qt : 0 < x → Ew k M t ls st h Q) (qf : ¬ 0 < x → Ew k M p ls st h Q) : Ew k M pc ls (.int x :: st) h Q := by
  by_cases c : 0 < x
  · obtain ⟨r, h', e, z⟩ := qt c
    exact ⟨r, h', e_if_gt hd h0 ht hp (fun _ => e) (fun n => absurd c n), z⟩
  · obtain ⟨r, h', e, z⟩ := qf c
    exact ⟨r, h', e_if_gt hd h0 ht hp (fun n => absurd n c) (fun _ => e), z⟩
theorem we_icmp_le {x y : Int32} {off : Int} {t : Nat} (hd : decode (mC M) pc = .ok (.if_icmp .le off, 3)) (h0 : 0 ≤ (pc : Int) + off) (ht : ev_tg pc off = t) (hp : pc + 3 = p) (qt : x ≤ y → Ew k M t ls st h Q) (qf : ¬ x ≤ y → Ew k M p ls st h Q) : Ew k M pc ls (.int y :: .int x :: st) h Q := by
  by_cases c : x ≤ y
  · obtain ⟨r, h', e, z⟩ := qt c
    exact ⟨r, h', e_icmp_le hd h0 ht hp (fun _ => e) (fun n => absurd c n), z⟩
  · obtain ⟨r, h', e, z⟩ := qf c
    exact ⟨r, h', e_icmp_le hd h0 ht hp (fun n => absurd n c) (fun _ => e), z⟩
theorem we_if_le {x : Int32} {off : Int} {t : Nat} (hd : decode (mC M) pc = .ok (.ifCond .le off, 3)) (h0 : 0 ≤ (pc : Int) + off) (ht : ev_tg pc off = t) (hp : pc + 3 = p) (qt : x ≤ 0 → Ew k M t ls st h Q) (qf : ¬ x ≤ 0 → Ew k M p ls st h Q) : Ew k M pc ls (.int x :: st) h Q := by
  by_cases c : x ≤ 0
  · obtain ⟨r, h', e, z⟩ := qt c
    exact ⟨r, h', e_if_le hd h0 ht hp (fun _ => e) (fun n => absurd c n), z⟩
  · obtain ⟨r, h', e, z⟩ := qf c
    exact ⟨r, h', e_if_le hd h0 ht hp (fun n => absurd n c) (fun _ => e), z⟩
theorem we_swOut {d lo hi : Int} {offs : Array Int} {len : Nat} {x : Int32} (hd : decode (mC M) pc = .ok (.tableswitch d lo hi offs, len)) (hc : x.toInt < lo ∨ hi < x.toInt) (h0 : 0 ≤ (pc : Int) + d) (hp : ev_tg pc d = p) (q : Ew k M p ls st h Q) : Ew k M pc ls (.int x :: st) h Q := by
  obtain ⟨r, h', e, z⟩ := q
  exact ⟨r, h', e_swOut hd hc h0 hp e, z⟩
theorem we_swIn {d lo hi off : Int} {offs : Array Int} {len : Nat} {x : Int32} (hd : decode (mC M) pc = .ok (.tableswitch d lo hi offs, len)) (hc : ¬ (x.toInt < lo ∨ hi < x.toInt)) (ho : offs[(x.toInt - lo).toNat]? = some off) (h0 : 0 ≤ (pc : Int) + off) (hp : ev_tg pc off = p) (q : Ew k M p ls st h Q) : Ew k M pc ls (.int x :: st) h Q := by
  obtain ⟨r, h', e, z⟩ := q
  exact ⟨r, h', e_swIn hd hc ho h0 hp e, z⟩
theorem we_getI {x c j n a : Nat} (hd : decode (mC M) pc = .ok (.getfield x, 3)) (hf : ev_ft (mO M) x = some (c, j)) (hk : S.1[a]? = some (c, n)) (ha : a < 1000000) (hj : j < n) (ht : ev_fk c j = 0 ∨ ev_fk c j = 3) (hp : pc + 3 = p) (q : Ew k M p ls (.int (I a j) :: st) (S, I, J, F) Q) : Ew k M pc ls (.ref a :: st) (S, I, J, F) Q := by
  obtain ⟨r, h', e, z⟩ := q
  exact ⟨r, h', e_getI hd hf hk ha hj ht hp e, z⟩
theorem we_getJ {x c j n a : Nat} (hd : decode (mC M) pc = .ok (.getfield x, 3)) (hf : ev_ft (mO M) x = some (c, j)) (hk : S.1[a]? = some (c, n)) (ha : a < 1000000) (hj : j < n) (ht : ev_fk c j = 1) (hp : pc + 3 = p) (q : Ew k M p ls (.long (J a j) :: st) (S, I, J, F) Q) : Ew k M pc ls (.ref a :: st) (S, I, J, F) Q := by
  obtain ⟨r, h', e, z⟩ := q
  exact ⟨r, h', e_getJ hd hf hk ha hj ht hp e, z⟩
theorem we_getR {x c j n a b : Nat} (hd : decode (mC M) pc = .ok (.getfield x, 3)) (hf : ev_ft (mO M) x = some (c, j)) (hk : S.1[a]? = some (c, n)) (ha : a < 1000000) (hj : j < n) (ht : ev_fk c j = 2) (hb : F a j = some b) (hp : pc + 3 = p) (q : Ew k M p ls (.ref b :: st) (S, I, J, F) Q) : Ew k M pc ls (.ref a :: st) (S, I, J, F) Q := by
  obtain ⟨r, h', e, z⟩ := q
  exact ⟨r, h', e_getR hd hf hk ha hj ht hb hp e, z⟩
theorem we_putI {x c j n a : Nat} {v : Int32} (hd : decode (mC M) pc = .ok (.putfield x, 3)) (hf : ev_ft (mO M) x = some (c, j)) (hk : S.1[a]? = some (c, n)) (ha : a < 1000000) (hj : j < n) (ht : ev_fk c j = 0) (hn : ev_fn c j = false) (hp : pc + 3 = p) (q : Ew k M p ls st (S, hp_u I a j v, J, F) Q) : Ew k M pc ls (.int v :: .ref a :: st) (S, I, J, F) Q := by
  obtain ⟨r, h', e, z⟩ := q
  exact ⟨r, h', e_putI hd hf hk ha hj ht hn hp e, z⟩
theorem we_putZ {x c j n a : Nat} {v : Int32} (hd : decode (mC M) pc = .ok (.putfield x, 3)) (hf : ev_ft (mO M) x = some (c, j)) (hk : S.1[a]? = some (c, n)) (ha : a < 1000000) (hj : j < n) (ht : ev_fk c j = 3) (hn : ev_fn c j = false) (hz : fits .boolean (.int v) = true ∧ narrow .boolean (.int v) = .int v) (hp : pc + 3 = p) (q : Ew k M p ls st (S, hp_u I a j v, J, F) Q) : Ew k M pc ls (.int v :: .ref a :: st) (S, I, J, F) Q := by
  obtain ⟨r, h', e, z⟩ := q
  exact ⟨r, h', e_putZ hd hf hk ha hj ht hn hz hp e, z⟩
theorem we_putJ {x c j n a : Nat} {v : Int64} (hd : decode (mC M) pc = .ok (.putfield x, 3)) (hf : ev_ft (mO M) x = some (c, j)) (hk : S.1[a]? = some (c, n)) (ha : a < 1000000) (hj : j < n) (ht : ev_fk c j = 1) (hn : ev_fn c j = false) (hp : pc + 3 = p) (q : Ew k M p ls st (S, I, hp_u J a j v, F) Q) : Ew k M pc ls (.long v :: .ref a :: st) (S, I, J, F) Q := by
  obtain ⟨r, h', e, z⟩ := q
  exact ⟨r, h', e_putJ hd hf hk ha hj ht hn hp e, z⟩
theorem we_putR {x c j n a b : Nat} (hd : decode (mC M) pc = .ok (.putfield x, 3)) (hf : ev_ft (mO M) x = some (c, j)) (hk : S.1[a]? = some (c, n)) (ha : a < 1000000) (hj : j < n) (ht : ev_fk c j = 2) (hn : ev_fn c j = true → (mY M).name = "<init>" ∧ mO M = c) (hb : b < S.1.length) (hp : pc + 3 = p) (q : Ew k M p ls st (S, I, J, hp_u F a j (some b)) Q) : Ew k M pc ls (.ref b :: .ref a :: st) (S, I, J, F) Q := by
  obtain ⟨r, h', e, z⟩ := q
  exact ⟨r, h', e_putR hd hf hk ha hj ht hn hb hp e, z⟩
theorem we_iald {a n : Nat} {x : Int32} (hd : decode (mC M) pc = .ok (.iaload, 1)) (hk : S.1[a]? = some (12, n)) (ha : a < 1000000) (hi : ev_in x n = true) (hp : pc + 1 = p) (q : Ew k M p ls (.int (I a x.toNatClampNeg) :: st) (S, I, J, F) Q) : Ew k M pc ls (.int x :: .ref a :: st) (S, I, J, F) Q := by
  obtain ⟨r, h', e, z⟩ := q
  exact ⟨r, h', e_iald hd hk ha hi hp e, z⟩
theorem we_room {x : Int32} (hd : decode (mC M) pc = .ok (.iaload, 1)) (hi : ev_in x 7 = true) (hp : pc + 1 = p) (q : Ew k M p ls (.int (ev_room.getD x.toNatClampNeg 0) :: st) (S, I, J, F) Q) : Ew k M pc ls (.int x :: .ref sp_R :: st) (S, I, J, F) Q := by
  obtain ⟨r, h', e, z⟩ := q
  exact ⟨r, h', e_room hd hi hp e, z⟩
theorem we_scr {x : Int32} {n : Nat} (hd : decode (mC M) pc = .ok (.iaload, 1)) (hn : F sp_X 0 = some n) (hi : ev_in x n = true) (hp : pc + 1 = p) (q : Ew k M p ls (.int (I sp_X x.toNatClampNeg) :: st) (S, I, J, F) Q) : Ew k M pc ls (.int x :: .ref sp_X :: st) (S, I, J, F) Q := by
  obtain ⟨r, h', e, z⟩ := q
  exact ⟨r, h', e_scr hd hn hi hp e, z⟩
theorem we_bald {a n : Nat} {x : Int32} (hd : decode (mC M) pc = .ok (.baload, 1)) (hk : S.1[a]? = some (14, n)) (ha : a < 1000000) (hi : ev_in x n = true) (hp : pc + 1 = p) (q : Ew k M p ls (.int (I a x.toNatClampNeg) :: st) (S, I, J, F) Q) : Ew k M pc ls (.int x :: .ref a :: st) (S, I, J, F) Q := by
  obtain ⟨r, h', e, z⟩ := q
  exact ⟨r, h', e_bald hd hk ha hi hp e, z⟩
theorem we_sbald {j : Nat} {x : Int32} (hd : decode (mC M) pc = .ok (.baload, 1)) (hj : j < 27) (hi : ev_in x (ev_sb j).length = true) (hp : pc + 1 = p) (q : Ew k M p ls (.int ((ev_sb j).getD x.toNatClampNeg 0) :: st) h Q) : Ew k M pc ls (.int x :: .ref (sp_V + j) :: st) h Q := by
  obtain ⟨r, h', e, z⟩ := q
  exact ⟨r, h', e_sbald hd hj hi hp e, z⟩
theorem we_lald {a n : Nat} {x : Int32} (hd : decode (mC M) pc = .ok (.laload, 1)) (hk : S.1[a]? = some (13, n)) (hi : ev_in x n = true) (hp : pc + 1 = p) (q : Ew k M p ls (.long (J a x.toNatClampNeg) :: st) (S, I, J, F) Q) : Ew k M pc ls (.int x :: .ref a :: st) (S, I, J, F) Q := by
  obtain ⟨r, h', e, z⟩ := q
  exact ⟨r, h', e_lald hd hk hi hp e, z⟩
theorem we_aald {a n c b : Nat} {x : Int32} (hd : decode (mC M) pc = .ok (.aaload, 1)) (hk : S.1[a]? = some (c, n)) (hc : c = 15 ∨ c = 16 ∨ c = 17) (hi : ev_in x n = true) (hb : F a x.toNatClampNeg = some b) (hp : pc + 1 = p) (q : Ew k M p ls (.ref b :: st) (S, I, J, F) Q) : Ew k M pc ls (.int x :: .ref a :: st) (S, I, J, F) Q := by
  obtain ⟨r, h', e, z⟩ := q
  exact ⟨r, h', e_aald hd hk hc hi hb hp e, z⟩
theorem we_iast {a n : Nat} {x v : Int32} (hd : decode (mC M) pc = .ok (.iastore, 1)) (hk : S.1[a]? = some (12, n)) (ha : a < 1000000) (hi : ev_in x n = true) (hp : pc + 1 = p) (q : Ew k M p ls st (S, hp_u I a x.toNatClampNeg v, J, F) Q) : Ew k M pc ls (.int v :: .int x :: .ref a :: st) (S, I, J, F) Q := by
  obtain ⟨r, h', e, z⟩ := q
  exact ⟨r, h', e_iast hd hk ha hi hp e, z⟩
theorem we_bast {a n : Nat} {x v : Int32} (hd : decode (mC M) pc = .ok (.bastore, 1)) (hk : S.1[a]? = some (14, n)) (ha : a < 1000000) (hi : ev_in x n = true) (hp : pc + 1 = p) (q : Ew k M p ls st (S, hp_u I a x.toNatClampNeg v.toInt8.toInt32, J, F) Q) : Ew k M pc ls (.int v :: .int x :: .ref a :: st) (S, I, J, F) Q := by
  obtain ⟨r, h', e, z⟩ := q
  exact ⟨r, h', e_bast hd hk ha hi hp e, z⟩
theorem we_last {a n : Nat} {x : Int32} {v : Int64} (hd : decode (mC M) pc = .ok (.lastore, 1)) (hk : S.1[a]? = some (13, n)) (ha : a < 1000000) (hi : ev_in x n = true) (hp : pc + 1 = p) (q : Ew k M p ls st (S, I, hp_u J a x.toNatClampNeg v, F) Q) : Ew k M pc ls (.long v :: .int x :: .ref a :: st) (S, I, J, F) Q := by
  obtain ⟨r, h', e, z⟩ := q
  exact ⟨r, h', e_last hd hk ha hi hp e, z⟩
theorem we_aast {a n b n2 : Nat} {x : Int32} (hd : decode (mC M) pc = .ok (.aastore, 1)) (hk : S.1[a]? = some (15, n)) (hb : S.1[b]? = some (3, n2)) (ha : a < 1000000) (hi : ev_in x n = true) (hp : pc + 1 = p) (q : Ew k M p ls st (S, I, J, hp_u F a x.toNatClampNeg (some b)) Q) : Ew k M pc ls (.ref b :: .int x :: .ref a :: st) (S, I, J, F) Q := by
  obtain ⟨r, h', e, z⟩ := q
  exact ⟨r, h', e_aast hd hk hb ha hi hp e, z⟩
theorem we_alen {a n c : Nat} {v : Int32} (hd : decode (mC M) pc = .ok (.arraylength, 1)) (hk : S.1[a]? = some (c, n)) (ha : a < 1000000) (hc : 12 ≤ c ∧ c < 18) (hv : Int32.ofNat n = v) (hp : pc + 1 = p) (q : Ew k M p ls (.int v :: st) (S, I, J, F) Q) : Ew k M pc ls (.ref a :: st) (S, I, J, F) Q := by
  obtain ⟨r, h', e, z⟩ := q
  exact ⟨r, h', e_alen hd hk ha hc hv hp e, z⟩
theorem we_rlen (hd : decode (mC M) pc = .ok (.arraylength, 1)) (hp : pc + 1 = p) (q : Ew k M p ls (.int 7 :: st) h Q) : Ew k M pc ls (.ref sp_R :: st) h Q := by
  obtain ⟨r, h', e, z⟩ := q
  exact ⟨r, h', e_rlen hd hp e, z⟩
theorem we_xlen {n : Nat} (hd : decode (mC M) pc = .ok (.arraylength, 1)) (hn : F sp_X 0 = some n) (hp : pc + 1 = p) (q : Ew k M p ls (.int (Int32.ofNat n) :: st) (S, I, J, F) Q) : Ew k M pc ls (.ref sp_X :: st) (S, I, J, F) Q := by
  obtain ⟨r, h', e, z⟩ := q
  exact ⟨r, h', e_xlen hd hn hp e, z⟩
theorem we_vlen {j : Nat} (hd : decode (mC M) pc = .ok (.arraylength, 1)) (hj : j < 27) (hp : pc + 1 = p) (q : Ew k M p ls (.int (Int32.ofNat (ev_sb j).length) :: st) h Q) : Ew k M pc ls (.ref (sp_V + j) :: st) h Q := by
  obtain ⟨r, h', e, z⟩ := q
  exact ⟨r, h', e_vlen hd hj hp e, z⟩
theorem we_sval {j : Nat} (hd : decode (mC M) pc = .ok (.getfield 9, 3)) (hM : mO M = 14) (hj : j < 27) (hp : pc + 3 = p) (q : Ew k M p ls (.ref (sp_V + j) :: st) h Q) : Ew k M pc ls (.ref (sp_S + j) :: st) h Q := by
  obtain ⟨r, h', e, z⟩ := q
  exact ⟨r, h', e_sval hd hM hj hp e, z⟩
theorem we_scod {j : Nat} (hd : decode (mC M) pc = .ok (.getfield 15, 3)) (hM : mO M = 14) (hj : j < 27) (hp : pc + 3 = p) (q : Ew k M p ls (.int 0 :: st) h Q) : Ew k M pc ls (.ref (sp_S + j) :: st) h Q := by
  obtain ⟨r, h', e, z⟩ := q
  exact ⟨r, h', e_scod hd hM hj hp e, z⟩
theorem we_statR {x : Nat} {u : Unit} (hd : decode (mC M) pc = .ok (.getstatic x, 3)) (hx : (ev_rml (mO M)).lookup x = some u) (hp : pc + 3 = p) (q : Ew k M p ls (.ref sp_R :: st) h Q) : Ew k M pc ls st h Q := by
  obtain ⟨r, h', e, z⟩ := q
  exact ⟨r, h', e_statR hd hx hp e, z⟩
theorem we_statC (hd : decode (mC M) pc = .ok (.getstatic 38, 3)) (hM : mO M = 14) (hp : pc + 3 = p) (q : Ew k M p ls (.int 1 :: st) h Q) : Ew k M pc ls st h Q := by
  obtain ⟨r, h', e, z⟩ := q
  exact ⟨r, h', e_statC hd hM hp e, z⟩
theorem we_oinit {x a : Nat} {u : Unit} (hd : decode (mC M) pc = .ok (.invokespecial x, 3)) (hx : (ev_oil (mO M)).lookup x = some u) (hc : (st.map fun v => v.category).sum ≤ 9) (hp : pc + 3 = p) (q : Ew k M p ls st h Q) : Ew k M pc ls (.ref a :: st) h Q := by
  obtain ⟨r, h', e, z⟩ := q
  exact ⟨r, h', e_oinit hd hx hc hp e, z⟩
theorem we_max {x : Nat} {a b : Int32} (hd : decode (mC M) pc = .ok (.invokestatic x, 3)) (hx : ev_pr (mO M) x = some 1) (hc : (st.map fun v => v.category).sum ≤ 9) (hp : pc + 3 = p) (q : Ew k M p ls (.int (if a < b then b else a) :: st) h Q) : Ew k M pc ls (.int b :: .int a :: st) h Q := by
  obtain ⟨r, h', e, z⟩ := q
  exact ⟨r, h', e_max hd hx hc hp e, z⟩
theorem we_min {x : Nat} {a b : Int32} (hd : decode (mC M) pc = .ok (.invokestatic x, 3)) (hx : ev_pr (mO M) x = some 2) (hc : (st.map fun v => v.category).sum ≤ 9) (hp : pc + 3 = p) (q : Ew k M p ls (.int (if b < a then b else a) :: st) h Q) : Ew k M pc ls (.int b :: .int a :: st) h Q := by
  obtain ⟨r, h', e, z⟩ := q
  exact ⟨r, h', e_min hd hx hc hp e, z⟩
theorem we_cki {x : Nat} {a b : Int32} (hd : decode (mC M) pc = .ok (.invokestatic x, 3)) (hx : ev_pr (mO M) x = some 3) (hc : (st.map fun v => v.category).sum ≤ 9) (h1 : ¬ a < 0) (h2 : a < b) (hp : pc + 3 = p) (q : Ew k M p ls st h Q) : Ew k M pc ls (.int b :: .int a :: st) h Q := by
  obtain ⟨r, h', e, z⟩ := q
  exact ⟨r, h', e_cki hd hx hc h1 h2 hp e, z⟩
theorem we_new {x c n : Nat} (hd : decode (mC M) pc = .ok (.new x, 3)) (hx : ev_nw (mO M) x = some c) (hn : ev_nf.getD c 0 = n) (hl : S.1.length < 900000) (hv : ev_vs S.1.length ls st = true) (hp : pc + 3 = p) (q : Ew k M p ls (.ref S.1.length :: st) (hp_new (S, I, J, F) c n) Q) : Ew k M pc ls st (S, I, J, F) Q := by
  obtain ⟨r, h', e, z⟩ := q
  exact ⟨r, h', e_new hd hx hn hl hv hp e, z⟩
theorem we_newI {n : Int32} (hd : decode (mC M) pc = .ok (.newarray .int, 2)) (h0 : ¬ n < 0) (hN : n.toNatClampNeg ≤ 10000) (hl : S.1.length < 900000) (hv : ev_vs S.1.length ls st = true) (hp : pc + 2 = p) (q : Ew k M p ls (.ref S.1.length :: st) (hp_new (S, I, J, F) 12 n.toNatClampNeg) Q) : Ew k M pc ls (.int n :: st) (S, I, J, F) Q := by
  obtain ⟨r, h', e, z⟩ := q
  exact ⟨r, h', e_newI hd h0 hN hl hv hp e, z⟩
theorem we_newJ {n : Int32} (hd : decode (mC M) pc = .ok (.newarray .long, 2)) (h0 : ¬ n < 0) (hN : n.toNatClampNeg ≤ 10000) (hl : S.1.length < 900000) (hv : ev_vs S.1.length ls st = true) (hp : pc + 2 = p) (q : Ew k M p ls (.ref S.1.length :: st) (hp_new (S, I, J, F) 13 n.toNatClampNeg) Q) : Ew k M pc ls (.int n :: st) (S, I, J, F) Q := by
  obtain ⟨r, h', e, z⟩ := q
  exact ⟨r, h', e_newJ hd h0 hN hl hv hp e, z⟩
theorem we_newB {n : Int32} (hd : decode (mC M) pc = .ok (.newarray .byte, 2)) (h0 : ¬ n < 0) (hN : n.toNatClampNeg ≤ 10000) (hl : S.1.length < 900000) (hv : ev_vs S.1.length ls st = true) (hp : pc + 2 = p) (q : Ew k M p ls (.ref S.1.length :: st) (hp_new (S, I, J, F) 14 n.toNatClampNeg) Q) : Ew k M pc ls (.int n :: st) (S, I, J, F) Q := by
  obtain ⟨r, h', e, z⟩ := q
  exact ⟨r, h', e_newB hd h0 hN hl hv hp e, z⟩
theorem we_callV {k' x : Nat} {M' : ev_M} {a rr : List Value} {h1 : hp_H} {v : Option Value} (hd : decode (mC M) pc = .ok (.invokevirtual x, 3)) (hc : ev_ct (mO M) x = some (0, M')) (ha : (st.take (ev_na M')).reverse = a) (hrr : st.drop (ev_na M') = rr) (hn : a.length = ev_na M') (hrc : ev_rc M' h a = true) (hcat : (rr.map fun v => v.category).sum ≤ 9) (hmx : (ev_en a).length ≤ mX M') (hk' : k' + 1 ≤ k) (hcall : Ev k' M' 0 (ev_entry a (mX M')) [] h v h1) (hv : v ≠ some .null) (hvs : h1.1.2.1 = h.1.2.1 ∨ ev_vs (hp_sh h).length ls rr = true) (hp : pc + 3 = p) (q : Ew k M p ls (v.toList ++ rr) h1 Q) : Ew k M pc ls st h Q := by
  obtain ⟨r, h', e, z⟩ := q
  exact ⟨r, h', e_callV hd hc ha hrr hn hrc hcat hmx hk' hcall hv hvs hp e, z⟩
theorem we_callS {k' x : Nat} {M' : ev_M} {a rr : List Value} {h1 : hp_H} {v : Option Value} (hd : decode (mC M) pc = .ok (.invokestatic x, 3)) (hpn : ev_pr (mO M) x = none) (hc : ev_ct (mO M) x = some (1, M')) (ha : (st.take (ev_na M')).reverse = a) (hrr : st.drop (ev_na M') = rr) (hn : a.length = ev_na M') (hrc : ev_rc M' h a = true) (hcat : (rr.map fun v => v.category).sum ≤ 9) (hmx : (ev_en a).length ≤ mX M') (hk' : k' + 1 ≤ k) (hcall : Ev k' M' 0 (ev_entry a (mX M')) [] h v h1) (hv : v ≠ some .null) (hvs : h1.1.2.1 = h.1.2.1 ∨ ev_vs (hp_sh h).length ls rr = true) (hp : pc + 3 = p) (q : Ew k M p ls (v.toList ++ rr) h1 Q) : Ew k M pc ls st h Q := by
  obtain ⟨r, h', e, z⟩ := q
  exact ⟨r, h', e_callS hd hpn hc ha hrr hn hrc hcat hmx hk' hcall hv hvs hp e, z⟩
theorem we_callI {k' x kd : Nat} {M' : ev_M} {a rr : List Value} {h1 : hp_H} {v : Option Value} (hd : decode (mC M) pc = .ok (.invokespecial x, 3)) (hpn : (ev_oil (mO M)).lookup x = none) (hc : ev_ct (mO M) x = some (kd, M')) (hkd : kd = 2 ∨ kd = 3) (ha : (st.take (ev_na M')).reverse = a) (hrr : st.drop (ev_na M') = rr) (hn : a.length = ev_na M') (hrc : ev_rc M' h a = true) (hcat : (rr.map fun v => v.category).sum ≤ 9) (hmx : (ev_en a).length ≤ mX M') (hk' : k' + 1 ≤ k) (hcall : Ev k' M' 0 (ev_entry a (mX M')) [] h v h1) (hv : v ≠ some .null) (hvs : h1.1.2.1 = h.1.2.1 ∨ ev_vs (hp_sh h).length ls rr = true) (hp : pc + 3 = p) (q : Ew k M p ls (v.toList ++ rr) h1 Q) : Ew k M pc ls st h Q := by
  obtain ⟨r, h', e, z⟩ := q
  exact ⟨r, h', e_callI hd hpn hc hkd ha hrr hn hrc hcat hmx hk' hcall hv hvs hp e, z⟩
theorem wf_iald {a n i : Nat} {x v : Int32} (hd : decode (mC M) pc = .ok (.iaload, 1)) (hk : S.1[a]? = some (12, n)) (ha : a < 1000000) (hi : ev_in x n = true) (hx : x.toNatClampNeg = i) (hv : I a i = v) (hp : pc + 1 = p) (q : Ew k M p ls (.int v :: st) (S, I, J, F) Q) : Ew k M pc ls (.int x :: .ref a :: st) (S, I, J, F) Q := by
  obtain ⟨r, h', e, z⟩ := q
  exact ⟨r, h', f_iald hd hk ha hi hx hv hp e, z⟩
theorem wf_getI {x c j n a : Nat} {v : Int32} (hd : decode (mC M) pc = .ok (.getfield x, 3)) (hf : ev_ft (mO M) x = some (c, j)) (hk : S.1[a]? = some (c, n)) (ha : a < 1000000) (hj : j < n) (ht : ev_fk c j = 0 ∨ ev_fk c j = 3) (hv : I a j = v) (hp : pc + 3 = p) (q : Ew k M p ls (.int v :: st) (S, I, J, F) Q) : Ew k M pc ls (.ref a :: st) (S, I, J, F) Q := by
  obtain ⟨r, h', e, z⟩ := q
  exact ⟨r, h', f_getI hd hf hk ha hj ht hv hp e, z⟩
theorem wf_bald {a n i : Nat} {x : Int32} (hd : decode (mC M) pc = .ok (.baload, 1)) (hk : S.1[a]? = some (14, n)) (ha : a < 1000000) (hi : ev_in x n = true) (hx : x.toNatClampNeg = i) (hp : pc + 1 = p) (q : Ew k M p ls (.int (I a i) :: st) (S, I, J, F) Q) : Ew k M pc ls (.int x :: .ref a :: st) (S, I, J, F) Q := by
  obtain ⟨r, h', e, z⟩ := q
  exact ⟨r, h', f_bald hd hk ha hi hx hp e, z⟩
theorem wf_lald {a n i : Nat} {x : Int32} (hd : decode (mC M) pc = .ok (.laload, 1)) (hk : S.1[a]? = some (13, n)) (hi : ev_in x n = true) (hx : x.toNatClampNeg = i) (hp : pc + 1 = p) (q : Ew k M p ls (.long (J a i) :: st) (S, I, J, F) Q) : Ew k M pc ls (.int x :: .ref a :: st) (S, I, J, F) Q := by
  obtain ⟨r, h', e, z⟩ := q
  exact ⟨r, h', f_lald hd hk hi hx hp e, z⟩
theorem wf_aald {a n c b i : Nat} {x : Int32} (hd : decode (mC M) pc = .ok (.aaload, 1)) (hk : S.1[a]? = some (c, n)) (hc : c = 15 ∨ c = 16 ∨ c = 17) (hi : ev_in x n = true) (hx : x.toNatClampNeg = i) (hb : F a i = some b) (hp : pc + 1 = p) (q : Ew k M p ls (.ref b :: st) (S, I, J, F) Q) : Ew k M pc ls (.int x :: .ref a :: st) (S, I, J, F) Q := by
  obtain ⟨r, h', e, z⟩ := q
  exact ⟨r, h', f_aald hd hk hc hi hx hb hp e, z⟩
theorem wf_iast {a n i : Nat} {x v : Int32} (hd : decode (mC M) pc = .ok (.iastore, 1)) (hk : S.1[a]? = some (12, n)) (ha : a < 1000000) (hi : ev_in x n = true) (hx : x.toNatClampNeg = i) (hp : pc + 1 = p) (q : Ew k M p ls st (S, hp_u I a i v, J, F) Q) : Ew k M pc ls (.int v :: .int x :: .ref a :: st) (S, I, J, F) Q := by
  obtain ⟨r, h', e, z⟩ := q
  exact ⟨r, h', f_iast hd hk ha hi hx hp e, z⟩
theorem wf_bast {a n i : Nat} {x v : Int32} (hd : decode (mC M) pc = .ok (.bastore, 1)) (hk : S.1[a]? = some (14, n)) (ha : a < 1000000) (hi : ev_in x n = true) (hx : x.toNatClampNeg = i) (hp : pc + 1 = p) (q : Ew k M p ls st (S, hp_u I a i v.toInt8.toInt32, J, F) Q) : Ew k M pc ls (.int v :: .int x :: .ref a :: st) (S, I, J, F) Q := by
  obtain ⟨r, h', e, z⟩ := q
  exact ⟨r, h', f_bast hd hk ha hi hx hp e, z⟩
theorem wf_last {a n i : Nat} {x : Int32} {v : Int64} (hd : decode (mC M) pc = .ok (.lastore, 1)) (hk : S.1[a]? = some (13, n)) (ha : a < 1000000) (hi : ev_in x n = true) (hx : x.toNatClampNeg = i) (hp : pc + 1 = p) (q : Ew k M p ls st (S, I, hp_u J a i v, F) Q) : Ew k M pc ls (.long v :: .int x :: .ref a :: st) (S, I, J, F) Q := by
  obtain ⟨r, h', e, z⟩ := q
  exact ⟨r, h', f_last hd hk ha hi hx hp e, z⟩
theorem wf_aast {a n b n2 i : Nat} {x : Int32} (hd : decode (mC M) pc = .ok (.aastore, 1)) (hk : S.1[a]? = some (15, n)) (hb : S.1[b]? = some (3, n2)) (ha : a < 1000000) (hi : ev_in x n = true) (hx : x.toNatClampNeg = i) (hp : pc + 1 = p) (q : Ew k M p ls st (S, I, J, hp_u F a i (some b)) Q) : Ew k M pc ls (.ref b :: .int x :: .ref a :: st) (S, I, J, F) Q := by
  obtain ⟨r, h', e, z⟩ := q
  exact ⟨r, h', f_aast hd hk hb ha hi hx hp e, z⟩
theorem wf_room {x v : Int32} (hd : decode (mC M) pc = .ok (.iaload, 1)) (hi : ev_in x 7 = true) (hv : ev_room.getD x.toNatClampNeg 0 = v) (hp : pc + 1 = p) (q : Ew k M p ls (.int v :: st) (S, I, J, F) Q) : Ew k M pc ls (.int x :: .ref sp_R :: st) (S, I, J, F) Q := by
  obtain ⟨r, h', e, z⟩ := q
  exact ⟨r, h', f_room hd hi hv hp e, z⟩
theorem wf_scr {x : Int32} {n i : Nat} (hd : decode (mC M) pc = .ok (.iaload, 1)) (hn : F sp_X 0 = some n) (hi : ev_in x n = true) (hx : x.toNatClampNeg = i) (hp : pc + 1 = p) (q : Ew k M p ls (.int (I sp_X i) :: st) (S, I, J, F) Q) : Ew k M pc ls (.int x :: .ref sp_X :: st) (S, I, J, F) Q := by
  obtain ⟨r, h', e, z⟩ := q
  exact ⟨r, h', f_scr hd hn hi hx hp e, z⟩
theorem we_callV_int {k' x : Nat} {M' : ev_M} {a rr : List Value} {h1 : hp_H} {v : Int32} (hd : decode (mC M) pc = .ok (.invokevirtual x, 3)) (hc : ev_ct (mO M) x = some (0, M')) (ha : (st.take (ev_na M')).reverse = a) (hrr : st.drop (ev_na M') = rr) (hn : a.length = ev_na M') (hrc : ev_rc M' h a = true) (hcat : (rr.map fun v => v.category).sum ≤ 9) (hmx : (ev_en a).length ≤ mX M') (hk' : k' + 1 ≤ k) (hcall : Ev k' M' 0 (ev_entry a (mX M')) [] h (some (.int v)) h1) (hvs : h1.1.2.1 = h.1.2.1 ∨ ev_vs (hp_sh h).length ls rr = true) (hp : pc + 3 = p) (q : Ew k M p ls (.int v :: rr) h1 Q) : Ew k M pc ls st h Q := by
  obtain ⟨r, h', e, z⟩ := q
  exact ⟨r, h', e_callV_int hd hc ha hrr hn hrc hcat hmx hk' hcall hvs hp e, z⟩
theorem we_callV_long {k' x : Nat} {M' : ev_M} {a rr : List Value} {h1 : hp_H} {v : Int64} (hd : decode (mC M) pc = .ok (.invokevirtual x, 3)) (hc : ev_ct (mO M) x = some (0, M')) (ha : (st.take (ev_na M')).reverse = a) (hrr : st.drop (ev_na M') = rr) (hn : a.length = ev_na M') (hrc : ev_rc M' h a = true) (hcat : (rr.map fun v => v.category).sum ≤ 9) (hmx : (ev_en a).length ≤ mX M') (hk' : k' + 1 ≤ k) (hcall : Ev k' M' 0 (ev_entry a (mX M')) [] h (some (.long v)) h1) (hvs : h1.1.2.1 = h.1.2.1 ∨ ev_vs (hp_sh h).length ls rr = true) (hp : pc + 3 = p) (q : Ew k M p ls (.long v :: rr) h1 Q) : Ew k M pc ls st h Q := by
  obtain ⟨r, h', e, z⟩ := q
  exact ⟨r, h', e_callV_long hd hc ha hrr hn hrc hcat hmx hk' hcall hvs hp e, z⟩
theorem we_callV_v {k' x : Nat} {M' : ev_M} {a rr : List Value} {h1 : hp_H} (hd : decode (mC M) pc = .ok (.invokevirtual x, 3)) (hc : ev_ct (mO M) x = some (0, M')) (ha : (st.take (ev_na M')).reverse = a) (hrr : st.drop (ev_na M') = rr) (hn : a.length = ev_na M') (hrc : ev_rc M' h a = true) (hcat : (rr.map fun v => v.category).sum ≤ 9) (hmx : (ev_en a).length ≤ mX M') (hk' : k' + 1 ≤ k) (hcall : Ev k' M' 0 (ev_entry a (mX M')) [] h (none) h1) (hvs : h1.1.2.1 = h.1.2.1 ∨ ev_vs (hp_sh h).length ls rr = true) (hp : pc + 3 = p) (q : Ew k M p ls (rr) h1 Q) : Ew k M pc ls st h Q := by
  obtain ⟨r, h', e, z⟩ := q
  exact ⟨r, h', e_callV_v hd hc ha hrr hn hrc hcat hmx hk' hcall hvs hp e, z⟩
theorem we_callS_int {k' x : Nat} {M' : ev_M} {a rr : List Value} {h1 : hp_H} {v : Int32} (hd : decode (mC M) pc = .ok (.invokestatic x, 3)) (hpn : ev_pr (mO M) x = none) (hc : ev_ct (mO M) x = some (1, M')) (ha : (st.take (ev_na M')).reverse = a) (hrr : st.drop (ev_na M') = rr) (hn : a.length = ev_na M') (hrc : ev_rc M' h a = true) (hcat : (rr.map fun v => v.category).sum ≤ 9) (hmx : (ev_en a).length ≤ mX M') (hk' : k' + 1 ≤ k) (hcall : Ev k' M' 0 (ev_entry a (mX M')) [] h (some (.int v)) h1) (hvs : h1.1.2.1 = h.1.2.1 ∨ ev_vs (hp_sh h).length ls rr = true) (hp : pc + 3 = p) (q : Ew k M p ls (.int v :: rr) h1 Q) : Ew k M pc ls st h Q := by
  obtain ⟨r, h', e, z⟩ := q
  exact ⟨r, h', e_callS_int hd hpn hc ha hrr hn hrc hcat hmx hk' hcall hvs hp e, z⟩
theorem we_callS_long {k' x : Nat} {M' : ev_M} {a rr : List Value} {h1 : hp_H} {v : Int64} (hd : decode (mC M) pc = .ok (.invokestatic x, 3)) (hpn : ev_pr (mO M) x = none) (hc : ev_ct (mO M) x = some (1, M')) (ha : (st.take (ev_na M')).reverse = a) (hrr : st.drop (ev_na M') = rr) (hn : a.length = ev_na M') (hrc : ev_rc M' h a = true) (hcat : (rr.map fun v => v.category).sum ≤ 9) (hmx : (ev_en a).length ≤ mX M') (hk' : k' + 1 ≤ k) (hcall : Ev k' M' 0 (ev_entry a (mX M')) [] h (some (.long v)) h1) (hvs : h1.1.2.1 = h.1.2.1 ∨ ev_vs (hp_sh h).length ls rr = true) (hp : pc + 3 = p) (q : Ew k M p ls (.long v :: rr) h1 Q) : Ew k M pc ls st h Q := by
  obtain ⟨r, h', e, z⟩ := q
  exact ⟨r, h', e_callS_long hd hpn hc ha hrr hn hrc hcat hmx hk' hcall hvs hp e, z⟩
theorem we_callS_v {k' x : Nat} {M' : ev_M} {a rr : List Value} {h1 : hp_H} (hd : decode (mC M) pc = .ok (.invokestatic x, 3)) (hpn : ev_pr (mO M) x = none) (hc : ev_ct (mO M) x = some (1, M')) (ha : (st.take (ev_na M')).reverse = a) (hrr : st.drop (ev_na M') = rr) (hn : a.length = ev_na M') (hrc : ev_rc M' h a = true) (hcat : (rr.map fun v => v.category).sum ≤ 9) (hmx : (ev_en a).length ≤ mX M') (hk' : k' + 1 ≤ k) (hcall : Ev k' M' 0 (ev_entry a (mX M')) [] h (none) h1) (hvs : h1.1.2.1 = h.1.2.1 ∨ ev_vs (hp_sh h).length ls rr = true) (hp : pc + 3 = p) (q : Ew k M p ls (rr) h1 Q) : Ew k M pc ls st h Q := by
  obtain ⟨r, h', e, z⟩ := q
  exact ⟨r, h', e_callS_v hd hpn hc ha hrr hn hrc hcat hmx hk' hcall hvs hp e, z⟩
theorem we_callI_int {k' x kd : Nat} {M' : ev_M} {a rr : List Value} {h1 : hp_H} {v : Int32} (hd : decode (mC M) pc = .ok (.invokespecial x, 3)) (hpn : (ev_oil (mO M)).lookup x = none) (hc : ev_ct (mO M) x = some (kd, M')) (hkd : kd = 2 ∨ kd = 3) (ha : (st.take (ev_na M')).reverse = a) (hrr : st.drop (ev_na M') = rr) (hn : a.length = ev_na M') (hrc : ev_rc M' h a = true) (hcat : (rr.map fun v => v.category).sum ≤ 9) (hmx : (ev_en a).length ≤ mX M') (hk' : k' + 1 ≤ k) (hcall : Ev k' M' 0 (ev_entry a (mX M')) [] h (some (.int v)) h1) (hvs : h1.1.2.1 = h.1.2.1 ∨ ev_vs (hp_sh h).length ls rr = true) (hp : pc + 3 = p) (q : Ew k M p ls (.int v :: rr) h1 Q) : Ew k M pc ls st h Q := by
  obtain ⟨r, h', e, z⟩ := q
  exact ⟨r, h', e_callI_int hd hpn hc hkd ha hrr hn hrc hcat hmx hk' hcall hvs hp e, z⟩
theorem we_callI_long {k' x kd : Nat} {M' : ev_M} {a rr : List Value} {h1 : hp_H} {v : Int64} (hd : decode (mC M) pc = .ok (.invokespecial x, 3)) (hpn : (ev_oil (mO M)).lookup x = none) (hc : ev_ct (mO M) x = some (kd, M')) (hkd : kd = 2 ∨ kd = 3) (ha : (st.take (ev_na M')).reverse = a) (hrr : st.drop (ev_na M') = rr) (hn : a.length = ev_na M') (hrc : ev_rc M' h a = true) (hcat : (rr.map fun v => v.category).sum ≤ 9) (hmx : (ev_en a).length ≤ mX M') (hk' : k' + 1 ≤ k) (hcall : Ev k' M' 0 (ev_entry a (mX M')) [] h (some (.long v)) h1) (hvs : h1.1.2.1 = h.1.2.1 ∨ ev_vs (hp_sh h).length ls rr = true) (hp : pc + 3 = p) (q : Ew k M p ls (.long v :: rr) h1 Q) : Ew k M pc ls st h Q := by
  obtain ⟨r, h', e, z⟩ := q
  exact ⟨r, h', e_callI_long hd hpn hc hkd ha hrr hn hrc hcat hmx hk' hcall hvs hp e, z⟩
theorem we_callI_v {k' x kd : Nat} {M' : ev_M} {a rr : List Value} {h1 : hp_H} (hd : decode (mC M) pc = .ok (.invokespecial x, 3)) (hpn : (ev_oil (mO M)).lookup x = none) (hc : ev_ct (mO M) x = some (kd, M')) (hkd : kd = 2 ∨ kd = 3) (ha : (st.take (ev_na M')).reverse = a) (hrr : st.drop (ev_na M') = rr) (hn : a.length = ev_na M') (hrc : ev_rc M' h a = true) (hcat : (rr.map fun v => v.category).sum ≤ 9) (hmx : (ev_en a).length ≤ mX M') (hk' : k' + 1 ≤ k) (hcall : Ev k' M' 0 (ev_entry a (mX M')) [] h (none) h1) (hvs : h1.1.2.1 = h.1.2.1 ∨ ev_vs (hp_sh h).length ls rr = true) (hp : pc + 3 = p) (q : Ew k M p ls (rr) h1 Q) : Ew k M pc ls st h Q := by
  obtain ⟨r, h', e, z⟩ := q
  exact ⟨r, h', e_callI_v hd hpn hc hkd ha hrr hn hrc hcat hmx hk' hcall hvs hp e, z⟩
theorem wi_ret {v : Int32} {ty : FieldType} (hd : decode (mC M) pc = .ok (.ireturn, 1)) (ht : mR M = some ty) (hn : narrow ty (.int v) = .int v) (hy : ty ≠ .long) (z : Q (some (.int v)) h) : Ew k M pc ls [.int v] h Q := ⟨_, _, e_iret hd ht hn hy, z⟩
theorem wl_ret {v : Int64} (hd : decode (mC M) pc = .ok (.lreturn, 1)) (ht : mR M = some .long) (z : Q (some (.long v)) h) : Ew k M pc ls [.long v] h Q := ⟨_, _, e_lret hd ht, z⟩
theorem wv_ret (hd : decode (mC M) pc = .ok (.return_, 1)) (ht : mR M = none) (z : Q none h) : Ew k M pc ls [] h Q := ⟨_, _, e_vret hd ht, z⟩
end
/-- answers v, and then P holds of ints, longs and references -/
def Ret (nc ns : Nat) (v : Option Value) (P : (Nat → Nat → Int32) → (Nat → Nat → Int64) → (Nat → Nat → Option Nat) → Prop) : Option Value → hp_H → Prop := fun r h' => r = v ∧ ∃ I J F, h' = ((SH, nc, ns), I, J, F) ∧ P I J F
/-- I' is I but within [a, b) -/
def Fr {α : Type} (a b : Nat) (I I' : Nat → Nat → α) : Prop := ∀ k, k < a ∨ b ≤ k → I' k = I k
theorem Fr.rf {α : Type} {a b : Nat} {I : Nat → Nat → α} : Fr a b I I := fun _ _ => rfl
theorem hu_ne {α : Type} {I : Nat → Nat → α} {k j a : Nat} {v : α} (h : a ≠ k) : hp_u I k j v a = I a := by
  funext b
  simp only [hp_u, if_neg h]
theorem hu_eq {α : Type} {I : Nat → Nat → α} {k j : Nat} {v : α} : hp_u I k j v k j = v := by simp [hp_u]
theorem hu_nj {α : Type} {I : Nat → Nat → α} {k j i : Nat} {v : α} (h : i ≠ j) : hp_u I k j v k i = I k i := by simp [hp_u, h]
theorem hu_if {α : Type} {I : Nat → Nat → α} {k j i : Nat} {v : α} : hp_u I k j v k i = if i = j then v else I k i := by simp [hp_u]
theorem Fr.u {α : Type} {a b k j : Nat} {I I' : Nat → Nat → α} {v : α} (h : Fr a b I I') (h1 : a ≤ k) (h2 : k < b) : Fr a b I (hp_u I' k j v) := fun x hx => (hu_ne (by omega)).trans (h x hx)
theorem Fr.tr {α : Type} {a b : Nat} {I I' I'' : Nat → Nat → α} (h : Fr a b I I') (h2 : Fr a b I' I'') : Fr a b I I'' := fun x hx => (h2 x hx).trans (h x hx)
theorem Fr.wd {α : Type} {a b c d : Nat} {I I' : Nat → Nat → α} (h : Fr a b I I') (h1 : c ≤ a) (h2 : b ≤ d) : Fr c d I I' := fun x hx => h x (by omega)
