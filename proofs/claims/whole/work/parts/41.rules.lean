/-! A rule an instruction, for runs of the interpreter over a heap (S, I, J, F). -/
section
variable {k : Nat} {M : ev_M} {pc p : Nat} {ls st ls1 : List Value} {S : List (Nat × Nat) × Nat × Nat} {I : Nat → Nat → Int32} {J : Nat → Nat → Int64} {F : Nat → Nat → Option Nat} {r : Option Value} {h h' : hp_H}
theorem e_iconst {n : Int} {v : Int32} (hd : decode (mC M) pc = .ok (.iconst n, 1)) (hv : Int32.ofInt n = v) (hp : pc + 1 = p) (q : Ev k M p ls (.int v :: st) h r h') : Ev k M pc ls (st) h r h' := Ev.stp hd rfl (by subst hp; subst hv; rfl) q
theorem e_bipush {n : Int} {v : Int32} (hd : decode (mC M) pc = .ok (.bipush n, 2)) (hv : (Int8.ofInt n).toInt32 = v) (hp : pc + 2 = p) (q : Ev k M p ls (.int v :: st) h r h') : Ev k M pc ls (st) h r h' := Ev.stp hd rfl (by subst hp; subst hv; rfl) q
theorem e_sipush {n : Int} {v : Int32} (hd : decode (mC M) pc = .ok (.sipush n, 3)) (hv : (Int16.ofInt n).toInt32 = v) (hp : pc + 3 = p) (q : Ev k M p ls (.int v :: st) h r h') : Ev k M pc ls (st) h r h' := Ev.stp hd rfl (by subst hp; subst hv; rfl) q
theorem e_lconst {n : Fin 2} {v : Int64} (hd : decode (mC M) pc = .ok (.lconst n, 1)) (hv : Int64.ofNat (n : Nat) = v) (hp : pc + 1 = p) (q : Ev k M p ls (.long v :: st) h r h') : Ev k M pc ls (st) h r h' := Ev.stp hd rfl (by subst hp; subst hv; rfl) q
theorem e_iload_n {j : Fin 4} {x : Int32} (hd : decode (mC M) pc = .ok (.iload_n j, 1)) (hl : ls[(j : Nat)]? = some (.int x)) (hp : pc + 1 = p) (q : Ev k M p ls (.int x :: st) h r h') : Ev k M pc ls (st) h r h' := Ev.stp hd rfl (by subst hp; simp [ev_stp, ev_a, hl]) q
theorem e_iload {j : Nat} {x : Int32} (hd : decode (mC M) pc = .ok (.iload j, 2)) (hl : ls[j]? = some (.int x)) (hp : pc + 2 = p) (q : Ev k M p ls (.int x :: st) h r h') : Ev k M pc ls (st) h r h' := Ev.stp hd rfl (by subst hp; simp [ev_stp, ev_a, hl]) q
theorem e_istore_n {j : Fin 4} {x : Int32} (hd : decode (mC M) pc = .ok (.istore_n j, 1)) (hl : ev_s1 ls (j : Nat) (.int x) = some ls1) (hp : pc + 1 = p) (q : Ev k M p ls1 (st) h r h') : Ev k M pc ls (.int x :: st) h r h' := Ev.stp hd rfl (by subst hp; simp [ev_stp, ev_a, hl]) q
theorem e_istore {j : Nat} {x : Int32} (hd : decode (mC M) pc = .ok (.istore j, 2)) (hl : ev_s1 ls j (.int x) = some ls1) (hp : pc + 2 = p) (q : Ev k M p ls1 (st) h r h') : Ev k M pc ls (.int x :: st) h r h' := Ev.stp hd rfl (by subst hp; simp [ev_stp, ev_a, hl]) q
theorem e_lload_n {j : Fin 4} {x : Int64} (hd : decode (mC M) pc = .ok (.lload_n j, 1)) (hl : ls[(j : Nat)]? = some (.long x)) (hp : pc + 1 = p) (q : Ev k M p ls (.long x :: st) h r h') : Ev k M pc ls (st) h r h' := Ev.stp hd rfl (by subst hp; simp [ev_stp, ev_a, hl]) q
theorem e_lload {j : Nat} {x : Int64} (hd : decode (mC M) pc = .ok (.lload j, 2)) (hl : ls[j]? = some (.long x)) (hp : pc + 2 = p) (q : Ev k M p ls (.long x :: st) h r h') : Ev k M pc ls (st) h r h' := Ev.stp hd rfl (by subst hp; simp [ev_stp, ev_a, hl]) q
theorem e_lstore_n {j : Fin 4} {x : Int64} (hd : decode (mC M) pc = .ok (.lstore_n j, 1)) (hl : ev_s2 ls (j : Nat) (.long x) = some ls1) (hp : pc + 1 = p) (q : Ev k M p ls1 (st) h r h') : Ev k M pc ls (.long x :: st) h r h' := Ev.stp hd rfl (by subst hp; simp [ev_stp, ev_a, hl]) q
theorem e_lstore {j : Nat} {x : Int64} (hd : decode (mC M) pc = .ok (.lstore j, 2)) (hl : ev_s2 ls j (.long x) = some ls1) (hp : pc + 2 = p) (q : Ev k M p ls1 (st) h r h') : Ev k M pc ls (.long x :: st) h r h' := Ev.stp hd rfl (by subst hp; simp [ev_stp, ev_a, hl]) q
theorem e_aload_n {j : Fin 4} {x : Nat} (hd : decode (mC M) pc = .ok (.aload_n j, 1)) (hl : ls[(j : Nat)]? = some (.ref x)) (hp : pc + 1 = p) (q : Ev k M p ls (.ref x :: st) h r h') : Ev k M pc ls (st) h r h' := Ev.stp hd rfl (by subst hp; simp [ev_stp, ev_a, hl]) q
theorem e_aload {j : Nat} {x : Nat} (hd : decode (mC M) pc = .ok (.aload j, 2)) (hl : ls[j]? = some (.ref x)) (hp : pc + 2 = p) (q : Ev k M p ls (.ref x :: st) h r h') : Ev k M pc ls (st) h r h' := Ev.stp hd rfl (by subst hp; simp [ev_stp, ev_a, hl]) q
theorem e_astore_n {j : Fin 4} {x : Nat} (hd : decode (mC M) pc = .ok (.astore_n j, 1)) (hl : ev_s1 ls (j : Nat) (.ref x) = some ls1) (hp : pc + 1 = p) (q : Ev k M p ls1 (st) h r h') : Ev k M pc ls (.ref x :: st) h r h' := Ev.stp hd rfl (by subst hp; simp [ev_stp, ev_a, hl]) q
theorem e_astore {j : Nat} {x : Nat} (hd : decode (mC M) pc = .ok (.astore j, 2)) (hl : ev_s1 ls j (.ref x) = some ls1) (hp : pc + 2 = p) (q : Ev k M p ls1 (st) h r h') : Ev k M pc ls (.ref x :: st) h r h' := Ev.stp hd rfl (by subst hp; simp [ev_stp, ev_a, hl]) q
theorem e_iinc {j : Nat} {n : Int} {x : Int32} (hd : decode (mC M) pc = .ok (.iinc j n, 3)) (hg : ls[j]? = some (.int x)) (hl : ev_s1 ls j (.int (x + Int32.ofInt n)) = some ls1) (hp : pc + 3 = p) (q : Ev k M p ls1 (st) h r h') : Ev k M pc ls (st) h r h' := Ev.stp hd rfl (by subst hp; simp [ev_stp, ev_a, hg, hl]) q
theorem e_dup_int {x : Int32} (hd : decode (mC M) pc = .ok (.dup, 1)) (hp : pc + 1 = p) (q : Ev k M p ls (.int x :: .int x :: st) h r h') : Ev k M pc ls (.int x :: st) h r h' := Ev.stp hd rfl (by subst hp; rfl) q
theorem e_pop_int {x : Int32} (hd : decode (mC M) pc = .ok (.pop, 1)) (hp : pc + 1 = p) (q : Ev k M p ls (st) h r h') : Ev k M pc ls (.int x :: st) h r h' := Ev.stp hd rfl (by subst hp; rfl) q
theorem e_dup_ref {x : Nat} (hd : decode (mC M) pc = .ok (.dup, 1)) (hp : pc + 1 = p) (q : Ev k M p ls (.ref x :: .ref x :: st) h r h') : Ev k M pc ls (.ref x :: st) h r h' := Ev.stp hd rfl (by subst hp; rfl) q
theorem e_pop_ref {x : Nat} (hd : decode (mC M) pc = .ok (.pop, 1)) (hp : pc + 1 = p) (q : Ev k M p ls (st) h r h') : Ev k M pc ls (.ref x :: st) h r h' := Ev.stp hd rfl (by subst hp; rfl) q
theorem e_dup2 {x : Int32} {y : Nat} (hd : decode (mC M) pc = .ok (.dup2, 1)) (hp : pc + 1 = p) (q : Ev k M p ls (.int x :: .ref y :: .int x :: .ref y :: st) h r h') : Ev k M pc ls (.int x :: .ref y :: st) h r h' := Ev.stp hd rfl (by subst hp; rfl) q
theorem e_ldcI {x : Nat} {v : Int32} (hd : decode (mC M) pc = .ok (.ldc x, 2)) (hv : (ev_kil (mO M)).lookup x = some v) (hp : pc + 2 = p) (q : Ev k M p ls (.int v :: st) h r h') : Ev k M pc ls (st) h r h' := Ev.stp hd rfl (by subst hp; simp [ev_stp, ev_a, hv]) q
theorem e_ldcwI {x : Nat} {v : Int32} (hd : decode (mC M) pc = .ok (.ldc_w x, 3)) (hv : (ev_kil (mO M)).lookup x = some v) (hp : pc + 3 = p) (q : Ev k M p ls (.int v :: st) h r h') : Ev k M pc ls (st) h r h' := Ev.stp hd rfl (by subst hp; simp [ev_stp, ev_a, hv]) q
theorem e_ldcS {x j : Nat} (hd : decode (mC M) pc = .ok (.ldc x, 2)) (hn : (ev_kil (mO M)).lookup x = none) (hv : (ev_stl (mO M)).lookup x = some j) (hp : pc + 2 = p) (q : Ev k M p ls (.ref (sp_S + j) :: st) h r h') : Ev k M pc ls (st) h r h' := Ev.stp hd rfl (by subst hp; simp [ev_stp, ev_a, hv, hn]) q
theorem e_ldcwS {x j : Nat} (hd : decode (mC M) pc = .ok (.ldc_w x, 3)) (hn : (ev_kil (mO M)).lookup x = none) (hv : (ev_stl (mO M)).lookup x = some j) (hp : pc + 3 = p) (q : Ev k M p ls (.ref (sp_S + j) :: st) h r h') : Ev k M pc ls (st) h r h' := Ev.stp hd rfl (by subst hp; simp [ev_stp, ev_a, hv, hn]) q
theorem e_ldc2 {x : Nat} {v : Int64} (hd : decode (mC M) pc = .ok (.ldc2_w x, 3)) (hv : (ev_kll (mO M)).lookup x = some v) (hp : pc + 3 = p) (q : Ev k M p ls (.long v :: st) h r h') : Ev k M pc ls (st) h r h' := Ev.stp hd rfl (by subst hp; simp [ev_stp, ev_a, hv]) q
theorem e_iadd {x y : Int32} (hd : decode (mC M) pc = .ok (.iadd, 1)) (hp : pc + 1 = p) (q : Ev k M p ls (.int (x + y) :: st) h r h') : Ev k M pc ls (.int y :: .int x :: st) h r h' := Ev.stp hd rfl (by subst hp; rfl) q
theorem e_isub {x y : Int32} (hd : decode (mC M) pc = .ok (.isub, 1)) (hp : pc + 1 = p) (q : Ev k M p ls (.int (x - y) :: st) h r h') : Ev k M pc ls (.int y :: .int x :: st) h r h' := Ev.stp hd rfl (by subst hp; rfl) q
theorem e_imul {x y : Int32} (hd : decode (mC M) pc = .ok (.imul, 1)) (hp : pc + 1 = p) (q : Ev k M p ls (.int (x * y) :: st) h r h') : Ev k M pc ls (.int y :: .int x :: st) h r h' := Ev.stp hd rfl (by subst hp; rfl) q
theorem e_iand {x y : Int32} (hd : decode (mC M) pc = .ok (.iand, 1)) (hp : pc + 1 = p) (q : Ev k M p ls (.int (x &&& y) :: st) h r h') : Ev k M pc ls (.int y :: .int x :: st) h r h' := Ev.stp hd rfl (by subst hp; rfl) q
theorem e_ior {x y : Int32} (hd : decode (mC M) pc = .ok (.ior, 1)) (hp : pc + 1 = p) (q : Ev k M p ls (.int (x ||| y) :: st) h r h') : Ev k M pc ls (.int y :: .int x :: st) h r h' := Ev.stp hd rfl (by subst hp; rfl) q
theorem e_ixor {x y : Int32} (hd : decode (mC M) pc = .ok (.ixor, 1)) (hp : pc + 1 = p) (q : Ev k M p ls (.int (x ^^^ y) :: st) h r h') : Ev k M pc ls (.int y :: .int x :: st) h r h' := Ev.stp hd rfl (by subst hp; rfl) q
theorem e_ishl {x y : Int32} (hd : decode (mC M) pc = .ok (.ishl, 1)) (hp : pc + 1 = p) (q : Ev k M p ls (.int (x <<< (y &&& 31)) :: st) h r h') : Ev k M pc ls (.int y :: .int x :: st) h r h' := Ev.stp hd rfl (by subst hp; rfl) q
theorem e_ishr {x y : Int32} (hd : decode (mC M) pc = .ok (.ishr, 1)) (hp : pc + 1 = p) (q : Ev k M p ls (.int (x >>> (y &&& 31)) :: st) h r h') : Ev k M pc ls (.int y :: .int x :: st) h r h' := Ev.stp hd rfl (by subst hp; rfl) q
theorem e_iushr {x y : Int32} (hd : decode (mC M) pc = .ok (.iushr, 1)) (hp : pc + 1 = p) (q : Ev k M p ls (.int (x.toUInt32 >>> (y.toUInt32 &&& Int32.toUInt32 31)).toInt32 :: st) h r h') : Ev k M pc ls (.int y :: .int x :: st) h r h' := Ev.stp hd rfl (by subst hp; rfl) q
theorem e_idiv {x y : Int32} (hd : decode (mC M) pc = .ok (.idiv, 1)) (hn : ¬ y = 0) (hp : pc + 1 = p) (q : Ev k M p ls (.int (x / y) :: st) h r h') : Ev k M pc ls (.int y :: .int x :: st) h r h' := Ev.stp hd rfl (by subst hp; simp [ev_stp, ev_a, ev_b, hn]) q
theorem e_irem {x y : Int32} (hd : decode (mC M) pc = .ok (.irem, 1)) (hn : ¬ y = 0) (hp : pc + 1 = p) (q : Ev k M p ls (.int (x - x / y * y) :: st) h r h') : Ev k M pc ls (.int y :: .int x :: st) h r h' := Ev.stp hd rfl (by subst hp; simp [ev_stp, ev_a, ev_b, hn]) q
theorem e_ladd {x y : Int64} (hd : decode (mC M) pc = .ok (.ladd, 1)) (hp : pc + 1 = p) (q : Ev k M p ls (.long (x + y) :: st) h r h') : Ev k M pc ls (.long y :: .long x :: st) h r h' := Ev.stp hd rfl (by subst hp; rfl) q
theorem e_lsub {x y : Int64} (hd : decode (mC M) pc = .ok (.lsub, 1)) (hp : pc + 1 = p) (q : Ev k M p ls (.long (x - y) :: st) h r h') : Ev k M pc ls (.long y :: .long x :: st) h r h' := Ev.stp hd rfl (by subst hp; rfl) q
theorem e_lmul {x y : Int64} (hd : decode (mC M) pc = .ok (.lmul, 1)) (hp : pc + 1 = p) (q : Ev k M p ls (.long (x * y) :: st) h r h') : Ev k M pc ls (.long y :: .long x :: st) h r h' := Ev.stp hd rfl (by subst hp; rfl) q
theorem e_ldiv {x y : Int64} (hd : decode (mC M) pc = .ok (.ldiv, 1)) (hn : ¬ y = 0) (hp : pc + 1 = p) (q : Ev k M p ls (.long (x / y) :: st) h r h') : Ev k M pc ls (.long y :: .long x :: st) h r h' := Ev.stp hd rfl (by subst hp; simp [ev_stp, ev_a, ev_b, hn]) q
theorem e_lrem {x y : Int64} (hd : decode (mC M) pc = .ok (.lrem, 1)) (hn : ¬ y = 0) (hp : pc + 1 = p) (q : Ev k M p ls (.long (x - x / y * y) :: st) h r h') : Ev k M pc ls (.long y :: .long x :: st) h r h' := Ev.stp hd rfl (by subst hp; simp [ev_stp, ev_a, ev_b, hn]) q
theorem e_lcmp {x y : Int64} (hd : decode (mC M) pc = .ok (.lcmp, 1)) (hp : pc + 1 = p) (q : Ev k M p ls (.int (lg_cmp x y) :: st) h r h') : Ev k M pc ls (.long y :: .long x :: st) h r h' := Ev.stp hd rfl (by subst hp; rfl) q
theorem e_i2l {x : Int32} (hd : decode (mC M) pc = .ok (.i2l, 1)) (hp : pc + 1 = p) (q : Ev k M p ls (.long x.toInt64 :: st) h r h') : Ev k M pc ls (.int x :: st) h r h' := Ev.stp hd rfl (by subst hp; rfl) q
theorem e_i2b {x : Int32} (hd : decode (mC M) pc = .ok (.i2b, 1)) (hp : pc + 1 = p) (q : Ev k M p ls (.int x.toInt8.toInt32 :: st) h r h') : Ev k M pc ls (.int x :: st) h r h' := Ev.stp hd rfl (by subst hp; rfl) q
theorem e_i2c {x : Int32} (hd : decode (mC M) pc = .ok (.i2c, 1)) (hp : pc + 1 = p) (q : Ev k M p ls (.int (x.toUInt32 % 65536).toInt32 :: st) h r h') : Ev k M pc ls (.int x :: st) h r h' := Ev.stp hd rfl (by subst hp; rfl) q
theorem e_goto {off : Int} (hd : decode (mC M) pc = .ok (.goto off, 3)) (h0 : 0 ≤ (pc : Int) + off) (hp : ev_tg pc off = p) (q : Ev k M p ls st h r h') : Ev k M pc ls st h r h' := Ev.stp hd rfl (by subst hp; simp [ev_stp, ev_a, ev_b, h0]) q
theorem e_icmp_eq {x y : Int32} {off : Int} {t : Nat} (hd : decode (mC M) pc = .ok (.if_icmp .eq off, 3)) (h0 : 0 ≤ (pc : Int) + off) (ht : ev_tg pc off = t) (hp : pc + 3 = p) (qt : x = y → Ev k M t ls st h r h') (qf : ¬ x = y → Ev k M p ls st h r h') : Ev k M pc ls (.int y :: .int x :: st) h r h' := by
  subst ht; subst hp
  by_cases hc : x = y
  · exact Ev.stp hd rfl (by simp [ev_stp, ev_a, ev_b, h0, ev_cnd, hc]) (qt hc)
  · exact Ev.stp hd rfl (by simp [ev_stp, ev_a, ev_b, h0, ev_cnd, hc]) (qf hc)
theorem e_if_eq {x : Int32} {off : Int} {t : Nat} (hd : decode (mC M) pc = .ok (.ifCond .eq off, 3)) (h0 : 0 ≤ (pc : Int) + off) (ht : ev_tg pc off = t) (hp : pc + 3 = p) (qt : x = 0 → Ev k M t ls st h r h') (qf : ¬ x = 0 → Ev k M p ls st h r h') : Ev k M pc ls (.int x :: st) h r h' := by
  subst ht; subst hp
  by_cases hc : x = 0
  · exact Ev.stp hd rfl (by simp [ev_stp, ev_a, ev_b, h0, ev_cnd, hc]) (qt hc)
  · exact Ev.stp hd rfl (by simp [ev_stp, ev_a, ev_b, h0, ev_cnd, hc]) (qf hc)
theorem e_icmp_ne {x y : Int32} {off : Int} {t : Nat} (hd : decode (mC M) pc = .ok (.if_icmp .ne off, 3)) (h0 : 0 ≤ (pc : Int) + off) (ht : ev_tg pc off = t) (hp : pc + 3 = p) (qt : ¬ x = y → Ev k M t ls st h r h') (qf : x = y → Ev k M p ls st h r h') : Ev k M pc ls (.int y :: .int x :: st) h r h' := by
  subst ht; subst hp
  by_cases hc : x = y
  · exact Ev.stp hd rfl (by simp [ev_stp, ev_a, ev_b, h0, ev_cnd, hc]) (qf hc)
  · exact Ev.stp hd rfl (by simp [ev_stp, ev_a, ev_b, h0, ev_cnd, hc]) (qt hc)
theorem e_if_ne {x : Int32} {off : Int} {t : Nat} (hd : decode (mC M) pc = .ok (.ifCond .ne off, 3)) (h0 : 0 ≤ (pc : Int) + off) (ht : ev_tg pc off = t) (hp : pc + 3 = p) (qt : ¬ x = 0 → Ev k M t ls st h r h') (qf : x = 0 → Ev k M p ls st h r h') : Ev k M pc ls (.int x :: st) h r h' := by
  subst ht; subst hp
  by_cases hc : x = 0
  · exact Ev.stp hd rfl (by simp [ev_stp, ev_a, ev_b, h0, ev_cnd, hc]) (qf hc)
  · exact Ev.stp hd rfl (by simp [ev_stp, ev_a, ev_b, h0, ev_cnd, hc]) (qt hc)
theorem e_icmp_lt {x y : Int32} {off : Int} {t : Nat} (hd : decode (mC M) pc = .ok (.if_icmp .lt off, 3)) (h0 : 0 ≤ (pc : Int) + off) (ht : ev_tg pc off = t) (hp : pc + 3 = p) (qt : x < y → Ev k M t ls st h r h') (qf : ¬ x < y → Ev k M p ls st h r h') : Ev k M pc ls (.int y :: .int x :: st) h r h' := by
  subst ht; subst hp
  by_cases hc : x < y
  · exact Ev.stp hd rfl (by simp [ev_stp, ev_a, ev_b, h0, ev_cnd, hc]) (qt hc)
  · exact Ev.stp hd rfl (by simp [ev_stp, ev_a, ev_b, h0, ev_cnd, hc]) (qf hc)
theorem e_if_lt {x : Int32} {off : Int} {t : Nat} (hd : decode (mC M) pc = .ok (.ifCond .lt off, 3)) (h0 : 0 ≤ (pc : Int) + off) (ht : ev_tg pc off = t) (hp : pc + 3 = p) (qt : x < 0 → Ev k M t ls st h r h') (qf : ¬ x < 0 → Ev k M p ls st h r h') : Ev k M pc ls (.int x :: st) h r h' := by
  subst ht; subst hp
  by_cases hc : x < 0
  · exact Ev.stp hd rfl (by simp [ev_stp, ev_a, ev_b, h0, ev_cnd, hc]) (qt hc)
  · exact Ev.stp hd rfl (by simp [ev_stp, ev_a, ev_b, h0, ev_cnd, hc]) (qf hc)
theorem e_icmp_ge {x y : Int32} {off : Int} {t : Nat} (hd : decode (mC M) pc = .ok (.if_icmp .ge off, 3)) (h0 : 0 ≤ (pc : Int) + off) (ht : ev_tg pc off = t) (hp : pc + 3 = p) (qt : y ≤ x → Ev k M t ls st h r h') (qf : ¬ y ≤ x → Ev k M p ls st h r h') : Ev k M pc ls (.int y :: .int x :: st) h r h' := by
  subst ht; subst hp
  by_cases hc : y ≤ x
  · exact Ev.stp hd rfl (by simp [ev_stp, ev_a, ev_b, h0, ev_cnd, hc]) (qt hc)
  · exact Ev.stp hd rfl (by simp [ev_stp, ev_a, ev_b, h0, ev_cnd, hc]) (qf hc)
theorem e_if_ge {x : Int32} {off : Int} {t : Nat} (hd : decode (mC M) pc = .ok (.ifCond .ge off, 3)) (h0 : 0 ≤ (pc : Int) + off) (ht : ev_tg pc off = t) (hp : pc + 3 = p) (qt : 0 ≤ x → Ev k M t ls st h r h') (qf : ¬ 0 ≤ x → Ev k M p ls st h r h') : Ev k M pc ls (.int x :: st) h r h' := by
  subst ht; subst hp
  by_cases hc : 0 ≤ x
  · exact Ev.stp hd rfl (by simp [ev_stp, ev_a, ev_b, h0, ev_cnd, hc]) (qt hc)
  · exact Ev.stp hd rfl (by simp [ev_stp, ev_a, ev_b, h0, ev_cnd, hc]) (qf hc)
theorem e_icmp_gt {x y : Int32} {off : Int} {t : Nat} (hd : decode (mC M) pc = .ok (.if_icmp .gt off, 3)) (h0 : 0 ≤ (pc : Int) + off) (ht : ev_tg pc off = t) (hp : pc + 3 = p) (qt : y < x → Ev k M t ls st h r h') (qf : ¬ y < x → Ev k M p ls st h r h') : Ev k M pc ls (.int y :: .int x :: st) h r h' := by
  subst ht; subst hp
  by_cases hc : y < x
  · exact Ev.stp hd rfl (by simp [ev_stp, ev_a, ev_b, h0, ev_cnd, hc]) (qt hc)
  · exact Ev.stp hd rfl (by simp [ev_stp, ev_a, ev_b, h0, ev_cnd, hc]) (qf hc)
theorem e_if_gt {x : Int32} {off : Int} {t : Nat} (hd : decode (mC M) pc = .ok (.ifCond .gt off, 3)) (h0 : 0 ≤ (pc : Int) + off) (ht : ev_tg pc off = t) (hp : pc + 3 = p) (qt : 0 < x → Ev k M t ls st h r h') (qf : ¬ 0 < x → Ev k M p ls st h r h') : Ev k M pc ls (.int x :: st) h r h' := by
  subst ht; subst hp
  by_cases hc : 0 < x
  · exact Ev.stp hd rfl (by simp [ev_stp, ev_a, ev_b, h0, ev_cnd, hc]) (qt hc)
  · exact Ev.stp hd rfl (by simp [ev_stp, ev_a, ev_b, h0, ev_cnd, hc]) (qf hc)
theorem e_icmp_le {x y : Int32} {off : Int} {t : Nat} (hd : decode (mC M) pc = .ok (.if_icmp .le off, 3)) (h0 : 0 ≤ (pc : Int) + off) (ht : ev_tg pc off = t) (hp : pc + 3 = p) (qt : x ≤ y → Ev k M t ls st h r h') (qf : ¬ x ≤ y → Ev k M p ls st h r h') : Ev k M pc ls (.int y :: .int x :: st) h r h' := by
  subst ht; subst hp
  by_cases hc : x ≤ y
  · exact Ev.stp hd rfl (by simp [ev_stp, ev_a, ev_b, h0, ev_cnd, hc]) (qt hc)
  · exact Ev.stp hd rfl (by simp [ev_stp, ev_a, ev_b, h0, ev_cnd, hc]) (qf hc)
theorem e_if_le {x : Int32} {off : Int} {t : Nat} (hd : decode (mC M) pc = .ok (.ifCond .le off, 3)) (h0 : 0 ≤ (pc : Int) + off) (ht : ev_tg pc off = t) (hp : pc + 3 = p) (qt : x ≤ 0 → Ev k M t ls st h r h') (qf : ¬ x ≤ 0 → Ev k M p ls st h r h') : Ev k M pc ls (.int x :: st) h r h' := by
  subst ht; subst hp
  by_cases hc : x ≤ 0
  · exact Ev.stp hd rfl (by simp [ev_stp, ev_a, ev_b, h0, ev_cnd, hc]) (qt hc)
  · exact Ev.stp hd rfl (by simp [ev_stp, ev_a, ev_b, h0, ev_cnd, hc]) (qf hc)
theorem e_swOut {d lo hi : Int} {offs : Array Int} {len : Nat} {x : Int32} (hd : decode (mC M) pc = .ok (.tableswitch d lo hi offs, len)) (hc : x.toInt < lo ∨ hi < x.toInt) (h0 : 0 ≤ (pc : Int) + d) (hp : ev_tg pc d = p) (q : Ev k M p ls st h r h') : Ev k M pc ls (.int x :: st) h r h' := Ev.stp hd rfl (by subst hp; simp [ev_stp, ev_a, ev_b, hc, h0]) q
theorem e_swIn {d lo hi off : Int} {offs : Array Int} {len : Nat} {x : Int32} (hd : decode (mC M) pc = .ok (.tableswitch d lo hi offs, len)) (hc : ¬ (x.toInt < lo ∨ hi < x.toInt)) (ho : offs[(x.toInt - lo).toNat]? = some off) (h0 : 0 ≤ (pc : Int) + off) (hp : ev_tg pc off = p) (q : Ev k M p ls st h r h') : Ev k M pc ls (.int x :: st) h r h' := Ev.stp hd rfl (by subst hp; simp [ev_stp, ev_a, ev_b, hc, ho, h0]) q
theorem e_getI {x c j n a : Nat} (hd : decode (mC M) pc = .ok (.getfield x, 3)) (hf : ev_ft (mO M) x = some (c, j)) (hk : S.1[a]? = some (c, n)) (ha : a < 1000000) (hj : j < n) (ht : ev_fk c j = 0 ∨ ev_fk c j = 3) (hp : pc + 3 = p) (q : Ev k M p ls (.int (I a j) :: st) (S, I, J, F) r h') : Ev k M pc ls (.ref a :: st) (S, I, J, F) r h' :=
  Ev.stp hd rfl (by subst hp; rcases ht with ht | ht <;> simp [ev_stp, ev_a, ev_b, ev_h, hf, hk, ha, hj, hp_get, ht]) q
theorem e_getJ {x c j n a : Nat} (hd : decode (mC M) pc = .ok (.getfield x, 3)) (hf : ev_ft (mO M) x = some (c, j)) (hk : S.1[a]? = some (c, n)) (ha : a < 1000000) (hj : j < n) (ht : ev_fk c j = 1) (hp : pc + 3 = p) (q : Ev k M p ls (.long (J a j) :: st) (S, I, J, F) r h') : Ev k M pc ls (.ref a :: st) (S, I, J, F) r h' :=
  Ev.stp hd rfl (by subst hp; simp [ev_stp, ev_a, ev_b, ev_h, hf, hk, ha, hj, hp_get, ht]) q
theorem e_getR {x c j n a b : Nat} (hd : decode (mC M) pc = .ok (.getfield x, 3)) (hf : ev_ft (mO M) x = some (c, j)) (hk : S.1[a]? = some (c, n)) (ha : a < 1000000) (hj : j < n) (ht : ev_fk c j = 2) (hb : F a j = some b) (hp : pc + 3 = p) (q : Ev k M p ls (.ref b :: st) (S, I, J, F) r h') : Ev k M pc ls (.ref a :: st) (S, I, J, F) r h' :=
  Ev.stp hd rfl (by subst hp; have e : hp_R ((S, I, J, F) : hp_H) a j = some b := hb; simp [ev_stp, ev_a, ev_b, ev_h, hf, hk, ha, hj, hp_get, ht, e]) q
theorem e_putI {x c j n a : Nat} {v : Int32} (hd : decode (mC M) pc = .ok (.putfield x, 3)) (hf : ev_ft (mO M) x = some (c, j)) (hk : S.1[a]? = some (c, n)) (ha : a < 1000000) (hj : j < n) (ht : ev_fk c j = 0) (hn : ev_fn c j = false) (hp : pc + 3 = p) (q : Ev k M p ls st (S, hp_u I a j v, J, F) r h') : Ev k M pc ls (.int v :: .ref a :: st) (S, I, J, F) r h' :=
  Ev.stp hd rfl (by subst hp; simp [ev_stp, ev_a, ev_b, ev_h, hf, hk, ha, hj, hp_put, ht, hn, hp_sI]) q
theorem e_putZ {x c j n a : Nat} {v : Int32} (hd : decode (mC M) pc = .ok (.putfield x, 3)) (hf : ev_ft (mO M) x = some (c, j)) (hk : S.1[a]? = some (c, n)) (ha : a < 1000000) (hj : j < n) (ht : ev_fk c j = 3) (hn : ev_fn c j = false) (hz : fits .boolean (.int v) = true ∧ narrow .boolean (.int v) = .int v) (hp : pc + 3 = p) (q : Ev k M p ls st (S, hp_u I a j v, J, F) r h') : Ev k M pc ls (.int v :: .ref a :: st) (S, I, J, F) r h' :=
  Ev.stp hd rfl (by subst hp; simp [ev_stp, ev_a, ev_b, ev_h, hf, hk, ha, hj, hp_put, ht, hn, hp_sI, hz]) q
theorem e_putJ {x c j n a : Nat} {v : Int64} (hd : decode (mC M) pc = .ok (.putfield x, 3)) (hf : ev_ft (mO M) x = some (c, j)) (hk : S.1[a]? = some (c, n)) (ha : a < 1000000) (hj : j < n) (ht : ev_fk c j = 1) (hn : ev_fn c j = false) (hp : pc + 3 = p) (q : Ev k M p ls st (S, I, hp_u J a j v, F) r h') : Ev k M pc ls (.long v :: .ref a :: st) (S, I, J, F) r h' :=
  Ev.stp hd rfl (by subst hp; simp [ev_stp, ev_a, ev_b, ev_h, hf, hk, ha, hj, hp_put, ht, hn, hp_sJ]) q
theorem e_putR {x c j n a b : Nat} (hd : decode (mC M) pc = .ok (.putfield x, 3)) (hf : ev_ft (mO M) x = some (c, j)) (hk : S.1[a]? = some (c, n)) (ha : a < 1000000) (hj : j < n) (ht : ev_fk c j = 2) (hn : ev_fn c j = true → (mY M).name = "<init>" ∧ mO M = c) (hb : b < S.1.length) (hp : pc + 3 = p) (q : Ev k M p ls st (S, I, J, hp_u F a j (some b)) r h') : Ev k M pc ls (.ref b :: .ref a :: st) (S, I, J, F) r h' :=
  Ev.stp hd rfl (by
    subst hp
    have e1 : hp_put ((S, I, J, F) : hp_H) a c j (.ref b) = some (S, I, J, hp_u F a j (some b)) := by simp [hp_put, ht, hb, hp_sR, hp_sh]
    simp [ev_stp, ev_a, ev_b, ev_h, hf, hk, ha, hj, hn, e1]
    exact fun z => hn z) q
theorem e_iald {a n : Nat} {x : Int32} (hd : decode (mC M) pc = .ok (.iaload, 1)) (hk : S.1[a]? = some (12, n)) (ha : a < 1000000) (hi : ev_in x n = true) (hp : pc + 1 = p) (q : Ev k M p ls (.int (I a x.toNatClampNeg) :: st) (S, I, J, F) r h') : Ev k M pc ls (.int x :: .ref a :: st) (S, I, J, F) r h' :=
  Ev.stp hd rfl (by subst hp; simp [ev_stp, ev_a, ev_b, ev_h, hk, ha, hi]) q
theorem e_room {x : Int32} (hd : decode (mC M) pc = .ok (.iaload, 1)) (hi : ev_in x 7 = true) (hp : pc + 1 = p) (q : Ev k M p ls (.int (ev_room.getD x.toNatClampNeg 0) :: st) (S, I, J, F) r h') : Ev k M pc ls (.int x :: .ref sp_R :: st) (S, I, J, F) r h' :=
  Ev.stp hd rfl (by subst hp; simp [ev_stp, ev_a, ev_b, ev_h, hi]) q
theorem e_scr {x : Int32} {n : Nat} (hd : decode (mC M) pc = .ok (.iaload, 1)) (hn : F sp_X 0 = some n) (hi : ev_in x n = true) (hp : pc + 1 = p) (q : Ev k M p ls (.int (I sp_X x.toNatClampNeg) :: st) (S, I, J, F) r h') : Ev k M pc ls (.int x :: .ref sp_X :: st) (S, I, J, F) r h' :=
  Ev.stp hd rfl (by subst hp; have e : hp_R ((S, I, J, F) : hp_H) sp_X 0 = some n := hn; have e2 : ¬ sp_X < 1000000 := (by decide); simp [ev_stp, ev_a, ev_b, ev_h, e, hi, e2]) q
theorem e_bald {a n : Nat} {x : Int32} (hd : decode (mC M) pc = .ok (.baload, 1)) (hk : S.1[a]? = some (14, n)) (ha : a < 1000000) (hi : ev_in x n = true) (hp : pc + 1 = p) (q : Ev k M p ls (.int (I a x.toNatClampNeg) :: st) (S, I, J, F) r h') : Ev k M pc ls (.int x :: .ref a :: st) (S, I, J, F) r h' :=
  Ev.stp hd rfl (by subst hp; simp [ev_stp, ev_a, ev_b, ev_h, hk, ha, hi]) q
theorem e_sbald {j : Nat} {x : Int32} (hd : decode (mC M) pc = .ok (.baload, 1)) (hj : j < 27) (hi : ev_in x (ev_sb j).length = true) (hp : pc + 1 = p) (q : Ev k M p ls (.int ((ev_sb j).getD x.toNatClampNeg 0) :: st) h r h') : Ev k M pc ls (.int x :: .ref (sp_V + j) :: st) h r h' :=
  Ev.stp hd rfl (by
    subst hp
    have e1 : ¬ sp_V + j < 1000000 := by simp only [sp_V]; omega
    have e2 : sp_V ≤ sp_V + j ∧ sp_V + j < sp_V + 27 := ⟨by omega, by omega⟩
    have e3 : sp_V + j - sp_V = j := by omega
    simp only [ev_stp, ev_a, ev_b, ev_h, Option.or_none, Option.none_or, if_neg e1, if_pos e2, e3, if_pos hi]) q
theorem e_lald {a n : Nat} {x : Int32} (hd : decode (mC M) pc = .ok (.laload, 1)) (hk : S.1[a]? = some (13, n)) (hi : ev_in x n = true) (hp : pc + 1 = p) (q : Ev k M p ls (.long (J a x.toNatClampNeg) :: st) (S, I, J, F) r h') : Ev k M pc ls (.int x :: .ref a :: st) (S, I, J, F) r h' :=
  Ev.stp hd rfl (by subst hp; simp [ev_stp, ev_a, ev_b, ev_h, hk, hi]) q
theorem e_aald {a n c b : Nat} {x : Int32} (hd : decode (mC M) pc = .ok (.aaload, 1)) (hk : S.1[a]? = some (c, n)) (hc : c = 15 ∨ c = 16 ∨ c = 17) (hi : ev_in x n = true) (hb : F a x.toNatClampNeg = some b) (hp : pc + 1 = p) (q : Ev k M p ls (.ref b :: st) (S, I, J, F) r h') : Ev k M pc ls (.int x :: .ref a :: st) (S, I, J, F) r h' :=
  Ev.stp hd rfl (by subst hp; have e : hp_R ((S, I, J, F) : hp_H) a x.toNatClampNeg = some b := hb; simp [ev_stp, ev_a, ev_b, ev_h, hk, hi, e, hc]) q
theorem e_iast {a n : Nat} {x v : Int32} (hd : decode (mC M) pc = .ok (.iastore, 1)) (hk : S.1[a]? = some (12, n)) (ha : a < 1000000) (hi : ev_in x n = true) (hp : pc + 1 = p) (q : Ev k M p ls st (S, hp_u I a x.toNatClampNeg v, J, F) r h') : Ev k M pc ls (.int v :: .int x :: .ref a :: st) (S, I, J, F) r h' :=
  Ev.stp hd rfl (by subst hp; simp [ev_stp, ev_a, ev_b, ev_h, hk, ha, hi, hp_sI]) q
theorem e_bast {a n : Nat} {x v : Int32} (hd : decode (mC M) pc = .ok (.bastore, 1)) (hk : S.1[a]? = some (14, n)) (ha : a < 1000000) (hi : ev_in x n = true) (hp : pc + 1 = p) (q : Ev k M p ls st (S, hp_u I a x.toNatClampNeg v.toInt8.toInt32, J, F) r h') : Ev k M pc ls (.int v :: .int x :: .ref a :: st) (S, I, J, F) r h' :=
  Ev.stp hd rfl (by subst hp; simp [ev_stp, ev_a, ev_b, ev_h, hk, ha, hi, hp_sI]) q
theorem e_last {a n : Nat} {x : Int32} {v : Int64} (hd : decode (mC M) pc = .ok (.lastore, 1)) (hk : S.1[a]? = some (13, n)) (ha : a < 1000000) (hi : ev_in x n = true) (hp : pc + 1 = p) (q : Ev k M p ls st (S, I, hp_u J a x.toNatClampNeg v, F) r h') : Ev k M pc ls (.long v :: .int x :: .ref a :: st) (S, I, J, F) r h' :=
  Ev.stp hd rfl (by subst hp; simp [ev_stp, ev_a, ev_b, ev_h, hk, ha, hi, hp_sJ]) q
theorem e_aast {a n b n2 : Nat} {x : Int32} (hd : decode (mC M) pc = .ok (.aastore, 1)) (hk : S.1[a]? = some (15, n)) (hb : S.1[b]? = some (3, n2)) (ha : a < 1000000) (hi : ev_in x n = true) (hp : pc + 1 = p) (q : Ev k M p ls st (S, I, J, hp_u F a x.toNatClampNeg (some b)) r h') : Ev k M pc ls (.ref b :: .int x :: .ref a :: st) (S, I, J, F) r h' :=
  Ev.stp hd rfl (by subst hp; simp [ev_stp, ev_a, ev_b, ev_h, hk, hb, ha, hi, hp_sR]) q
theorem e_alen {a n c : Nat} {v : Int32} (hd : decode (mC M) pc = .ok (.arraylength, 1)) (hk : S.1[a]? = some (c, n)) (ha : a < 1000000) (hc : 12 ≤ c ∧ c < 18) (hv : Int32.ofNat n = v) (hp : pc + 1 = p) (q : Ev k M p ls (.int v :: st) (S, I, J, F) r h') : Ev k M pc ls (.ref a :: st) (S, I, J, F) r h' :=
  Ev.stp hd rfl (by subst hp; subst hv; simp [ev_stp, ev_a, ev_b, ev_h, hk, ha, hc]) q
theorem e_rlen (hd : decode (mC M) pc = .ok (.arraylength, 1)) (hp : pc + 1 = p) (q : Ev k M p ls (.int 7 :: st) h r h') : Ev k M pc ls (.ref sp_R :: st) h r h' :=
  Ev.stp hd rfl (by subst hp; simp [ev_stp, ev_a, ev_b, ev_h]) q
theorem e_xlen {n : Nat} (hd : decode (mC M) pc = .ok (.arraylength, 1)) (hn : F sp_X 0 = some n) (hp : pc + 1 = p) (q : Ev k M p ls (.int (Int32.ofNat n) :: st) (S, I, J, F) r h') : Ev k M pc ls (.ref sp_X :: st) (S, I, J, F) r h' :=
  Ev.stp hd rfl (by subst hp; have e : hp_R ((S, I, J, F) : hp_H) sp_X 0 = some n := hn; have e2 : ¬ sp_X < 1000000 := (by decide); simp [ev_stp, ev_a, ev_b, ev_h, e, e2]) q
theorem e_vlen {j : Nat} (hd : decode (mC M) pc = .ok (.arraylength, 1)) (hj : j < 27) (hp : pc + 1 = p) (q : Ev k M p ls (.int (Int32.ofNat (ev_sb j).length) :: st) h r h') : Ev k M pc ls (.ref (sp_V + j) :: st) h r h' :=
  Ev.stp hd rfl (by
    subst hp
    have e1 : ¬ sp_V + j < 1000000 := by simp only [sp_V]; omega
    have e2 : sp_V ≤ sp_V + j ∧ sp_V + j < sp_V + 27 := ⟨by omega, by omega⟩
    have e3 : sp_V + j - sp_V = j := by omega
    have e4 : ¬ sp_V + j = sp_R := by simp only [sp_V, sp_R]; omega
    have e5 : ¬ sp_V + j = sp_X := by simp only [sp_V, sp_X]; omega
    simp only [ev_stp, ev_a, ev_b, ev_h, Option.or_none, Option.none_or, if_neg e1, if_neg e4, if_neg e5, if_pos e2, e3]) q
theorem e_sval {j : Nat} (hd : decode (mC M) pc = .ok (.getfield 9, 3)) (hM : mO M = 14) (hj : j < 27) (hp : pc + 3 = p) (q : Ev k M p ls (.ref (sp_V + j) :: st) h r h') : Ev k M pc ls (.ref (sp_S + j) :: st) h r h' :=
  Ev.stp hd rfl (by
    subst hp
    have e1 : ¬ sp_S + j < 1000000 := by simp only [sp_S]; omega
    have e2 : mO M = 14 ∧ sp_S ≤ sp_S + j ∧ sp_S + j < sp_S + 27 := ⟨hM, by omega, by omega⟩
    have e3 : sp_S + j + 100 = sp_V + j := by simp only [sp_S, sp_V]; omega
    simp only [ev_stp, ev_a, ev_b, ev_h, Option.or_none, Option.none_or, if_neg e1, if_pos e2, e3, if_true]) q
theorem e_scod {j : Nat} (hd : decode (mC M) pc = .ok (.getfield 15, 3)) (hM : mO M = 14) (hj : j < 27) (hp : pc + 3 = p) (q : Ev k M p ls (.int 0 :: st) h r h') : Ev k M pc ls (.ref (sp_S + j) :: st) h r h' :=
  Ev.stp hd rfl (by
    subst hp
    have e1 : ¬ sp_S + j < 1000000 := by simp only [sp_S]; omega
    have e2 : mO M = 14 ∧ sp_S ≤ sp_S + j ∧ sp_S + j < sp_S + 27 := ⟨hM, by omega, by omega⟩
    simp only [ev_stp, ev_a, ev_b, ev_h, Option.or_none, Option.none_or, if_neg e1, if_pos e2, if_neg (show ¬ (15 : Nat) = 9 by decide), if_true]) q
theorem e_statR {x : Nat} {u : Unit} (hd : decode (mC M) pc = .ok (.getstatic x, 3)) (hx : (ev_rml (mO M)).lookup x = some u) (hp : pc + 3 = p) (q : Ev k M p ls (.ref sp_R :: st) h r h') : Ev k M pc ls st h r h' :=
  Ev.stp hd rfl (by subst hp; simp [ev_stp, ev_a, ev_b, ev_h, hx]) q
theorem e_statC (hd : decode (mC M) pc = .ok (.getstatic 38, 3)) (hM : mO M = 14) (hp : pc + 3 = p) (q : Ev k M p ls (.int 1 :: st) h r h') : Ev k M pc ls st h r h' :=
  Ev.stp hd rfl (by subst hp; simp [ev_stp, ev_a, ev_b, ev_h, hM, ev_rml]) q
theorem e_oinit {x a : Nat} {u : Unit} (hd : decode (mC M) pc = .ok (.invokespecial x, 3)) (hx : (ev_oil (mO M)).lookup x = some u) (hc : (st.map fun v => v.category).sum ≤ 9) (hp : pc + 3 = p) (q : Ev k M p ls st h r h') : Ev k M pc ls (.ref a :: st) h r h' :=
  Ev.stp hd rfl (by subst hp; simp [ev_stp, ev_a, ev_b, ev_h, hx]; exact hc) q
theorem e_max {x : Nat} {a b : Int32} (hd : decode (mC M) pc = .ok (.invokestatic x, 3)) (hx : ev_pr (mO M) x = some 1) (hc : (st.map fun v => v.category).sum ≤ 9) (hp : pc + 3 = p) (q : Ev k M p ls (.int (if a < b then b else a) :: st) h r h') : Ev k M pc ls (.int b :: .int a :: st) h r h' :=
  Ev.stp hd rfl (by subst hp; simp only [ev_stp, ev_a, ev_b, ev_h, Option.or_none, Option.none_or, hx]; rw [if_pos hc]) q
theorem e_min {x : Nat} {a b : Int32} (hd : decode (mC M) pc = .ok (.invokestatic x, 3)) (hx : ev_pr (mO M) x = some 2) (hc : (st.map fun v => v.category).sum ≤ 9) (hp : pc + 3 = p) (q : Ev k M p ls (.int (if b < a then b else a) :: st) h r h') : Ev k M pc ls (.int b :: .int a :: st) h r h' :=
  Ev.stp hd rfl (by subst hp; simp only [ev_stp, ev_a, ev_b, ev_h, Option.or_none, Option.none_or, hx]; rw [if_pos hc]) q
theorem e_cki {x : Nat} {a b : Int32} (hd : decode (mC M) pc = .ok (.invokestatic x, 3)) (hx : ev_pr (mO M) x = some 3) (hc : (st.map fun v => v.category).sum ≤ 9) (h1 : ¬ a < 0) (h2 : a < b) (hp : pc + 3 = p) (q : Ev k M p ls st h r h') : Ev k M pc ls (.int b :: .int a :: st) h r h' :=
  Ev.stp hd rfl (by subst hp; simp only [ev_stp, ev_a, ev_b, ev_h, Option.or_none, Option.none_or, hx]; rw [if_pos ⟨hc, h1, h2⟩]) q
theorem e_new {x c n : Nat} (hd : decode (mC M) pc = .ok (.new x, 3)) (hx : ev_nw (mO M) x = some c) (hn : ev_nf.getD c 0 = n) (hl : S.1.length < 900000) (hv : ev_vs S.1.length ls st = true) (hp : pc + 3 = p) (q : Ev k M p ls (.ref S.1.length :: st) (hp_new (S, I, J, F) c n) r h') : Ev k M pc ls st (S, I, J, F) r h' :=
  Ev.stp hd rfl (by subst hp; subst hn; simp only [ev_stp, ev_a, ev_b, ev_h, Option.or_none, Option.none_or, hx, hp_sh]; rw [if_pos ⟨hl, hv⟩]) q
theorem e_newI {n : Int32} (hd : decode (mC M) pc = .ok (.newarray .int, 2)) (h0 : ¬ n < 0) (hN : n.toNatClampNeg ≤ 10000) (hl : S.1.length < 900000) (hv : ev_vs S.1.length ls st = true) (hp : pc + 2 = p) (q : Ev k M p ls (.ref S.1.length :: st) (hp_new (S, I, J, F) 12 n.toNatClampNeg) r h') : Ev k M pc ls (.int n :: st) (S, I, J, F) r h' :=
  Ev.stp hd rfl (by subst hp; simp only [ev_stp, ev_a, ev_b, ev_h, Option.or_none, Option.none_or, hp_sh]; rw [if_pos ⟨h0, hN, hl, hv⟩]) q
theorem e_newJ {n : Int32} (hd : decode (mC M) pc = .ok (.newarray .long, 2)) (h0 : ¬ n < 0) (hN : n.toNatClampNeg ≤ 10000) (hl : S.1.length < 900000) (hv : ev_vs S.1.length ls st = true) (hp : pc + 2 = p) (q : Ev k M p ls (.ref S.1.length :: st) (hp_new (S, I, J, F) 13 n.toNatClampNeg) r h') : Ev k M pc ls (.int n :: st) (S, I, J, F) r h' :=
  Ev.stp hd rfl (by subst hp; simp only [ev_stp, ev_a, ev_b, ev_h, Option.or_none, Option.none_or, hp_sh]; rw [if_pos ⟨h0, hN, hl, hv⟩]) q
theorem e_newB {n : Int32} (hd : decode (mC M) pc = .ok (.newarray .byte, 2)) (h0 : ¬ n < 0) (hN : n.toNatClampNeg ≤ 10000) (hl : S.1.length < 900000) (hv : ev_vs S.1.length ls st = true) (hp : pc + 2 = p) (q : Ev k M p ls (.ref S.1.length :: st) (hp_new (S, I, J, F) 14 n.toNatClampNeg) r h') : Ev k M pc ls (.int n :: st) (S, I, J, F) r h' :=
  Ev.stp hd rfl (by subst hp; simp only [ev_stp, ev_a, ev_b, ev_h, Option.or_none, Option.none_or, hp_sh]; rw [if_pos ⟨h0, hN, hl, hv⟩]) q
theorem e_iret {v : Int32} {ty : FieldType} (hd : decode (mC M) pc = .ok (.ireturn, 1)) (ht : mR M = some ty) (hn : narrow ty (.int v) = .int v) (hy : ty ≠ .long) : Ev k M pc ls [.int v] h (some (.int v)) h :=
  Ev.ret hd rfl rfl (by simp only [ev_ret, ht]; rw [if_pos ⟨hn, hy⟩])
theorem e_lret {v : Int64} (hd : decode (mC M) pc = .ok (.lreturn, 1)) (ht : mR M = some .long) : Ev k M pc ls [.long v] h (some (.long v)) h :=
  Ev.ret hd rfl rfl (by simp only [ev_ret]; rw [if_pos ht])
theorem e_vret (hd : decode (mC M) pc = .ok (.return_, 1)) (ht : mR M = none) : Ev k M pc ls [] h none h :=
  Ev.ret hd rfl rfl (by simp only [ev_ret]; rw [if_pos ht])
theorem e_throw (hd : decode (mC M) pc = .ok (.new 379, 3)) (hM : mO M = 10) : Ev k M pc ls [] h (some .null) h :=
  Ev.ret hd rfl (by simp [ev_stp, ev_a, ev_b, ev_h, hM, ev_nw, ev_nwl, List.lookup]) (by simp only [ev_ret]; rw [if_pos ⟨hM, trivial⟩])
/-- a method of an object -/
theorem e_callV {k' x : Nat} {M' : ev_M} {a rr : List Value} {h1 : hp_H} {v : Option Value} (hd : decode (mC M) pc = .ok (.invokevirtual x, 3)) (hc : ev_ct (mO M) x = some (0, M')) (ha : (st.take (ev_na M')).reverse = a) (hrr : st.drop (ev_na M') = rr) (hn : a.length = ev_na M') (hrc : ev_rc M' h a = true) (hcat : (rr.map fun v => v.category).sum ≤ 9) (hmx : (ev_en a).length ≤ mX M') (hk' : k' + 1 ≤ k)
    (hcall : Ev k' M' 0 (ev_entry a (mX M')) [] h v h1) (hv : v ≠ some .null) (hvs : h1.1.2.1 = h.1.2.1 ∨ ev_vs (hp_sh h).length ls rr = true) (hp : pc + 3 = p) (q : Ev k M p ls (v.toList ++ rr) h1 r h') : Ev k M pc ls st h r h' := by
  subst hp
  exact Ev.cal hd rfl rfl rfl rfl hc rfl ha hrr hn hrc hcat hmx hk' hcall hv hvs q
theorem e_callS {k' x : Nat} {M' : ev_M} {a rr : List Value} {h1 : hp_H} {v : Option Value} (hd : decode (mC M) pc = .ok (.invokestatic x, 3)) (hpn : ev_pr (mO M) x = none) (hc : ev_ct (mO M) x = some (1, M')) (ha : (st.take (ev_na M')).reverse = a) (hrr : st.drop (ev_na M') = rr) (hn : a.length = ev_na M') (hrc : ev_rc M' h a = true) (hcat : (rr.map fun v => v.category).sum ≤ 9) (hmx : (ev_en a).length ≤ mX M') (hk' : k' + 1 ≤ k)
    (hcall : Ev k' M' 0 (ev_entry a (mX M')) [] h v h1) (hv : v ≠ some .null) (hvs : h1.1.2.1 = h.1.2.1 ∨ ev_vs (hp_sh h).length ls rr = true) (hp : pc + 3 = p) (q : Ev k M p ls (v.toList ++ rr) h1 r h') : Ev k M pc ls st h r h' := by
  subst hp
  exact Ev.cal hd rfl (by simp [ev_stp, ev_a, ev_b, ev_h, hpn]) rfl rfl hc rfl ha hrr hn hrc hcat hmx hk' hcall hv hvs q
theorem e_callI {k' x kd : Nat} {M' : ev_M} {a rr : List Value} {h1 : hp_H} {v : Option Value} (hd : decode (mC M) pc = .ok (.invokespecial x, 3)) (hpn : (ev_oil (mO M)).lookup x = none) (hc : ev_ct (mO M) x = some (kd, M')) (hkd : kd = 2 ∨ kd = 3) (ha : (st.take (ev_na M')).reverse = a) (hrr : st.drop (ev_na M') = rr) (hn : a.length = ev_na M') (hrc : ev_rc M' h a = true) (hcat : (rr.map fun v => v.category).sum ≤ 9) (hmx : (ev_en a).length ≤ mX M') (hk' : k' + 1 ≤ k)
    (hcall : Ev k' M' 0 (ev_entry a (mX M')) [] h v h1) (hv : v ≠ some .null) (hvs : h1.1.2.1 = h.1.2.1 ∨ ev_vs (hp_sh h).length ls rr = true) (hp : pc + 3 = p) (q : Ev k M p ls (v.toList ++ rr) h1 r h') : Ev k M pc ls st h r h' := by
  subst hp
  exact Ev.cal hd rfl (by simp [ev_stp, ev_a, ev_b, ev_h, hpn]) rfl rfl hc (by rcases hkd with rfl | rfl <;> rfl) ha hrr hn hrc hcat hmx hk' hcall hv hvs q
end
