/-! The heap by places: shapes (kind, length), how many cells and slots were made; ints, longs, references. Kinds: 0..11 objects (vwCl), 12 int[], 13 long[], 14 byte[], 15 Moment[], 16 int[][], 17 long[][]. Places from 1000000 on: what stood before. -/
abbrev hp_H : Type := (List (Nat × Nat) × Nat × Nat) × (Nat → Nat → Int32) × (Nat → Nat → Int64) × (Nat → Nat → Option Nat)
def hp_u {α : Type} (f : Nat → Nat → α) (k j : Nat) (v : α) : Nat → Nat → α := fun a b => if a = k then (if b = j then v else f a b) else f a b
def hp_z {α : Type} (f : Nat → Nat → α) (k : Nat) (v : α) : Nat → Nat → α := fun a b => if a = k then v else f a b
abbrev hp_sh (h : hp_H) : List (Nat × Nat) := h.1.1
abbrev hp_I (h : hp_H) : Nat → Nat → Int32 := h.2.1
abbrev hp_J (h : hp_H) : Nat → Nat → Int64 := h.2.2.1
abbrev hp_R (h : hp_H) : Nat → Nat → Option Nat := h.2.2.2
def hp_sI (h : hp_H) (k j : Nat) (v : Int32) : hp_H := (h.1, hp_u h.2.1 k j v, h.2.2)
def hp_sJ (h : hp_H) (k j : Nat) (v : Int64) : hp_H := (h.1, h.2.1, hp_u h.2.2.1 k j v, h.2.2.2)
def hp_sR (h : hp_H) (k j : Nat) (v : Option Nat) : hp_H := (h.1, h.2.1, h.2.2.1, hp_u h.2.2.2 k j v)
/-- a new cell of kind c, n places -/
def hp_new (h : hp_H) (c n : Nat) : hp_H := ((h.1.1 ++ [(c, n)], h.1.2.1 + 1, h.1.2.2 + n), hp_z h.2.1 h.1.1.length 0, hp_z h.2.2.1 h.1.1.length 0, hp_z h.2.2.2 h.1.1.length none)
/-- n cells more of kind c, k places each -/
def hp_news (h : hp_H) (c k : Nat) : Nat → hp_H
  | 0 => h
  | n + 1 => hp_new (hp_news h c k n) c k
/-- the outer row of n, and its n rows -/
def hp_mna (h : hp_H) (co ci n k : Nat) : hp_H :=
  let h1 := hp_news (hp_new h co n) ci k n
  (h1.1, h1.2.1, h1.2.2.1, fun a b => if a = h.1.1.length then (if b < n then some (h.1.1.length + 1 + b) else none) else h1.2.2.2 a b)
abbrev sp_R : Nat := 1000000
abbrev sp_X : Nat := 1000001
abbrev sp_S : Nat := 1000100
abbrev sp_V : Nat := 1000200
def ev_room : List Int32 := [6, 10, 8, 8, 6, 5, 4]
abbrev ev_F : Type := Nat × List Value × List Value × hp_H
def ev_ll (ls : List Value) (i : Nat) : Bool := match i with
  | 0 => true
  | j + 1 => match ls[j]? with
    | some v => v.category == 1
    | none => true
/-- a value that is no reference, or one to a place below n, or to what stood before -/
def ev_vok (n : Nat) : Value → Bool
  | .ref q => decide (q < n ∨ 1000000 ≤ q)
  | _ => true
def ev_vs (n : Nat) (ls st : List Value) : Bool := ls.all (ev_vok n) && st.all (ev_vok n)
def ev_s1 (ls : List Value) (i : Nat) (v : Value) : Option (List Value) := if i < ls.length ∧ ev_ll ls i = true then some (ls.set i v) else none
def ev_s2 (ls : List Value) (i : Nat) (v : Value) : Option (List Value) := if i + 1 < ls.length ∧ ev_ll ls i = true then some ((ls.set i v).set (i + 1) .null) else none
def ev_cnd (c : ClassFile.Cond) (x y : Int32) : Bool := match c with
  | .eq => decide (x = y)
  | .ne => decide (¬ x = y)
  | .lt => decide (x < y)
  | .ge => decide (y ≤ x)
  | .gt => decide (y < x)
  | .le => decide (x ≤ y)
def ev_tg (pc : Nat) (off : Int) : Nat := ((pc : Int) + off).toNat
def ev_push (pc n : Nat) (ls : List Value) (v : Value) (st : List Value) (h : hp_H) : Option ev_F := some (pc + n, ls, v :: st, h)
/-- constants, locals, the stack -/
def ev_a (o : Nat) (i : Instr) (pc : Nat) (ls st : List Value) (h : hp_H) : Option ev_F := match i with
  | .iconst n => some (pc + 1, ls, .int (Int32.ofInt n) :: st, h)
  | .bipush n => some (pc + 2, ls, .int (Int8.ofInt n).toInt32 :: st, h)
  | .sipush n => some (pc + 3, ls, .int (Int16.ofInt n).toInt32 :: st, h)
  | .lconst n => some (pc + 1, ls, .long (Int64.ofNat n) :: st, h)
  | .iload_n k => match ls[(k : Nat)]? with
    | some (.int x) => some (pc + 1, ls, .int x :: st, h)
    | _ => none
  | .iload k => match ls[k]? with
    | some (.int x) => some (pc + 2, ls, .int x :: st, h)
    | _ => none
  | .lload_n k => match ls[(k : Nat)]? with
    | some (.long x) => some (pc + 1, ls, .long x :: st, h)
    | _ => none
  | .lload k => match ls[k]? with
    | some (.long x) => some (pc + 2, ls, .long x :: st, h)
    | _ => none
  | .aload_n k => match ls[(k : Nat)]? with
    | some (.ref x) => some (pc + 1, ls, .ref x :: st, h)
    | _ => none
  | .aload k => match ls[k]? with
    | some (.ref x) => some (pc + 2, ls, .ref x :: st, h)
    | _ => none
  | .istore_n k => match st with
    | .int x :: r => (ev_s1 ls k (.int x)).map fun l => (pc + 1, l, r, h)
    | _ => none
  | .istore k => match st with
    | .int x :: r => (ev_s1 ls k (.int x)).map fun l => (pc + 2, l, r, h)
    | _ => none
  | .lstore_n k => match st with
    | .long x :: r => (ev_s2 ls k (.long x)).map fun l => (pc + 1, l, r, h)
    | _ => none
  | .lstore k => match st with
    | .long x :: r => (ev_s2 ls k (.long x)).map fun l => (pc + 2, l, r, h)
    | _ => none
  | .astore_n k => match st with
    | .ref x :: r => (ev_s1 ls k (.ref x)).map fun l => (pc + 1, l, r, h)
    | _ => none
  | .astore k => match st with
    | .ref x :: r => (ev_s1 ls k (.ref x)).map fun l => (pc + 2, l, r, h)
    | _ => none
  | .iinc k n => match ls[k]? with
    | some (.int x) => (ev_s1 ls k (.int (x + Int32.ofInt n))).map fun l => (pc + 3, l, st, h)
    | _ => none
  | .dup => match st with
    | .int x :: r => some (pc + 1, ls, .int x :: .int x :: r, h)
    | .ref x :: r => some (pc + 1, ls, .ref x :: .ref x :: r, h)
    | _ => none
  | .dup2 => match st with
    | .int x :: .ref y :: r => some (pc + 1, ls, .int x :: .ref y :: .int x :: .ref y :: r, h)
    | _ => none
  | .pop => match st with
    | .int _ :: r => some (pc + 1, ls, r, h)
    | .ref _ :: r => some (pc + 1, ls, r, h)
    | _ => none
  | .ldc k => match (ev_kil o).lookup k with
    | some v => some (pc + 2, ls, .int v :: st, h)
    | none => match (ev_stl o).lookup k with
      | some j => some (pc + 2, ls, .ref (sp_S + j) :: st, h)
      | none => none
  | .ldc_w k => match (ev_kil o).lookup k with
    | some v => some (pc + 3, ls, .int v :: st, h)
    | none => match (ev_stl o).lookup k with
      | some j => some (pc + 3, ls, .ref (sp_S + j) :: st, h)
      | none => none
  | .ldc2_w k => match (ev_kll o).lookup k with
    | some v => some (pc + 3, ls, .long v :: st, h)
    | none => none
  | _ => none
/-- numbers -/
def ev_b (i : Instr) (pc : Nat) (ls st : List Value) (h : hp_H) : Option ev_F := match i with
  | .iadd => match st with
    | .int y :: .int x :: r => some (pc + 1, ls, .int (x + y) :: r, h)
    | _ => none
  | .isub => match st with
    | .int y :: .int x :: r => some (pc + 1, ls, .int (x - y) :: r, h)
    | _ => none
  | .imul => match st with
    | .int y :: .int x :: r => some (pc + 1, ls, .int (x * y) :: r, h)
    | _ => none
  | .iand => match st with
    | .int y :: .int x :: r => some (pc + 1, ls, .int (x &&& y) :: r, h)
    | _ => none
  | .ior => match st with
    | .int y :: .int x :: r => some (pc + 1, ls, .int (x ||| y) :: r, h)
    | _ => none
  | .ixor => match st with
    | .int y :: .int x :: r => some (pc + 1, ls, .int (x ^^^ y) :: r, h)
    | _ => none
  | .idiv => match st with
    | .int y :: .int x :: r => if y = 0 then none else some (pc + 1, ls, .int (x / y) :: r, h)
    | _ => none
  | .irem => match st with
    | .int y :: .int x :: r => if y = 0 then none else some (pc + 1, ls, .int (x - x / y * y) :: r, h)
    | _ => none
  | .ishl => match st with
    | .int y :: .int x :: r => some (pc + 1, ls, .int (x <<< (y &&& 31)) :: r, h)
    | _ => none
  | .ishr => match st with
    | .int y :: .int x :: r => some (pc + 1, ls, .int (x >>> (y &&& 31)) :: r, h)
    | _ => none
  | .iushr => match st with
    | .int y :: .int x :: r => some (pc + 1, ls, .int (x.toUInt32 >>> (y.toUInt32 &&& Int32.toUInt32 31)).toInt32 :: r, h)
    | _ => none
  | .ladd => match st with
    | .long y :: .long x :: r => some (pc + 1, ls, .long (x + y) :: r, h)
    | _ => none
  | .lsub => match st with
    | .long y :: .long x :: r => some (pc + 1, ls, .long (x - y) :: r, h)
    | _ => none
  | .lmul => match st with
    | .long y :: .long x :: r => some (pc + 1, ls, .long (x * y) :: r, h)
    | _ => none
  | .ldiv => match st with
    | .long y :: .long x :: r => if y = 0 then none else some (pc + 1, ls, .long (x / y) :: r, h)
    | _ => none
  | .lrem => match st with
    | .long y :: .long x :: r => if y = 0 then none else some (pc + 1, ls, .long (x - x / y * y) :: r, h)
    | _ => none
  | .lcmp => match st with
    | .long y :: .long x :: r => some (pc + 1, ls, .int (lg_cmp x y) :: r, h)
    | _ => none
  | .i2l => match st with
    | .int x :: r => some (pc + 1, ls, .long x.toInt64 :: r, h)
    | _ => none
  | .i2b => match st with
    | .int x :: r => some (pc + 1, ls, .int x.toInt8.toInt32 :: r, h)
    | _ => none
  | .i2c => match st with
    | .int x :: r => some (pc + 1, ls, .int (x.toUInt32 % 65536).toInt32 :: r, h)
    | _ => none
  | .goto off => if 0 ≤ (pc : Int) + off then some (ev_tg pc off, ls, st, h) else none
  | .ifCond c off => match st with
    | .int x :: r => if 0 ≤ (pc : Int) + off then some (if ev_cnd c x 0 = true then ev_tg pc off else pc + 3, ls, r, h) else none
    | _ => none
  | .if_icmp c off => match st with
    | .int y :: .int x :: r => if 0 ≤ (pc : Int) + off then some (if ev_cnd c x y = true then ev_tg pc off else pc + 3, ls, r, h) else none
    | _ => none
  | .tableswitch dflt lo hi offs => match st with
    | .int x :: r =>
      if x.toInt < lo ∨ hi < x.toInt then (if 0 ≤ (pc : Int) + dflt then some (ev_tg pc dflt, ls, r, h) else none)
      else match offs[(x.toInt - lo).toNat]? with
        | some off => if 0 ≤ (pc : Int) + off then some (ev_tg pc off, ls, r, h) else none
        | none => none
    | _ => none
  | _ => none
def hp_get (h : hp_H) (k c j : Nat) : Option Value := match ev_fk c j with
  | 0 => some (.int (hp_I h k j))
  | 1 => some (.long (hp_J h k j))
  | 2 => match hp_R h k j with
    | some q => some (.ref q)
    | none => none
  | 3 => some (.int (hp_I h k j))
  | _ => none
def hp_put (h : hp_H) (k c j : Nat) (v : Value) : Option hp_H := match ev_fk c j, v with
  | 0, .int x => some (hp_sI h k j x)
  | 1, .long x => some (hp_sJ h k j x)
  | 2, .ref q => if q < (hp_sh h).length then some (hp_sR h k j (some q)) else none
  | 3, .int x => if fits .boolean (.int x) = true ∧ narrow .boolean (.int x) = .int x then some (hp_sI h k j x) else none
  | _, _ => none
def ev_in (i : Int32) (n : Nat) : Bool := decide (¬ (i < 0 ∨ n ≤ i.toNatClampNeg))
/-- fields, arrays, what is made -/
def ev_h (M : ev_M) (i : Instr) (pc : Nat) (ls st : List Value) (h : hp_H) : Option ev_F := match i with
  | .getfield x => match st with
    | .ref k :: r =>
      if k < 1000000 then match ev_ft (mO M) x, (hp_sh h)[k]? with
        | some (c, j), some (c', n) => if c' = c ∧ j < n then (hp_get h k c j).map fun v => (pc + 3, ls, v :: r, h) else none
        | _, _ => none
      else if mO M = 14 ∧ sp_S ≤ k ∧ k < sp_S + 27 then
        (if x = 9 then some (pc + 3, ls, .ref (k + 100) :: r, h) else if x = 15 then some (pc + 3, ls, .int 0 :: r, h) else none)
      else none
    | _ => none
  | .putfield x => match st with
    | v :: .ref k :: r => match ev_ft (mO M) x, (hp_sh h)[k]? with
      | some (c, j), some (c', n) => if c' = c ∧ j < n ∧ k < 1000000 ∧ (ev_fn c j = true → (mY M).name = "<init>" ∧ mO M = c) then (hp_put h k c j v).map fun h' => (pc + 3, ls, r, h') else none
      | _, _ => none
    | _ => none
  | .iaload => match st with
    | .int a :: .ref k :: r =>
      if k < 1000000 then match (hp_sh h)[k]? with
        | some (12, n) => if ev_in a n = true then some (pc + 1, ls, .int (hp_I h k a.toNatClampNeg) :: r, h) else none
        | _ => none
      else if k = sp_R then (if ev_in a 7 = true then some (pc + 1, ls, .int (ev_room.getD a.toNatClampNeg 0) :: r, h) else none)
      else if k = sp_X then match hp_R h sp_X 0 with
        | some n => if ev_in a n = true then some (pc + 1, ls, .int (hp_I h sp_X a.toNatClampNeg) :: r, h) else none
        | none => none
      else none
    | _ => none
  | .baload => match st with
    | .int a :: .ref k :: r =>
      if k < 1000000 then match (hp_sh h)[k]? with
        | some (14, n) => if ev_in a n = true then some (pc + 1, ls, .int (hp_I h k a.toNatClampNeg) :: r, h) else none
        | _ => none
      else if sp_V ≤ k ∧ k < sp_V + 27 then (if ev_in a (ev_sb (k - sp_V)).length = true then some (pc + 1, ls, .int ((ev_sb (k - sp_V)).getD a.toNatClampNeg 0) :: r, h) else none)
      else none
    | _ => none
  | .laload => match st with
    | .int a :: .ref k :: r => match (hp_sh h)[k]? with
      | some (13, n) => if ev_in a n = true then some (pc + 1, ls, .long (hp_J h k a.toNatClampNeg) :: r, h) else none
      | _ => none
    | _ => none
  | .aaload => match st with
    | .int a :: .ref k :: r => match (hp_sh h)[k]?, hp_R h k a.toNatClampNeg with
      | some (c, n), some q => if ev_in a n = true ∧ (c = 15 ∨ c = 16 ∨ c = 17) then some (pc + 1, ls, .ref q :: r, h) else none
      | _, _ => none
    | _ => none
  | .iastore => match st with
    | .int v :: .int a :: .ref k :: r => match (hp_sh h)[k]? with
      | some (12, n) => if ev_in a n = true ∧ k < 1000000 then some (pc + 1, ls, r, hp_sI h k a.toNatClampNeg v) else none
      | _ => none
    | _ => none
  | .bastore => match st with
    | .int v :: .int a :: .ref k :: r => match (hp_sh h)[k]? with
      | some (14, n) => if ev_in a n = true ∧ k < 1000000 then some (pc + 1, ls, r, hp_sI h k a.toNatClampNeg v.toInt8.toInt32) else none
      | _ => none
    | _ => none
  | .lastore => match st with
    | .long v :: .int a :: .ref k :: r => match (hp_sh h)[k]? with
      | some (13, n) => if ev_in a n = true ∧ k < 1000000 then some (pc + 1, ls, r, hp_sJ h k a.toNatClampNeg v) else none
      | _ => none
    | _ => none
  | .aastore => match st with
    | .ref q :: .int a :: .ref k :: r => match (hp_sh h)[k]?, (hp_sh h)[q]? with
      | some (15, n), some (3, _) => if ev_in a n = true ∧ k < 1000000 then some (pc + 1, ls, r, hp_sR h k a.toNatClampNeg (some q)) else none
      | _, _ => none
    | _ => none
  | .arraylength => match st with
    | .ref k :: r =>
      if k < 1000000 then match (hp_sh h)[k]? with
        | some (c, n) => if 12 ≤ c ∧ c < 18 then some (pc + 1, ls, .int (Int32.ofNat n) :: r, h) else none
        | none => none
      else if k = sp_R then some (pc + 1, ls, .int 7 :: r, h)
      else if k = sp_X then match hp_R h sp_X 0 with
        | some n => some (pc + 1, ls, .int (Int32.ofNat n) :: r, h)
        | none => none
      else if sp_V ≤ k ∧ k < sp_V + 27 then some (pc + 1, ls, .int (Int32.ofNat (ev_sb (k - sp_V)).length) :: r, h)
      else none
    | _ => none
  | .newarray t => match st with
    | .int n :: r => if ¬ n < 0 ∧ n.toNatClampNeg ≤ 10000 ∧ (hp_sh h).length < 900000 ∧ ev_vs (hp_sh h).length ls r = true then
        match t with
        | .int => some (pc + 2, ls, .ref (hp_sh h).length :: r, hp_new h 12 n.toNatClampNeg)
        | .long => some (pc + 2, ls, .ref (hp_sh h).length :: r, hp_new h 13 n.toNatClampNeg)
        | .byte => some (pc + 2, ls, .ref (hp_sh h).length :: r, hp_new h 14 n.toNatClampNeg)
        | _ => none
      else none
    | _ => none
  | .anewarray x => match st with
    | .int n :: r => if ¬ n < 0 ∧ n.toNatClampNeg ≤ 10000 ∧ (hp_sh h).length < 900000 ∧ ev_vs (hp_sh h).length ls r = true ∧ mO M = 5 ∧ x = 11 then some (pc + 3, ls, .ref (hp_sh h).length :: r, hp_new h 15 n.toNatClampNeg) else none
    | _ => none
  | .multianewarray x 2 => match st with
    | .int k :: .int n :: r => if ¬ n < 0 ∧ ¬ k < 0 ∧ n.toNatClampNeg ≤ 100 ∧ k.toNatClampNeg ≤ 100 ∧ (hp_sh h).length < 900000 ∧ ev_vs (hp_sh h).length ls r = true ∧ x = 21 then
        (if mO M = 8 then some (pc + 4, ls, .ref (hp_sh h).length :: r, hp_mna h 17 13 n.toNatClampNeg k.toNatClampNeg)
         else if mO M = 6 ∨ mO M = 1 then some (pc + 4, ls, .ref (hp_sh h).length :: r, hp_mna h 16 12 n.toNatClampNeg k.toNatClampNeg) else none)
      else none
    | _ => none
  | .new x => match ev_nw (mO M) x with
    | some c => if (hp_sh h).length < 900000 ∧ ev_vs (hp_sh h).length ls st = true then some (pc + 3, ls, .ref (hp_sh h).length :: st, hp_new h c (ev_nf.getD c 0)) else none
    | none => none
  | .getstatic x => match (ev_rml (mO M)).lookup x with
    | some _ => some (pc + 3, ls, .ref sp_R :: st, h)
    | none => if mO M = 14 ∧ x = 38 then some (pc + 3, ls, .int 1 :: st, h) else none
  | .invokespecial x => match (ev_oil (mO M)).lookup x, st with
    | some _, .ref _ :: r => if (r.map fun v => v.category).sum ≤ 9 then some (pc + 3, ls, r, h) else none
    | _, _ => none
  | .invokestatic x => match ev_pr (mO M) x, st with
    | some 1, .int b :: .int a :: r => if (r.map fun v => v.category).sum ≤ 9 then some (pc + 3, ls, .int (if a < b then b else a) :: r, h) else none
    | some 2, .int b :: .int a :: r => if (r.map fun v => v.category).sum ≤ 9 then some (pc + 3, ls, .int (if b < a then b else a) :: r, h) else none
    | some 3, .int b :: .int a :: r => if (r.map fun v => v.category).sum ≤ 9 ∧ ¬ a < 0 ∧ a < b then some (pc + 3, ls, r, h) else none
    | _, _ => none
  | _ => none
def ev_stp (M : ev_M) (i : Instr) (pc : Nat) (ls st : List Value) (h : hp_H) : Option ev_F :=
  (ev_a (mO M) i pc ls st h).or ((ev_b i pc ls st h).or (ev_h M i pc ls st h))
def ev_len : Instr → Nat
  | .bipush _ | .iload _ | .lload _ | .aload _ | .istore _ | .lstore _ | .astore _ | .ldc _ | .newarray _ => 2
  | .sipush _ | .iinc _ _ | .ldc_w _ | .ldc2_w _ | .goto _ | .ifCond _ _ | .if_icmp _ _ | .getfield _ | .putfield _ | .getstatic _ | .new _ | .anewarray _ | .invokevirtual _ | .invokespecial _ | .invokestatic _ => 3
  | .multianewarray _ _ => 4
  | _ => 1
def ev_lok (i : Instr) (len : Nat) : Bool := match i with
  | .tableswitch _ _ _ _ => true
  | i => len == ev_len i
def ev_en : List Value → List Value
  | [] => []
  | v :: r => if v.category = 2 then v :: .null :: ev_en r else v :: ev_en r
def ev_entry (args : List Value) (mx : Nat) : List Value := ev_en args ++ List.replicate (mx - (ev_en args).length) .null
def ev_isC : Instr → Option Nat
  | .invokevirtual x | .invokespecial x | .invokestatic x => some x
  | _ => none
/-- the kind of call that an instruction may make -/
def ev_ck (i : Instr) (k : Nat) : Bool := match i with
  | .invokevirtual _ => k == 0
  | .invokestatic _ => k == 1
  | .invokespecial _ => k == 2 || k == 3
  | _ => false
/-- the receiver is of the method's class -/
def ev_rc (M : ev_M) (h : hp_H) (a : List Value) : Bool := if mS M = true then true else match a with
  | .ref k :: _ => if k < 1000000 then (match (hp_sh h)[k]? with
      | some (c, _) => decide (c = mO M ∧ c < 12)
      | none => false) else decide (mO M = 14 ∧ sp_S ≤ k ∧ k < sp_S + 27)
  | _ => false
abbrev ev_Re : Type := Option (Option Value × hp_H)
def ev_na (M : ev_M) : Nat := if mS M = true then mN M else mN M + 1
/-- the law's own led: what SworeCaptain.led answers goes into the row o, or it has thrown -/
def ev_led (call2 rec : ev_M → Nat → List Value → List Value → hp_H → ev_Re) (M : ev_M) (i : Instr) (x pc : Nat) (ls st : List Value) (h : hp_H) : ev_Re := match i, ev_pr (mO M) x, st with
  | .invokestatic _, some 4, .ref o :: .int a :: .ref k :: r =>
    if ev_rc mX11_led h [.ref k, .int a] = true ∧ o < 1000000 ∧ (hp_sh h)[o]? = some (13, 1) ∧ (r.map fun v => v.category).sum ≤ 9 then
      match call2 mX11_led 0 (ev_entry [.ref k, .int a] 3) [] h with
      | some (some (.int v), h') => if (hp_sh h')[o]? = some (13, 1) ∧ h'.1 = h.1 then rec M (pc + 3) ls (.int 0 :: r) (hp_sJ h' o 0 v.toInt64) else none
      | some (some .null, h') => if h'.1 = h.1 then rec M (pc + 3) ls (.int 1 :: r) ((h'.1.1, h'.1.2.1 + 1, h'.1.2.2 + 6), h'.2) else none
      | _ => none
    else none
  | _, _, _ => none
/-- a method's end -/
def ev_ret (M : ev_M) (i : Instr) (st : List Value) (h : hp_H) : ev_Re := match i, st with
  | .ireturn, [.int v] => match mR M with
    | some ty => if narrow ty (.int v) = .int v ∧ ty ≠ .long then some (some (.int v), h) else none
    | none => none
  | .lreturn, [.long v] => if mR M = some .long then some (some (.long v), h) else none
  | .return_, [] => if mR M = none then some (none, h) else none
  | .new x, [] => if mO M = 10 ∧ x = 379 then some (some .null, h) else none
  | _, _ => none
def ev_cal (call call2 rec : ev_M → Nat → List Value → List Value → hp_H → ev_Re) (M : ev_M) (i : Instr) (pc : Nat) (ls st : List Value) (h : hp_H) : ev_Re :=
  match ev_isC i with
  | some x => match ev_ct (mO M) x with
    | some (k, M') =>
      if ev_ck i k = true ∧ (st.take (ev_na M')).reverse.length = ev_na M' ∧ ev_rc M' h (st.take (ev_na M')).reverse = true ∧ ((st.drop (ev_na M')).map fun v => v.category).sum ≤ 9 ∧ (ev_en (st.take (ev_na M')).reverse).length ≤ mX M' then
        match call M' 0 (ev_entry (st.take (ev_na M')).reverse (mX M')) [] h with
        | some (v, h') => if v ≠ some .null ∧ (h'.1.2.1 = h.1.2.1 ∨ ev_vs (hp_sh h).length ls (st.drop (ev_na M')) = true) then rec M (pc + 3) ls (v.toList ++ st.drop (ev_na M')) h' else none
        | none => none
      else none
    | none => ev_led call2 rec M i x pc ls st h
  | none => none
def ev_step (call call2 rec : ev_M → Nat → List Value → List Value → hp_H → ev_Re) (M : ev_M) (pc : Nat) (ls st : List Value) (h : hp_H) : ev_Re :=
  match decode (mC M) pc with
  | .error _ => none
  | .ok (i, len) =>
    if ev_lok i len = true then
      match ev_stp M i pc ls st h with
      | some (pc', ls', st', h') => rec M pc' ls' st' h'
      | none => match ev_ret M i st h with
        | some z => some z
        | none => ev_cal call call2 rec M i pc ls st h
    else none
/-- at most d calls deep, n steps in a row -/
def ev : Nat → Nat → ev_M → Nat → List Value → List Value → hp_H → ev_Re
  | _, 0 => fun _ _ _ _ _ => none
  | 0, n + 1 => ev_step (fun _ _ _ _ _ => none) (fun _ _ _ _ _ => none) (ev 0 n)
  | 1, n + 1 => ev_step (ev 0 n) (fun _ _ _ _ _ => none) (ev 1 n)
  | d + 2, n + 1 => ev_step (ev (d + 1) n) (ev d n) (ev (d + 2) n)
