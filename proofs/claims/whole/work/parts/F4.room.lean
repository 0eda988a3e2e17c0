/-! ROOM at the start. -/
theorem st_room {s : State} {args : Array Value} {A : Nat → Prop} (hgv : (Jvm.Cond.and given_1 narrow_1).before args s = true) (hl : (Cond.laysStatic "SworeCaptain" "ROOM" "[I").before args s = true) (hi : (Cond.initialized "SworeCaptain").before args s = true) (hA : ∀ a : Nat, a < s.heap.size → ¬ A a) :
    ∃ t : Nat, va_Z "SworeCaptain" "ROOM" "[I" (.ref t) A s s.heap ∧ va_T .int t 7 (fun j => .int (ev_room.getD j 0)) A s s.heap := by
  have hs := flat_of_before _ hgv
  have h1 : (Cond.arrayOf (.static "SworeCaptain" "ROOM" "[I") .int).before args s = true := hs _ (by decide +kernel)
  have h2 : (Cond.eq (.length (.static "SworeCaptain" "ROOM" "[I")) (.int 7)).before args s = true := hs _ (by decide +kernel)
  obtain ⟨t, e, q⟩ := va_Tof (N := 7) (f := fun j => .int (ev_room.getD j 0)) (A := A) (by decide) h1 (va_eqt h2) (fun j hj => by
    match j, hj with
    | 0, _ => exact va_eqt (hs (.eq (.elem (.static "SworeCaptain" "ROOM" "[I") (.int 0)) (.int 6)) (by decide +kernel))
    | 1, _ => exact va_eqt (hs (.eq (.elem (.static "SworeCaptain" "ROOM" "[I") (.int 1)) (.int 10)) (by decide +kernel))
    | 2, _ => exact va_eqt (hs (.eq (.elem (.static "SworeCaptain" "ROOM" "[I") (.int 2)) (.int 8)) (by decide +kernel))
    | 3, _ => exact va_eqt (hs (.eq (.elem (.static "SworeCaptain" "ROOM" "[I") (.int 3)) (.int 8)) (by decide +kernel))
    | 4, _ => exact va_eqt (hs (.eq (.elem (.static "SworeCaptain" "ROOM" "[I") (.int 4)) (.int 6)) (by decide +kernel))
    | 5, _ => exact va_eqt (hs (.eq (.elem (.static "SworeCaptain" "ROOM" "[I") (.int 5)) (.int 5)) (by decide +kernel))
    | 6, _ => exact va_eqt (hs (.eq (.elem (.static "SworeCaptain" "ROOM" "[I") (.int 6)) (.int 4)) (by decide +kernel))
    | j + 7, hj => omega) hA
  exact ⟨t, va_Zref hl hi e hA, q⟩
