/-! The classes at the start. -/
theorem kn_0 {s : State} {args : Array Value} (hts : ∀ w ∈ wG, w.before args s = true) : ∃ (cC : ClassId) (iS : Nat → Nat), u_Kn s RX0 TX0 2 cC iS := u_known (n := 2) hts ui_0 (hts (.instantiable RX0 2) (nw_ok (o := 10) (x := 64) (c := 0) rfl).2.2.1)
theorem kn_1 {s : State} {args : Array Value} (hts : ∀ w ∈ wG, w.before args s = true) : ∃ (cC : ClassId) (iS : Nat → Nat), u_Kn s RX1 TX1 5 cC iS := u_known (n := 5) hts ui_1 (hts (.instantiable RX1 5) (nw_ok (o := 10) (x := 71) (c := 1) rfl).2.2.1)
theorem kn_2 {s : State} {args : Array Value} (hts : ∀ w ∈ wG, w.before args s = true) : ∃ (cC : ClassId) (iS : Nat → Nat), u_Kn s RX2 TX2 2 cC iS := u_known (n := 2) hts ui_2 (hts (.instantiable RX2 2) (nw_ok (o := 10) (x := 78) (c := 2) rfl).2.2.1)
theorem kn_3 {s : State} {args : Array Value} (hts : ∀ w ∈ wG, w.before args s = true) : ∃ (cC : ClassId) (iS : Nat → Nat), u_Kn s RX3 TX3 6 cC iS := u_known (n := 6) hts ui_3 (hts (.instantiable RX3 6) (nw_ok (o := 10) (x := 36) (c := 3) rfl).2.2.1)
theorem kn_4 {s : State} {args : Array Value} (hts : ∀ w ∈ wG, w.before args s = true) : ∃ (cC : ClassId) (iS : Nat → Nat), u_Kn s RX4 TX4 18 cC iS := u_known (n := 18) hts ui_4 (hts (.instantiable RX4 18) (nw_ok (o := 10) (x := 29) (c := 4) rfl).2.2.1)
theorem kn_5 {s : State} {args : Array Value} (hts : ∀ w ∈ wG, w.before args s = true) : ∃ (cC : ClassId) (iS : Nat → Nat), u_Kn s RX5 TX5 4 cC iS := u_known (n := 4) hts ui_5 (hts (.instantiable RX5 4) (nw_ok (o := 10) (x := 43) (c := 5) rfl).2.2.1)
theorem kn_6 {s : State} {args : Array Value} (hts : ∀ w ∈ wG, w.before args s = true) : ∃ (cC : ClassId) (iS : Nat → Nat), u_Kn s RX6 TX6 6 cC iS := u_known (n := 6) hts ui_6 (hts (.instantiable RX6 6) (nw_ok (o := 10) (x := 57) (c := 6) rfl).2.2.1)
theorem kn_7 {s : State} {args : Array Value} (hts : ∀ w ∈ wG, w.before args s = true) : ∃ (cC : ClassId) (iS : Nat → Nat), u_Kn s RX7 TX7 16 cC iS := u_known (n := 16) hts ui_7 (hts (.instantiable RX7 16) (nw_ok (o := 10) (x := 16) (c := 7) rfl).2.2.1)
theorem kn_8 {s : State} {args : Array Value} (hts : ∀ w ∈ wG, w.before args s = true) : ∃ (cC : ClassId) (iS : Nat → Nat), u_Kn s RX8 TX8 7 cC iS := u_known (n := 7) hts ui_8 (hts (.instantiable RX8 7) (nw_ok (o := 10) (x := 50) (c := 8) rfl).2.2.1)
theorem kn_9 {s : State} {args : Array Value} (hts : ∀ w ∈ wG, w.before args s = true) : ∃ (cC : ClassId) (iS : Nat → Nat), u_Kn s RX9 TX9 2 cC iS := u_known (n := 2) hts ui_9 (hts (.instantiable RX9 2) (nw_ok (o := 10) (x := 7) (c := 9) rfl).2.2.1)
theorem kn_10 {s : State} {args : Array Value} (hts : ∀ w ∈ wG, w.before args s = true) : ∃ (cC : ClassId) (iS : Nat → Nat), u_Kn s RX11 TX11 13 cC iS := u_known (n := 13) hts ui_10 (hts (.instantiable RX11 13) (nw_ok (o := 13) (x := 8) (c := 10) rfl).2.2.1)
theorem kn_11 {s : State} {args : Array Value} (hts : ∀ w ∈ wG, w.before args s = true) : ∃ (cC : ClassId) (iS : Nat → Nat), u_Kn s RX12 TX12 37 cC iS := u_known (n := 37) hts ui_11 (hts (.instantiable RX12 37) (nw_ok (o := 13) (x := 16) (c := 11) rfl).2.2.1)
theorem kn_all {s : State} {args : Array Value} (hts : ∀ w ∈ wG, w.before args s = true) : ∃ (dC : Nat → ClassId) (dI : Nat → Nat → Nat), ∀ (k : Nat) (q : vw_C), vwCl[k]? = some q → u_Kn s q.1 q.2.1 q.2.2 (dC k) (dI k) := by
  obtain ⟨c0, i0, h0⟩ := kn_0 hts
  obtain ⟨c1, i1, h1⟩ := kn_1 hts
  obtain ⟨c2, i2, h2⟩ := kn_2 hts
  obtain ⟨c3, i3, h3⟩ := kn_3 hts
  obtain ⟨c4, i4, h4⟩ := kn_4 hts
  obtain ⟨c5, i5, h5⟩ := kn_5 hts
  obtain ⟨c6, i6, h6⟩ := kn_6 hts
  obtain ⟨c7, i7, h7⟩ := kn_7 hts
  obtain ⟨c8, i8, h8⟩ := kn_8 hts
  obtain ⟨c9, i9, h9⟩ := kn_9 hts
  obtain ⟨c10, i10, h10⟩ := kn_10 hts
  obtain ⟨c11, i11, h11⟩ := kn_11 hts
  refine ⟨fun k => [c0, c1, c2, c3, c4, c5, c6, c7, c8, c9, c10, c11].getD k c0, fun k => [i0, i1, i2, i3, i4, i5, i6, i7, i8, i9, i10, i11].getD k i0, ?_⟩
  intro k q hq
  match k, hq with
  | 0, hq => cases hq; exact h0
  | 1, hq => cases hq; exact h1
  | 2, hq => cases hq; exact h2
  | 3, hq => cases hq; exact h3
  | 4, hq => cases hq; exact h4
  | 5, hq => cases hq; exact h5
  | 6, hq => cases hq; exact h6
  | 7, hq => cases hq; exact h7
  | 8, hq => cases hq; exact h8
  | 9, hq => cases hq; exact h9
  | 10, hq => cases hq; exact h10
  | 11, hq => cases hq; exact h11
  | k + 12, hq => simp [vwCl] at hq
