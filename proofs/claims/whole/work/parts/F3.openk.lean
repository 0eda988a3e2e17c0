/-! All classes at the start. -/
theorem kn_K {s : State} {args : Array Value} (hts : ∀ w ∈ wG, w.before args s = true) (h1 : va_AO "SworeCaptain$Moment" s) (h2 : va_AOA .int s) (h3 : va_AOA .long s) : ∃ (D : va_G) (cA : Nat → ClassId), va_K D vwCl (sm_tys cA) s := by
  obtain ⟨dC, dI, hk⟩ := kn_all hts
  obtain ⟨a, a1, a2⟩ := ka_p (hts _ ac_in.1)
  obtain ⟨b, b1, b2⟩ := ka_p (hts _ ac_in.2.1)
  obtain ⟨c, c1, c2⟩ := ka_p (hts _ ac_in.2.2)
  obtain ⟨d, d1, d2⟩ := ka_o h1
  obtain ⟨e, e1, e2⟩ := ka_a h2
  obtain ⟨f, f1, f2⟩ := ka_a h3
  refine ⟨(dC, dI), fun k => if k = 12 then a else if k = 13 then b else if k = 14 then c else if k = 15 then d else if k = 16 then e else f, hk, fun k q hq => ?_⟩
  match k, hq with
  | 0, hq => cases hq; exact ⟨a1, a2⟩
  | 1, hq => cases hq; exact ⟨b1, b2⟩
  | 2, hq => cases hq; exact ⟨c1, c2⟩
  | 3, hq => cases hq; exact ⟨d1, d2⟩
  | 4, hq => cases hq; exact ⟨e1, e2⟩
  | 5, hq => cases hq; exact ⟨f1, f2⟩
  | k + 6, hq => simp [sm_tys] at hq
theorem whole_open2 {p : Program} {e : Env} {s : State} {m : MethodId} {below : List Frame} {meth : Method} {c : Code} (l : Launch) (hLK : sm_LK l) {b L : Nat} {xs : Nat → Int32} (hL : L ≤ 3072) {Q : State → Prop} {ad : Nat → Nat} (hadX : ad sp_X = b)
    (hx : p.tables.exec = Jvm.exec) (hb : c.code = code) (hml : c.maxLocals = 7) (hown : s.vm.findClass "SworeCaptainLaw" = some m.cls) (hts : ∀ w ∈ lw_tbl, w.before #[Value.ref b] s = true) (hname : meth.name = "law")
    (hSt : sm_St ad L xs (fun q => s.heap.size ≤ q) s s.heap)
    (kk : ∀ (H : Heap) (ls : Array Slot) (pc : Nat), decode code pc = .ok (.ireturn, 1) → W p l e room_1 s m #[Value.ref b] below meth c H [] 601024 7293034 Q (F0 m pc ls [.int 1])) :
    W p l e room_1 s m #[Value.ref b] below meth c s.heap [] 0 0 Q (entryFrame m ([Value.ref b] : List Value).toArray 7) := by
  have hw := hSt.2.2.2.2.2.2
  obtain ⟨D, cA, hK⟩ := kn_K (fun w hw => hts w (List.mem_filter.mp hw).1) hw.2.2.1 hw.2.2.2.1 hw.2.2.2.2
  exact whole_open l hLK hL hadX hx hb hml hown hts hname hK hSt kk
