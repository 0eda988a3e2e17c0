/-! The law on the machine, out of its run by the interpreter (open: sm_LK, and what stood before). -/
theorem gl_sc {xs : Nat → Int32} {n : Nat} {h : hp_H} : sm_sc (gl xs (fun i => if i = 0 then some n else none) h) n xs := by
  refine ⟨?_, fun j hj => ?_⟩
  · simp [gl, hp_R]
  · simp [gl, hp_I]
theorem whole_open {p : Program} {e : Env} {s : State} {m : MethodId} {below : List Frame} {meth : Method} {c : Code} (l : Launch) (hLK : sm_LK l) {b L : Nat} {xs : Nat → Int32} (hL : L ≤ 3072) {Q : State → Prop} {D : va_G} {cA : Nat → ClassId} {ad : Nat → Nat} (hadX : ad sp_X = b)
    (hx : p.tables.exec = Jvm.exec) (hb : c.code = code) (hml : c.maxLocals = 7) (hown : s.vm.findClass "SworeCaptainLaw" = some m.cls) (hts : ∀ w ∈ lw_tbl, w.before #[Value.ref b] s = true) (hname : meth.name = "law") (hK : va_K D vwCl (sm_tys cA) s)
    (hSt : sm_St ad L xs (fun q => s.heap.size ≤ q) s s.heap)
    (kk : ∀ (H : Heap) (ls : Array Slot) (pc : Nat), decode code pc = .ok (.ireturn, 1) → W p l e room_1 s m #[Value.ref b] below meth c H [] 601024 7293034 Q (F0 m pc ls [.int 1])) :
    W p l e room_1 s m #[Value.ref b] below meth c s.heap [] 0 0 Q (entryFrame m ([Value.ref b] : List Value).toArray 7) := by
  obtain ⟨r, h', ⟨n, ev⟩, rfl, hq1, hq2⟩ := l_start (xs := xs) (ρ := fun i => if i = 0 then some L else none) hL rfl
  have hsum : (SH.map Prod.snd).sum + 6 * 513 ≤ 7293034 := by decide
  have hF : sm_Fx p s m #[Value.ref b] meth c mL_law D cA (fun q => s.heap.size ≤ q) := ⟨hx, hb, hml, hown, fun w hw => hts w (List.mem_filter.mp hw).1, hname, hK, fun q hq => hq⟩
  have hH : sm_Hx s D cA (fun q => s.heap.size ≤ q) L xs ad (gl xs (fun i => if i = 0 then some L else none) hc_0) s.heap [] := by
    refine ⟨fun k q h => ?_, ⟨fun i j p q h => ?_, fun k q h => ?_⟩, va_S.rf, fun k j q h => ?_, gl_sc, hSt⟩
    · simp [sm_w, hp_sh, gl, hc_0] at h
    · simp [sm_w, hp_sh, gl, hc_0] at h
    · simp [sm_w, hp_sh, gl, hc_0] at h
    · exact absurd h (Nat.not_lt_zero k)
  have hs := sm_all hLK n 12 mL_law 0 _ [] _ _ _ ev p e room_1 s m #[Value.ref b] below meth c s.heap [] 0 0 Q D cA (fun q => s.heap.size ≤ q) L xs ad
  rw [lg_entry_eq]
  have hl := sm_L_entry (ad := ad) (a := [.ref sp_X]) (n := 7) (by decide)
  have hargs : ([Value.ref sp_X].map (sm_cv ad)) = [Value.ref b] := by
    show [Value.ref (ad sp_X)] = _
    rw [hadX]
  rw [hargs] at hl
  refine hs _ hF hl hH (by decide) (by decide) ?_ ?_ (fun ad' als' H' locs' pc' st' e1 e2 e3 e4 => ?_)
  · show 0 + (h'.1.2.1 - 0) ≤ 601024
    omega
  · show 0 + (h'.1.2.2 - 0) ≤ 7293034
    omega
  · obtain ⟨d1, rfl, -⟩ := e4
    refine va_forget (fun q hq => e2.2.2.1.2.2 q hq) ?_
    refine W.widen (k := 601024) (n := 7293034) ?_ ?_ (kk _ _ _ d1)
    · show 0 + (h'.1.2.1 - 0) ≤ 601024
      omega
    · show 0 + (h'.1.2.2 - 0) ≤ 7293034
      omega
