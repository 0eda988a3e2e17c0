/-! Each instruction of the interpreter is the machine's: constants, locals, stack, numbers, branches. -/
section
variable {p : Program} {l : Launch} {e : Env} {R : Room} {s : State} {m : MethodId} {args : Array Value} {below : List Frame} {meth : Method} {c : Code} {H : Heap} {locs : List Loc} {cells slots : Nat} {Q : State → Prop}
theorem sm_ldcwS {cc : ByteArray} {pc : Nat} {ls : Array Slot} {rest : List Value} (hexec : p.tables.exec = Jvm.exec) (hb : c.code = cc) {own tx : String} {index q : Nat} (hown : s.vm.findClass own = some m.cls) (hZ : vk_R own index tx q s) (hdg : decode cc pc = .ok (.ldc_w index, 3))
    (k : W p l e R s m args below meth c H locs cells slots Q (F0 m (pc + 3) ls (.ref q :: rest))) : W p l e R s m args below meth c H locs cells slots Q (F0 m pc ls rest) := by
  intro T hT X
  obtain ⟨t, a1, b1⟩ := k T hT X
  exact ⟨t, X.ldcStringW hexec hown (text := tx) (a := q) hZ.1 hZ.2 (g := F0 m pc ls rest) rfl (by rw [hb]; exact hdg) t a1, b1⟩
theorem sm_tg {pc : Nat} {off : Int} (h : 0 ≤ (pc : Int) + off) : (pc : Int) + off = ((ev_tg pc off : Nat) : Int) := (Int.toNat_of_nonneg h).symm
theorem sm_get {als : Array Slot} {nL i : Nat} {ad : Nat → Nat} {ls : List Value} {v : Value} (h : sm_L als nL ad ls) (hv : ls[i]? = some v) (hn : v ≠ Value.null) : als[i]? = some (.val (sm_cv ad v)) := h.2.2.2 i v hv hn
theorem sm_lt1 {ls ls' : List Value} {i nL : Nat} {v : Value} (h : ev_s1 ls i v = some ls') (hl : ls.length = nL) : i < nL := by
  unfold ev_s1 at h
  split at h
  · rename_i hc; rw [← hl]; exact hc.1
  · cases h
theorem sm_lt2 {ls ls' : List Value} {i nL : Nat} {v : Value} (h : ev_s2 ls i v = some ls') (hl : ls.length = nL) : i + 1 < nL := by
  unfold ev_s2 at h
  split at h
  · rename_i hc; rw [← hl]; exact hc.1
  · cases h
set_option maxHeartbeats 4000000 in
theorem sm_b {M : ev_M} {ad : Nat → Nat} {nL : Nat} {als : Array Slot} {i : Instr} {len pc pc' : Nat} {ls ls' st st' : List Value} {h h' : hp_H} (hx : p.tables.exec = Jvm.exec) (hb : c.code = mC M) (hL : sm_L als nL ad ls)
    (hd : decode (mC M) pc = .ok (i, len)) (hl : ev_lok i len = true) (he : ev_b i pc ls st h = some (pc', ls', st', h'))
    (k : h' = h → ∀ als', sm_L als' nL ad ls' → W p l e R s m args below meth c H locs cells slots Q (F0 m pc' als' (st'.map (sm_cv ad)))) : W p l e R s m args below meth c H locs cells slots Q (F0 m pc als (st.map (sm_cv ad))) := by
  cases i
  case iadd =>
    have hl1 : len = 1 := by simpa [ev_lok, ev_len] using hl
    subst hl1
    simp only [ev_b] at he
    split at he
    · cases he; exact lv_iadd hx hb hd (k rfl _ hL)
    · cases he
  case isub =>
    have hl1 : len = 1 := by simpa [ev_lok, ev_len] using hl
    subst hl1
    simp only [ev_b] at he
    split at he
    · cases he; exact lv_isub hx hb hd (k rfl _ hL)
    · cases he
  case imul =>
    have hl1 : len = 1 := by simpa [ev_lok, ev_len] using hl
    subst hl1
    simp only [ev_b] at he
    split at he
    · cases he; exact lv_imul hx hb hd (k rfl _ hL)
    · cases he
  case iand =>
    have hl1 : len = 1 := by simpa [ev_lok, ev_len] using hl
    subst hl1
    simp only [ev_b] at he
    split at he
    · cases he; exact lv_iand hx hb hd (k rfl _ hL)
    · cases he
  case ior =>
    have hl1 : len = 1 := by simpa [ev_lok, ev_len] using hl
    subst hl1
    simp only [ev_b] at he
    split at he
    · cases he; exact lv_ior hx hb hd (k rfl _ hL)
    · cases he
  case ixor =>
    have hl1 : len = 1 := by simpa [ev_lok, ev_len] using hl
    subst hl1
    simp only [ev_b] at he
    split at he
    · cases he; exact lv_ixor hx hb hd (k rfl _ hL)
    · cases he
  case ishl =>
    have hl1 : len = 1 := by simpa [ev_lok, ev_len] using hl
    subst hl1
    simp only [ev_b] at he
    split at he
    · cases he; exact lv_ishl hx hb hd (k rfl _ hL)
    · cases he
  case ishr =>
    have hl1 : len = 1 := by simpa [ev_lok, ev_len] using hl
    subst hl1
    simp only [ev_b] at he
    split at he
    · cases he; exact lv_ishr hx hb hd (k rfl _ hL)
    · cases he
  case ladd =>
    have hl1 : len = 1 := by simpa [ev_lok, ev_len] using hl
    subst hl1
    simp only [ev_b] at he
    split at he
    · cases he; exact lv_ladd hx hb hd (k rfl _ hL)
    · cases he
  case lsub =>
    have hl1 : len = 1 := by simpa [ev_lok, ev_len] using hl
    subst hl1
    simp only [ev_b] at he
    split at he
    · cases he; exact lv_lsub hx hb hd (k rfl _ hL)
    · cases he
  case lmul =>
    have hl1 : len = 1 := by simpa [ev_lok, ev_len] using hl
    subst hl1
    simp only [ev_b] at he
    split at he
    · cases he; exact lv_lmul hx hb hd (k rfl _ hL)
    · cases he
  case idiv =>
    have hl1 : len = 1 := by simpa [ev_lok, ev_len] using hl
    subst hl1
    simp only [ev_b] at he
    split at he
    · split at he
      · cases he
      · rename_i hne; cases he; exact lv_idiv hx hb hd hne (k rfl _ hL)
    · cases he
  case irem =>
    have hl1 : len = 1 := by simpa [ev_lok, ev_len] using hl
    subst hl1
    simp only [ev_b] at he
    split at he
    · split at he
      · cases he
      · rename_i hne; cases he; exact lv_irem hx hb hd hne (k rfl _ hL)
    · cases he
  case ldiv =>
    have hl1 : len = 1 := by simpa [ev_lok, ev_len] using hl
    subst hl1
    simp only [ev_b] at he
    split at he
    · split at he
      · cases he
      · rename_i hne; cases he; exact lv_ldiv hx hb hd hne (k rfl _ hL)
    · cases he
  case lrem =>
    have hl1 : len = 1 := by simpa [ev_lok, ev_len] using hl
    subst hl1
    simp only [ev_b] at he
    split at he
    · split at he
      · cases he
      · rename_i hne; cases he; exact lv_lrem hx hb hd hne (k rfl _ hL)
    · cases he
  case iushr =>
    have hl1 : len = 1 := by simpa [ev_lok, ev_len] using hl
    subst hl1
    simp only [ev_b] at he
    split at he
    · cases he; exact lv_iushr hx hb hd rfl (k rfl _ hL)
    · cases he
  case lcmp =>
    have hl1 : len = 1 := by simpa [ev_lok, ev_len] using hl
    subst hl1
    simp only [ev_b] at he
    split at he
    · cases he; exact W.lcmp hx hb hd (k rfl _ hL)
    · cases he
  case i2l =>
    have hl1 : len = 1 := by simpa [ev_lok, ev_len] using hl
    subst hl1
    simp only [ev_b] at he
    split at he
    · cases he; exact lv_i2l hx hb hd rfl (k rfl _ hL)
    · cases he
  case i2b =>
    have hl1 : len = 1 := by simpa [ev_lok, ev_len] using hl
    subst hl1
    simp only [ev_b] at he
    split at he
    · cases he; exact lv_i2b hx hb hd rfl (k rfl _ hL)
    · cases he
  case i2c =>
    have hl1 : len = 1 := by simpa [ev_lok, ev_len] using hl
    subst hl1
    simp only [ev_b] at he
    split at he
    · cases he; exact lv_i2c hx hb hd rfl (k rfl _ hL)
    · cases he
  case goto off =>
    have hl1 : len = 3 := by simpa [ev_lok, ev_len] using hl
    subst hl1
    simp only [ev_b] at he
    split at he
    · rename_i h0; cases he; exact lv_goto hx hb hd (sm_tg h0) (k rfl _ hL)
    · cases he
  case ifCond cc off =>
    have hl1 : len = 3 := by simpa [ev_lok, ev_len] using hl
    subst hl1
    simp only [ev_b] at he
    split at he
    · split at he
      · rename_i h0
        cases he
        cases cc
        case eq => exact lv_if_eq (tgt := ev_tg pc off) hx hb hd (sm_tg h0) (fun q => by have q2 := k rfl _ hL; rw [if_pos (by simpa [ev_cnd] using q)] at q2; exact q2) (fun q => by have q2 := k rfl _ hL; rw [if_neg (by simpa [ev_cnd] using q)] at q2; exact q2)
        case ne => exact lv_if_ne (tgt := ev_tg pc off) hx hb hd (sm_tg h0) (fun q => by have q2 := k rfl _ hL; rw [if_pos (by simpa [ev_cnd] using q)] at q2; exact q2) (fun q => by have q2 := k rfl _ hL; rw [if_neg (by simpa [ev_cnd] using q)] at q2; exact q2)
        case lt => exact lv_if_lt (tgt := ev_tg pc off) hx hb hd (sm_tg h0) (fun q => by have q2 := k rfl _ hL; rw [if_pos (by simpa [ev_cnd] using q)] at q2; exact q2) (fun q => by have q2 := k rfl _ hL; rw [if_neg (by simpa [ev_cnd] using q)] at q2; exact q2)
        case ge => exact lv_if_ge (tgt := ev_tg pc off) hx hb hd (sm_tg h0) (fun q => by have q2 := k rfl _ hL; rw [if_pos (by simpa [ev_cnd] using q)] at q2; exact q2) (fun q => by have q2 := k rfl _ hL; rw [if_neg (by simpa [ev_cnd] using q)] at q2; exact q2)
        case gt => exact lv_if_gt (tgt := ev_tg pc off) hx hb hd (sm_tg h0) (fun q => by have q2 := k rfl _ hL; rw [if_pos (by simpa [ev_cnd] using q)] at q2; exact q2) (fun q => by have q2 := k rfl _ hL; rw [if_neg (by simpa [ev_cnd] using q)] at q2; exact q2)
        case le => exact lv_if_le (tgt := ev_tg pc off) hx hb hd (sm_tg h0) (fun q => by have q2 := k rfl _ hL; rw [if_pos (by simpa [ev_cnd] using q)] at q2; exact q2) (fun q => by have q2 := k rfl _ hL; rw [if_neg (by simpa [ev_cnd] using q)] at q2; exact q2)
      · cases he
    · cases he
  case if_icmp cc off =>
    have hl1 : len = 3 := by simpa [ev_lok, ev_len] using hl
    subst hl1
    simp only [ev_b] at he
    split at he
    · split at he
      · rename_i h0
        cases he
        cases cc
        case eq => exact lv_icmp_eq (tgt := ev_tg pc off) hx hb hd (sm_tg h0) (fun q => by have q2 := k rfl _ hL; rw [if_pos (by simpa [ev_cnd] using q)] at q2; exact q2) (fun q => by have q2 := k rfl _ hL; rw [if_neg (by simpa [ev_cnd] using q)] at q2; exact q2)
        case ne => exact lv_icmp_ne (tgt := ev_tg pc off) hx hb hd (sm_tg h0) (fun q => by have q2 := k rfl _ hL; rw [if_pos (by simpa [ev_cnd] using q)] at q2; exact q2) (fun q => by have q2 := k rfl _ hL; rw [if_neg (by simpa [ev_cnd] using q)] at q2; exact q2)
        case lt => exact lv_icmp_lt (tgt := ev_tg pc off) hx hb hd (sm_tg h0) (fun q => by have q2 := k rfl _ hL; rw [if_pos (by simpa [ev_cnd] using q)] at q2; exact q2) (fun q => by have q2 := k rfl _ hL; rw [if_neg (by simpa [ev_cnd] using q)] at q2; exact q2)
        case ge => exact lv_icmp_ge (tgt := ev_tg pc off) hx hb hd (sm_tg h0) (fun q => by have q2 := k rfl _ hL; rw [if_pos (by simpa [ev_cnd] using q)] at q2; exact q2) (fun q => by have q2 := k rfl _ hL; rw [if_neg (by simpa [ev_cnd] using q)] at q2; exact q2)
        case gt => exact lv_icmp_gt (tgt := ev_tg pc off) hx hb hd (sm_tg h0) (fun q => by have q2 := k rfl _ hL; rw [if_pos (by simpa [ev_cnd] using q)] at q2; exact q2) (fun q => by have q2 := k rfl _ hL; rw [if_neg (by simpa [ev_cnd] using q)] at q2; exact q2)
        case le => exact lv_icmp_le (tgt := ev_tg pc off) hx hb hd (sm_tg h0) (fun q => by have q2 := k rfl _ hL; rw [if_pos (by simpa [ev_cnd] using q)] at q2; exact q2) (fun q => by have q2 := k rfl _ hL; rw [if_neg (by simpa [ev_cnd] using q)] at q2; exact q2)
      · cases he
    · cases he
  case tableswitch dflt lo hi offs =>
    simp only [ev_b] at he
    split at he
    · split at he
      · rename_i h1
        split at he
        · rename_i h0; cases he; exact lv_tableOut hx hb hd h1 (sm_tg h0) (k rfl _ hL)
        · cases he
      · rename_i h1
        split at he
        · rename_i off ho
          split at he
          · rename_i h0
            cases he
            exact lv_tableIn hx hb hd (fun q => h1 (Or.inl q)) (fun q => h1 (Or.inr q)) ho (sm_tg h0) (k rfl _ hL)
          · cases he
        · cases he
    · cases he
  all_goals (simp [ev_b] at he)
set_option maxHeartbeats 4000000 in
theorem sm_a {M : ev_M} {ad : Nat → Nat} {nL : Nat} {als : Array Slot} {i : Instr} {len pc pc' : Nat} {ls ls' st st' : List Value} {h h' : hp_H} (hx : p.tables.exec = Jvm.exec) (hb : c.code = mC M) (hL : sm_L als nL ad ls) (hown : s.vm.findClass (ev_on (mO M)) = some m.cls)
    (hki : ∀ (x : Nat) (v : Int32), (ev_kil (mO M)).lookup x = some v → (Jvm.Cond.constant (ev_on (mO M)) x v).before args s = true) (hkl : ∀ (x : Nat) (v : Int64), (ev_kll (mO M)).lookup x = some v → (Jvm.Cond.constantLong (ev_on (mO M)) x v).before args s = true)
    (hks : ∀ x j : Nat, (ev_stl (mO M)).lookup x = some j → ∃ tx : String, vk_R (ev_on (mO M)) x tx (ad (sp_S + j)) s)
    (hd : decode (mC M) pc = .ok (i, len)) (hl : ev_lok i len = true) (he : ev_a (mO M) i pc ls st h = some (pc', ls', st', h'))
    (k : h' = h → ∀ als', sm_L als' nL ad ls' → W p l e R s m args below meth c H locs cells slots Q (F0 m pc' als' (st'.map (sm_cv ad)))) : W p l e R s m args below meth c H locs cells slots Q (F0 m pc als (st.map (sm_cv ad))) := by
  cases i
  case iconst n =>
    have hl1 : len = 1 := by simpa [ev_lok, ev_len] using hl
    subst hl1
    simp only [ev_a] at he
    cases he; exact lv_iconst hx hb hd rfl (k rfl _ hL)
  case bipush n =>
    have hl1 : len = 2 := by simpa [ev_lok, ev_len] using hl
    subst hl1
    simp only [ev_a] at he
    cases he; exact lv_bipush hx hb hd rfl (k rfl _ hL)
  case sipush n =>
    have hl1 : len = 3 := by simpa [ev_lok, ev_len] using hl
    subst hl1
    simp only [ev_a] at he
    cases he; exact lv_sipush hx hb hd rfl (k rfl _ hL)
  case lconst n =>
    have hl1 : len = 1 := by simpa [ev_lok, ev_len] using hl
    subst hl1
    simp only [ev_a] at he
    cases he; exact lv_lconst hx hb hd rfl (k rfl _ hL)
  case iload_n n =>
    have hl1 : len = 1 := by simpa [ev_lok, ev_len] using hl
    subst hl1
    simp only [ev_a] at he
    split at he
    · rename_i hv; cases he; exact lv_iload_n hx hb hd rfl (sm_get hL hv (by intro q; cases q)) (k rfl _ hL)
    · cases he
  case iload n =>
    have hl1 : len = 2 := by simpa [ev_lok, ev_len] using hl
    subst hl1
    simp only [ev_a] at he
    split at he
    · rename_i hv; cases he; exact lv_iload hx hb hd (sm_get hL hv (by intro q; cases q)) (k rfl _ hL)
    · cases he
  case lload_n n =>
    have hl1 : len = 1 := by simpa [ev_lok, ev_len] using hl
    subst hl1
    simp only [ev_a] at he
    split at he
    · rename_i hv; cases he; exact lv_lload_n hx hb hd rfl (sm_get hL hv (by intro q; cases q)) (k rfl _ hL)
    · cases he
  case lload n =>
    have hl1 : len = 2 := by simpa [ev_lok, ev_len] using hl
    subst hl1
    simp only [ev_a] at he
    split at he
    · rename_i hv; cases he; exact lv_lload hx hb hd (sm_get hL hv (by intro q; cases q)) (k rfl _ hL)
    · cases he
  case aload_n n =>
    have hl1 : len = 1 := by simpa [ev_lok, ev_len] using hl
    subst hl1
    simp only [ev_a] at he
    split at he
    · rename_i hv; cases he; exact lv_aload_n hx hb hd rfl (sm_get hL hv (by intro q; cases q)) (k rfl _ hL)
    · cases he
  case aload n =>
    have hl1 : len = 2 := by simpa [ev_lok, ev_len] using hl
    subst hl1
    simp only [ev_a] at he
    split at he
    · rename_i hv; cases he; exact lv_aload hx hb hd (sm_get hL hv (by intro q; cases q)) (k rfl _ hL)
    · cases he
  case istore_n n =>
    have hl1 : len = 1 := by simpa [ev_lok, ev_len] using hl
    subst hl1
    simp only [ev_a] at he
    split at he
    · rename_i x r
      cases hs : ev_s1 ls n _ with
      | none => rw [hs] at he; cases he
      | some ls1 =>
        rw [hs] at he
        cases he
        exact lv_istore_n hx hb hd rfl hL.has (sm_lt1 hs hL.2.2.1) rfl (fun als1 h1 => k rfl _ (hL.s1 hs h1))
    · cases he
  case istore n =>
    have hl1 : len = 2 := by simpa [ev_lok, ev_len] using hl
    subst hl1
    simp only [ev_a] at he
    split at he
    · rename_i x r
      cases hs : ev_s1 ls n _ with
      | none => rw [hs] at he; cases he
      | some ls1 =>
        rw [hs] at he
        cases he
        exact lv_istore hx hb hd hL.has (sm_lt1 hs hL.2.2.1) rfl (fun als1 h1 => k rfl _ (hL.s1 hs h1))
    · cases he
  case lstore_n n =>
    have hl1 : len = 1 := by simpa [ev_lok, ev_len] using hl
    subst hl1
    simp only [ev_a] at he
    split at he
    · rename_i x r
      cases hs : ev_s2 ls n _ with
      | none => rw [hs] at he; cases he
      | some ls1 =>
        rw [hs] at he
        cases he
        exact lv_lstore_n hx hb hd rfl hL.has (sm_lt2 hs hL.2.2.1) rfl (fun als1 h1 => k rfl _ (hL.s2 hs h1))
    · cases he
  case lstore n =>
    have hl1 : len = 2 := by simpa [ev_lok, ev_len] using hl
    subst hl1
    simp only [ev_a] at he
    split at he
    · rename_i x r
      cases hs : ev_s2 ls n _ with
      | none => rw [hs] at he; cases he
      | some ls1 =>
        rw [hs] at he
        cases he
        exact lv_lstore hx hb hd hL.has (sm_lt2 hs hL.2.2.1) rfl (fun als1 h1 => k rfl _ (hL.s2 hs h1))
    · cases he
  case astore_n n =>
    have hl1 : len = 1 := by simpa [ev_lok, ev_len] using hl
    subst hl1
    simp only [ev_a] at he
    split at he
    · rename_i x r
      cases hs : ev_s1 ls n _ with
      | none => rw [hs] at he; cases he
      | some ls1 =>
        rw [hs] at he
        cases he
        exact lv_astore_n hx hb hd rfl hL.has (sm_lt1 hs hL.2.2.1) rfl (fun als1 h1 => k rfl _ (hL.s1 hs h1))
    · cases he
  case astore n =>
    have hl1 : len = 2 := by simpa [ev_lok, ev_len] using hl
    subst hl1
    simp only [ev_a] at he
    split at he
    · rename_i x r
      cases hs : ev_s1 ls n _ with
      | none => rw [hs] at he; cases he
      | some ls1 =>
        rw [hs] at he
        cases he
        exact lv_astore hx hb hd hL.has (sm_lt1 hs hL.2.2.1) rfl (fun als1 h1 => k rfl _ (hL.s1 hs h1))
    · cases he
  case iinc n d =>
    have hl1 : len = 3 := by simpa [ev_lok, ev_len] using hl
    subst hl1
    simp only [ev_a] at he
    split at he
    · rename_i x hv
      cases hs : ev_s1 ls n (.int (x + Int32.ofInt d)) with
      | none => rw [hs] at he; cases he
      | some ls1 =>
        rw [hs] at he
        cases he
        obtain ⟨kk, hk⟩ := List.getElem?_of_mem (sm_l_mem (ad := ad) hv (by intro q; cases q))
        exact lv_iinc hx hb hd hL.has hk rfl (sm_lt1 hs hL.2.2.1) rfl (fun als1 h1 => k rfl _ (hL.s1 hs h1))
    · cases he
  case dup =>
    have hl1 : len = 1 := by simpa [ev_lok, ev_len] using hl
    subst hl1
    simp only [ev_a] at he
    split at he
    · cases he; exact lv_dup hx hb hd rfl (k rfl _ hL)
    · cases he; exact lv_dup hx hb hd rfl (k rfl _ hL)
    · cases he
  case dup2 =>
    have hl1 : len = 1 := by simpa [ev_lok, ev_len] using hl
    subst hl1
    simp only [ev_a] at he
    split at he
    · cases he; exact lv_dup2_11 hx hb hd rfl rfl (k rfl _ hL)
    · cases he
  case pop =>
    have hl1 : len = 1 := by simpa [ev_lok, ev_len] using hl
    subst hl1
    simp only [ev_a] at he
    split at he
    · cases he; exact lv_pop hx hb hd rfl (k rfl _ hL)
    · cases he; exact lv_pop hx hb hd rfl (k rfl _ hL)
    · cases he
  case ldc n =>
    have hl1 : len = 2 := by simpa [ev_lok, ev_len] using hl
    subst hl1
    simp only [ev_a] at he
    split at he
    · rename_i v hv; cases he; exact lv_ldc hx hb hown (hki _ _ hv) hd (k rfl _ hL)
    · split at he
      · rename_i j hj; cases he
        obtain ⟨tx, hz⟩ := hks _ _ hj
        exact va_ldcS hx hb hown hz hd (k rfl _ hL)
      · cases he
  case ldc_w n =>
    have hl1 : len = 3 := by simpa [ev_lok, ev_len] using hl
    subst hl1
    simp only [ev_a] at he
    split at he
    · rename_i v hv; cases he; exact lv_ldcw hx hb hown (hki _ _ hv) hd (k rfl _ hL)
    · split at he
      · rename_i j hj; cases he
        obtain ⟨tx, hz⟩ := hks _ _ hj
        exact sm_ldcwS hx hb hown hz hd (k rfl _ hL)
      · cases he
  case ldc2_w n =>
    have hl1 : len = 3 := by simpa [ev_lok, ev_len] using hl
    subst hl1
    simp only [ev_a] at he
    split at he
    · rename_i v hv; cases he; exact lv_ldc2 hx hb hown (hkl _ _ hv) hd (k rfl _ hL)
    · cases he
  all_goals (simp [ev_a] at he)
end
