/-! Calls in general; String.checkIndex. -/
theorem wGI {ws : List Cond} (h : ∀ w ∈ ws, w ∈ wG) : GoodIn wG ws := fun w hw => ⟨h w hw, good_of_word (wGg (h w hw))⟩
def wM (y : MethodName) (cc : ByteArray) (mx : Nat) (rt : Option FieldType) : List Cond := .code y cc mx rt :: wG
theorem wM_in {y : MethodName} {cc : ByteArray} {mx : Nat} {rt : Option FieldType} (h : Cond.code y cc mx rt ∈ wG) : ∀ w ∈ wM y cc mx rt, w ∈ wG := fun w hw => (List.mem_cons.mp hw).elim (fun e => by rw [e]; exact h) id
section
variable {p : Program} {l : Launch} {e : Env} {R : Room} {s : State} {m : MethodId} {args : Array Value} {below : List Frame} {meth : Method} {c : Code} {H : Heap} {locs : List Loc} {cells slots : Nat} {Q : State → Prop}
theorem sm_call {mc ms pc : Nat} {als : Array Slot} {st0 rest : List Value} {Qa : State → Outcome → State → Prop} {free : Addr → Prop} (hr : va_Run p l e R s m args below meth c H locs cells slots mc ms (F0 m pc als st0) rest Qa free)
    (kk : ∀ (v : Option Value) (st1 t : State) (L : List Loc), st1.heap = H → s.vm.Alike t.vm → Qa st1 (.returned v) t → (∀ q ∈ L, free q.base) → W p l e R s m args below meth c t.heap (locs ++ L) (cells + mc) (slots + ms) Q (F0 m (pc + 3) als (v.toList ++ rest))) : W p l e R s m args below meth c H locs cells slots Q (F0 m pc als st0) := by
  intro T hT X
  obtain ⟨v, st1, t, T', L, h0, X', hL, e1, e2, hq, st⟩ := hr T hT X
  obtain ⟨t2, a1, b1⟩ := kk v st1 t L h0 (by rw [← e2]; exact X'.warmed.alike) hq hL T' e1 X'
  exact ⟨t2, st t2 a1, b1⟩
end
set_option maxHeartbeats 4000000 in
set_option maxRecDepth 100000 in
theorem c_pre (l : Launch) (a b : Int32) (v : Value) (hc : v.category = 1) (h1 : ¬ a < 0) (h2 : a < b) : Met l yJ3_checkIndex_8e157 (wM yJ3_checkIndex_8e157 cJ3_checkIndex_8e157 3 (some .int)) ({ frames := 0, cells := 0, slots := 0, locals := 0 }) (va_Pc [.int a, .int b, v] (fun _ => True)) (fun _ st oc t => (∃ r : Int32, oc = .returned (some (.int r))) ∧ t.heap = st.heap) 0 0 (fun _ => False) := by
  refine Met.ofW (cc := cJ3_checkIndex_8e157) (maxL := 3) (ret := some .int) (by decide) rfl ?_
  intro p e s m args below meth c s₁ B hml hv
  obtain ⟨rfl, -⟩ := hv
  have hx := B.exec
  have hb := B.bytes
  have hr := B.returns
  have hlocks := B.notSynchronized
  have hl := lv_entry ([.int a, .int b, v]) (n := 3) (by show (lg_sl [.int a] ++ (lg_sl [.int b] ++ lg_sl [v])).length ≤ 3; simp [lg_sl, hc, show (Value.int a).category = 1 from rfl, show (Value.int b).category = 1 from rfl])
  rw [lg_entry_eq]
  generalize (lg_sl ([.int a, .int b, v]) ++ List.replicate (3 - (lg_sl ([.int a, .int b, v])).length) Slot.unset).toArray = ls at hl ⊢
  refine lv_iload_n hx hb dJ3_checkIndex_8e157_0 rfl (lv_at hl 0 rfl) ?_
  refine lv_if_lt (tgt := 9) hx hb dJ3_checkIndex_8e157_1 (by decide) (fun q => absurd q h1) (fun _ => ?_)
  refine lv_iload_n hx hb dJ3_checkIndex_8e157_4 rfl (lv_at hl 0 rfl) ?_
  refine lv_iload_n hx hb dJ3_checkIndex_8e157_5 rfl (lv_at hl 1 rfl) ?_
  refine lv_icmp_lt (tgt := 16) hx hb dJ3_checkIndex_8e157_6 (by decide) (fun _ => ?_) (fun q => absurd h2 q)
  refine lv_iload_n hx hb dJ3_checkIndex_8e157_16 rfl (lv_at hl 0 rfl) ?_
  exact W.iret hx hb hr (fun t ht _ => ⟨⟨_, rfl⟩, ht⟩) (fun q h => by cases h) dJ3_checkIndex_8e157_17
set_option maxHeartbeats 4000000 in
set_option maxRecDepth 100000 in
theorem c_ci (l : Launch) (a b : Int32) (h1 : ¬ a < 0) (h2 : a < b) : Met l yJ0_checkIndex_df160 (wM yJ0_checkIndex_df160 cJ0_checkIndex_df160 2 none) ({ frames := 1, cells := 0, slots := 0, locals := 40 }) (va_Pc [.int a, .int b] (fun U => va_Zq "jdk/internal/util/Preconditions" "SIOOBE_FORMATTER" "Ljava/util/function/BiFunction;" (fun _ => False) U U.heap)) (fun _ st oc t => oc = .returned none ∧ t.heap = st.heap) 0 0 (fun _ => False) := by
  refine Met.ofW (cc := cJ0_checkIndex_df160) (maxL := 2) (ret := none) (by decide) rfl ?_
  intro p e s m args below meth c s₁ B hml hv
  obtain ⟨rfl, hZ⟩ := hv
  have hx := B.exec
  have hb := B.bytes
  have hr := B.returns
  have hlocks := B.notSynchronized
  have hown : s.vm.findClass RJ0 = some m.cls := findClass_of_methodNamed B.named
  have hts0 := atoms_spec (ws := wM yJ0_checkIndex_df160 cJ0_checkIndex_df160 2 none) B.pre
  have hts : ∀ w ∈ wG, w.before _ s = true := fun w hw => hts0 w (List.mem_cons_of_mem _ hw)
  have hl := lv_entry ([.int a, .int b]) (n := 2) (Nat.le_of_ble_eq_true rfl)
  rw [lg_entry_eq]
  generalize (lg_sl ([.int a, .int b]) ++ List.replicate (2 - (lg_sl ([.int a, .int b])).length) Slot.unset).toArray = ls at hl ⊢
  have hS : va_S (fun _ => False) s.heap s.heap [] := va_S.rf
  refine lv_iload_n hx hb dJ0_checkIndex_df160_0 rfl (lv_at hl 0 rfl) ?_
  refine lv_iload_n hx hb dJ0_checkIndex_df160_1 rfl (lv_at hl 1 rfl) ?_
  have key : ∀ v : Value, v.category = 1 → W p l e (headSpec (wM yJ0_checkIndex_df160 cJ0_checkIndex_df160 2 none) ({ frames := 1, cells := 0, slots := 0, locals := 40 })).room s m (([.int a, .int b] : List Value).toArray) below meth c s.heap [] 0 0 (MQ below (fun _ st oc t => oc = .returned none ∧ t.heap = st.heap) (([.int a, .int b] : List Value).toArray) s 0 0 (fun _ => False)) (F0 m 5 ls [v, .int b, .int a]) := by
    intro v hvc
    refine sm_call (va_runS (As := [.int a, .int b, v]) (rest := []) ⟨hx, hb, hml, hown, hts⟩ (c_pre l a b v hvc h1 h2) (va_cwS 3 hts (wGI (by
      intro w hw
      rcases List.mem_append.mp hw with q | q
      · rcases List.mem_cons.mp q with q | q
        · rw [q]; exact wG1 182 rfl rfl
        · rcases List.mem_cons.mp q with q | q
          · rw [q]; exact wG1 183 rfl rfl
          · rw [List.mem_singleton.mp q]; exact wG1 7 rfl rfl
      · exact wM_in (wG1 184 rfl rfl) w q)) rfl rfl rfl ⟨by decide, by decide, by decide +kernel⟩ ⟨Nat.le_refl _, by decide⟩) ⟨fun _ _ _ _ q => ⟨q.1, trivial⟩, fun U _ _ => ⟨rfl, trivial⟩⟩ rfl rfl hl.1 rfl (lv_room (by decide)) dJ0_checkIndex_df160_5 ⟨Nat.le_refl _, Nat.le_refl _⟩) (fun v2 st1 t L g1 g2 g3 g4 => ?_)
    obtain ⟨⟨r2, hr2⟩, ht2⟩ := g3
    cases hr2
    rw [ht2, g1]
    refine lv_pop hx hb dJ0_checkIndex_df160_8 rfl ?_
    exact W.vret hx hb hr (fun t ht _ => ⟨rfl, ht⟩) (fun q h => (List.mem_append.mp h).elim (fun h => by cases h) (fun h => g4 q h)) dJ0_checkIndex_df160_9
  rcases hZ with hZ | ⟨t, hZ⟩
  · exact va_gets hx hb (ref := "jdk/internal/util/Preconditions") hZ hS hown (hts _ (wG1 180 rfl rfl)) (fun x h => h) dJ0_checkIndex_df160_2 (key _ rfl)
  · exact va_gets hx hb (ref := "jdk/internal/util/Preconditions") hZ hS hown (hts _ (wG1 180 rfl rfl)) (fun x h => h) dJ0_checkIndex_df160_2 (key _ rfl)
