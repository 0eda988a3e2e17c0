/-! What stands at the start. -/
theorem sk_two {P : Nat → Nat → Nat → Prop} {n : Nat} (h : ∀ j, j < n → ∃ a v, P j a v) : ∃ fa fv : Nat → Nat, ∀ j, j < n → P j (fa j) (fv j) := by
  refine ⟨fun j => if hj : j < n then Classical.choose (h j hj) else 0, fun j => if hj : j < n then Classical.choose (Classical.choose_spec (h j hj)) else 0, fun j hj => ?_⟩
  simp only [dif_pos hj]
  exact Classical.choose_spec (Classical.choose_spec (h j hj))
def st_ad (b r : Nat) (fa fv : Nat → Nat) (z : Nat) : Nat := if z = sp_X then b else if z = sp_R then r else if sp_V ≤ z then fv (z - sp_V) else fa (z - sp_S)
theorem st_adX (b r : Nat) (fa fv : Nat → Nat) : st_ad b r fa fv sp_X = b := rfl
theorem st_adR (b r : Nat) (fa fv : Nat → Nat) : st_ad b r fa fv sp_R = r := rfl
theorem st_adS (b r : Nat) (fa fv : Nat → Nat) {j : Nat} (hj : j < 27) : st_ad b r fa fv (sp_S + j) = fa j := by
  unfold st_ad
  rw [if_neg (by show ¬ 1000100 + j = 1000001; omega), if_neg (by show ¬ 1000100 + j = 1000000; omega), if_neg (by show ¬ 1000200 ≤ 1000100 + j; omega)]
  exact congrArg fa (by show 1000100 + j - 1000100 = j; omega)
theorem st_adV (b r : Nat) (fa fv : Nat → Nat) (j : Nat) : st_ad b r fa fv (sp_V + j) = fv j := by
  unfold st_ad
  rw [if_neg (by show ¬ 1000200 + j = 1000001; omega), if_neg (by show ¬ 1000200 + j = 1000000; omega), if_pos (by show 1000200 ≤ 1000200 + j; omega)]
  exact congrArg fv (by show 1000200 + j - 1000200 = j; omega)
set_option maxHeartbeats 4000000 in
theorem st_begin {s : State} {b L : Nat} {xs : Nat → Int32} (hgv : (Jvm.Cond.and given_1 narrow_1).before #[Value.ref b] s = true) (hts : ∀ w ∈ lw_tbl, w.before #[Value.ref b] s = true) (hX : va_X b L xs s s.heap) (hbl : b < s.heap.size) :
    ∃ ad : Nat → Nat, ad sp_X = b ∧ sm_St ad L xs (fun q => s.heap.size ≤ q) s s.heap := by
  have hA : ∀ a : Nat, a < s.heap.size → ¬ (fun q => s.heap.size ≤ q) a := fun a h1 h2 => Nat.not_le.mpr h1 h2
  obtain ⟨r, hr1, hr2⟩ := st_room (A := fun q => s.heap.size ≤ q) hgv (hts _ (wT1 61 rfl)) (hts _ (wT1 1 rfl)) hA
  have hall : ∀ j, j < 27 → ∃ a v : Nat, ∃ o x : Nat, ev_strs[j]? = some (o, x, ev_sb j) ∧ (Term.string (ev_on o) x).eval #[Value.ref b] s none [] s = some (.ref a) ∧ va_O "java/lang/String" a (fun q => s.heap.size ≤ q) s s.heap ∧ va_OF "java/lang/String" "coder" "B" (.int 0) a (fun q => s.heap.size ≤ q) s s.heap ∧ va_OF "java/lang/String" "value" "[B" (.ref v) a (fun q => s.heap.size ≤ q) s s.heap ∧ va_T .byte v (ev_sb j).length (fun i => .int ((ev_sb j).getD i 0)) (fun q => s.heap.size ≤ q) s s.heap := by
    intro j hj
    have hlen : ev_strs.length = 27 := by decide
    have hg : ev_strs[j]? = some (ev_strs[j]'(by rw [hlen]; exact hj)) := List.getElem?_eq_getElem (by rw [hlen]; exact hj)
    obtain ⟨q, hq⟩ : ∃ q, ev_strs[j]? = some q := ⟨_, hg⟩
    obtain ⟨o, x, bs⟩ := q
    have hbs : ev_sb j = bs := by
      unfold ev_sb
      rw [List.getD_eq_getElem?_getD, hq]
      rfl
    obtain ⟨a, v, z⟩ := st_one hgv hA (List.mem_of_getElem? hq)
    exact ⟨a, v, o, x, by rw [hbs]; exact hq, by rw [hbs]; exact z⟩
  obtain ⟨fa, fv, hf⟩ := sk_two hall
  refine ⟨st_ad b r fa fv, rfl, ?_, ?_, ?_, ?_, ?_, ?_, ?_⟩
  · rw [st_adR]
    exact ⟨hr1, hr2⟩
  · rw [st_adX]
    exact ⟨hX, hbl, hA b hbl⟩
  · intro j hj
    obtain ⟨o, x, -, -, z1, z2, z3, z4⟩ := hf j hj
    show va_O _ (st_ad b r fa fv (sp_S + j)) _ _ _ ∧ va_OF _ _ _ _ (st_ad b r fa fv (sp_S + j)) _ _ _ ∧ va_OF _ _ _ (.ref (st_ad b r fa fv (sp_V + j))) (st_ad b r fa fv (sp_S + j)) _ _ _ ∧ va_T _ (st_ad b r fa fv (sp_V + j)) _ _ _ _ _
    rw [st_adS b r fa fv hj, st_adV]
    exact ⟨z1, z2, z3, z4⟩
  · exact st_comp hgv (hts _ (wT1 165 rfl)) (hts _ (wT1 5 rfl)) hA
  · exact st_fmt hgv (hts _ (wT1 181 rfl)) (hts _ (wT1 7 rfl)) hA
  · exact ⟨vx_Zqof (hts _ (wT5 194 rfl)) (hts _ (wT1 20 rfl)) (flat_of_before _ hgv (.isRef (.static "java/lang/Throwable" "UNASSIGNED_STACK" "[Ljava/lang/StackTraceElement;")) (by decide +kernel)) hA,
      vx_Zqof (hts _ (wT5 196 rfl)) (hts _ (wT1 20 rfl)) (flat_of_before _ hgv (.isRef (.static "java/lang/Throwable" "SUPPRESSED_SENTINEL" "Ljava/util/List;")) (by decide +kernel)) hA⟩
  · refine ⟨fun o x j hj => ?_, fun w hw hn => ?_, ?_, ?_, ?_⟩
    · obtain ⟨bs, k1, tx, k2⟩ := lk_of (P := fun x j => st_P o x j) (stl_all o) hj
      have hj27 : j < 27 := by
        have hlen : ev_strs.length = 27 := by decide
        have := (List.getElem?_eq_some_iff.mp k1).1
        omega
      obtain ⟨o2, x2, k3, k4, -⟩ := hf j hj27
      rw [k1] at k3
      cases k3
      rw [st_adS b r fa fv hj27]
      exact ⟨tx, vk_R.of (hts _ k2) k4⟩
    · exact va_tabs (A := #[Value.ref b]) (by cases w <;> first | rfl | cases hn) rfl (hts w hw)
    · exact (hts (.arrayOver (.object "SworeCaptain$Moment")) (wT2 68 rfl))
    · exact (hts (.arrayOver (.array .int)) (wT2 126 rfl))
    · exact (hts (.arrayOver (.array .long)) (wT2 93 rfl))
