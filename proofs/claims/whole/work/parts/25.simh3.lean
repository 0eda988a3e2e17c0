section
variable {p : Program} {l : Launch} {e : Env} {R : Room} {s : State} {m : MethodId} {args : Array Value} {below : List Frame} {meth : Method} {c : Code} {H : Heap} {locs : List Loc} {cells slots : Nat} {Q : State → Prop}
variable {M : ev_M} {ad : Nat → Nat} {nL : Nat} {als : Array Slot} {pc : Nat} {ls r : List Value} {h : hp_H} {D : va_G} {cA : Nat → ClassId} {A : Nat → Prop}
theorem sm_spS {q : Nat} (h1 : sp_S ≤ q) (h2 : q < sp_S + 27) : ∃ j, j < 27 ∧ q = sp_S + j := ⟨q - sp_S, by simp only [sp_S] at *; omega, by simp only [sp_S] at *; omega⟩
theorem sm_spV {q : Nat} (h1 : sp_V ≤ q) (h2 : q < sp_V + 27) : ∃ j, j < 27 ∧ q = sp_V + j := ⟨q - sp_V, by simp only [sp_V] at *; omega, by simp only [sp_V] at *; omega⟩
theorem sm_cs {h' : hp_H} {g : JFrame} (e1 : h'.1 = h.1) (q : W p l e R s m args below meth c H locs (cells + (h'.1.2.1 - h.1.2.1)) (slots + (h'.1.2.2 - h.1.2.2)) Q g) : W p l e R s m args below meth c H locs cells slots Q g := by
  rw [e1, Nat.sub_self, Nat.sub_self] at q
  exact q
theorem sm_cs2 {h' : hp_H} {g : JFrame} {a b : Nat} (e1 : h'.1.2.1 = h.1.2.1 + a) (e2 : h'.1.2.2 = h.1.2.2 + b) (q : W p l e R s m args below meth c H locs (cells + (h'.1.2.1 - h.1.2.1)) (slots + (h'.1.2.2 - h.1.2.2)) Q g) : W p l e R s m args below meth c H locs (cells + a) (slots + b) Q g := by
  rw [e1, e2, Nat.add_sub_cancel_left, Nat.add_sub_cancel_left] at q
  exact q
theorem sm_ra {cX cY : ClassId} {t : FieldType} (h1 : va_RA s cX t) (h2 : va_RA s cY t) : cX = cY := by
  cases t with
  | object C =>
    obtain ⟨_, _, _, _, _, q1⟩ := h1
    obtain ⟨_, _, _, _, _, q2⟩ := h2
    exact Option.some.inj (q1.symm.trans q2)
  | _ => exact Option.some.inj (h1.symm.trans h2)
/-- the class of a new array is the one that the world knows -/
theorem sm_kk {cX : ClassId} {t : FieldType} {i : Nat} {cY : ClassId} (hK : va_K D vwCl (sm_tys cA) s) (hi : (sm_tys cA)[i]? = some (cY, t)) (hK2 : va_K D vwCl (sm_tys cA ++ [(cX, t)]) s) : cX = cY :=
  sm_ra (hK2.2 6 (cX, t) rfl).2 (hK.2 i _ hi).2
theorem sm_hx_new {L : Nat} {xs : Nat → Int32} {k n a : Nat} {H1 : Heap} (hlen : (hp_sh h).length < 900000) (ho : hp_ok h) (hsc : sm_sc h L xs) (hSt : sm_St ad L xs A s s.heap)
    (hP : va_P D vwCl (sm_w cA ad h ++ [(a, sm_cell cA ad hp_0 0 (k, n))]) H1) (hD : va_D A (sm_w cA ad h ++ [(a, sm_cell cA ad hp_0 0 (k, n))])) (hS : va_S A s.heap H1 locs) : sm_Hx s D cA A L xs (va_up ad (hp_sh h).length a) (hp_new h k n) H1 locs := by
  refine ⟨by rw [sm_w_new ho]; exact hP, by rw [sm_w_new ho]; exact hD, hS, hp_ok_new ho, sm_sc_new (by omega) hsc, ?_⟩
  have hu : ∀ z, 1000000 ≤ z → va_up ad (hp_sh h).length a z = ad z := fun z hz => va_up_ne _ _ (by omega)
  have e : sm_St (va_up ad (hp_sh h).length a) L xs A s s.heap = sm_St ad L xs A s s.heap := by
    have e1 := hu sp_R (by decide)
    have e2 := hu sp_X (by decide)
    have e3 : ∀ j, va_up ad (hp_sh h).length a (sp_S + j) = ad (sp_S + j) := fun j => hu _ (by show 1000000 ≤ 1000100 + j; omega)
    have e4 : ∀ j, va_up ad (hp_sh h).length a (sp_V + j) = ad (sp_V + j) := fun j => hu _ (by show 1000000 ≤ 1000200 + j; omega)
    unfold sm_St
    simp only [sm_StrJ, sm_Wd, e1, e2, e3, e4]
  rw [e]
  exact hSt
theorem sm_ex_new {k n a : Nat} (hlen : (hp_sh h).length < 900000) : sm_ex ad (va_up ad (hp_sh h).length a) h (hp_new h k n) :=
  ⟨fun z hz => va_up_ne _ _ (by omega), fun q => absurd q (by show ¬ h.1.2.1 + 1 = h.1.2.1; omega)⟩
theorem sm_aldA {tys : List (ClassId × FieldType)} {ws : va_W} {a : Nat} {rest : List Value} {cc : ByteArray} (hexec : p.tables.exec = Jvm.exec) (hb : c.code = cc) (hK : va_K D vwCl tys s) (hP : va_P D vwCl ws H) (q0 t0 : Nat) {cX : ClassId} {t : FieldType} {n : Nat} {f : Nat → Option Nat} (ha : ws[q0]? = some (a, .inl (cX, n, .inr (.inr (.inr (.inr f)))))) (ht : tys[t0]? = some (cX, t)) (hty : t.isReference = true) {i : Int32} (hin : vp_in i n) (hdg : decode cc pc = .ok (.aaload, 1))
    (kk : W p l e R s m args below meth c H locs cells slots Q (F0 m (pc + 1) als (va_rf (f i.toNatClampNeg) :: rest))) : W p l e R s m args below meth c H locs cells slots Q (F0 m pc als (.int i :: .ref a :: rest)) := by
  have hlt : i.toNatClampNeg < n := Nat.not_le.mp fun q => hin (Or.inr q)
  exact W.aald (v := va_rf (f i.toNatClampNeg)) (ty := t) hexec hb (hP q0 _ ha) ((hK.2 t0 _ ht).1 n (fun j => va_rf (f j))) hty (fun q => by cases q) (by show ¬ (i < 0 ∨ (arrV _ _ _).slots.size ≤ _); rw [arrV_size]; exact hin) (by show (arrV _ _ _).slots[_]? = _; rw [arrV_read _ _ hlt]) rfl rfl hdg kk
theorem sm_mnaK {L co ci n k q : Nat} {xs : Nat → Int32} {rr : Nat → Nat} {H1 : Heap} {P : List Value → Prop} (hlen : (hp_sh h).length < 900000) (hn : n ≤ 100) (ho : hp_ok h) (hsc : sm_sc h L xs) (hSt : sm_St ad L xs A s s.heap) (hco : 14 < co) (hci : ci = 12 ∨ ci = 13) (hv : ev_vs (hp_sh h).length ls r = true) (hL : sm_L als nL ad ls)
    (hP : va_P D vwCl ((sm_w cA ad h ++ [(q, .inl (cA co, n, .inr (.inr (.inr (.inr (fun i => if i < n then some (rr i) else none))))))]) ++ (List.range n).map (fun i => (rr i, sm_cell cA ad hp_0 0 (ci, k)))) H1)
    (hD : va_D A ((sm_w cA ad h ++ [(q, .inl (cA co, n, .inr (.inr (.inr (.inr (fun i => if i < n then some (rr i) else none))))))]) ++ (List.range n).map (fun i => (rr i, sm_cell cA ad hp_0 0 (ci, k))))) (hS : va_S A s.heap H1 locs)
    (kk : ∀ ad' : Nat → Nat, sm_ex ad ad' h (hp_mna h co ci n k) → sm_L als nL ad' ls → sm_Hx s D cA A L xs ad' (hp_mna h co ci n k) H1 locs → P ((.ref (hp_sh h).length :: r).map (sm_cv ad'))) : P (.ref q :: r.map (sm_cv ad)) := by
  have hu : ∀ z, (z < (hp_sh h).length ∨ 1000000 ≤ z) → sm_ad2 ad (hp_sh h).length n q rr z = ad z := fun z hz => by
    unfold sm_ad2
    rw [if_neg (by omega), if_neg (by omega)]
  obtain ⟨v1, v2⟩ := sm_vs2 hu hv
  have q5 := kk (sm_ad2 ad (hp_sh h).length n q rr) ⟨hu, fun z => absurd z (by rw [(hp_mna_f h co ci n k).1]; dsimp only; omega)⟩ (v1 _ _ hL) ⟨by rw [sm_w_mna ho hco hci]; exact hP, by rw [sm_w_mna ho hco hci]; exact hD, hS, hp_ok_mna ho, sm_sc_mna (by simp only [hp_sh] at hlen; omega) hsc, ?_⟩
  · rw [List.map_cons, v2] at q5
    have e2 : sm_ad2 ad (hp_sh h).length n q rr (hp_sh h).length = q := by unfold sm_ad2; rw [if_pos rfl]
    rw [show sm_cv (sm_ad2 ad (hp_sh h).length n q rr) (.ref (hp_sh h).length) = .ref q from congrArg Value.ref e2] at q5
    exact q5
  · have e : sm_St (sm_ad2 ad (hp_sh h).length n q rr) L xs A s s.heap = sm_St ad L xs A s s.heap := by
      have e1 := hu sp_R (Or.inr (by decide))
      have e2 := hu sp_X (Or.inr (by decide))
      have e3 : ∀ j, sm_ad2 ad (hp_sh h).length n q rr (sp_S + j) = ad (sp_S + j) := fun j => hu _ (Or.inr (by show 1000000 ≤ 1000100 + j; omega))
      have e4 : ∀ j, sm_ad2 ad (hp_sh h).length n q rr (sp_V + j) = ad (sp_V + j) := fun j => hu _ (Or.inr (by show 1000000 ≤ 1000200 + j; omega))
      unfold sm_St
      simp only [sm_StrJ, sm_Wd, e1, e2, e3, e4]
    rw [e]
    exact hSt
set_option maxHeartbeats 8000000 in
theorem sm_h {i : Instr} {len pc' L : Nat} {xs : Nat → Int32} {st ls' st' : List Value} {h' : hp_H} (hF : sm_Fx p s m args meth c M D cA A) (hL : sm_L als (mX M) ad ls) (hH : sm_Hx s D cA A L xs ad h H locs)
    (hfr : 1 ≤ R.frames) (hlo : 40 ≤ R.locals) (hrc : cells + (h'.1.2.1 - h.1.2.1) ≤ R.cells) (hrs : slots + (h'.1.2.2 - h.1.2.2) ≤ R.slots)
    (hci : ∀ a b : Int32, ¬ a < 0 → a < b → ∀ x : Nat, ev_prok (mO M) x yJ0_checkIndex_df160 → decode (mC M) pc = .ok (.invokestatic x, 3) → ∀ r : List Value, (r.map fun v => v.category).sum ≤ 9 → W p l e R s m args below meth c H locs cells slots Q (F0 m (pc + 3) als (r.map (sm_cv ad))) → W p l e R s m args below meth c H locs cells slots Q (F0 m pc als (.int b :: .int a :: r.map (sm_cv ad))))
    (hd : decode (mC M) pc = .ok (i, len)) (hl : ev_lok i len = true) (he : ev_h M i pc ls st h = some (pc', ls', st', h'))
    (k : ∀ ad' als' H' locs', sm_ex ad ad' h h' → sm_L als' (mX M) ad' ls' → sm_Hx s D cA A L xs ad' h' H' locs' → W p l e R s m args below meth c H' locs' (cells + (h'.1.2.1 - h.1.2.1)) (slots + (h'.1.2.2 - h.1.2.2)) Q (F0 m pc' als' (st'.map (sm_cv ad')))) : W p l e R s m args below meth c H locs cells slots Q (F0 m pc als (st.map (sm_cv ad))) := by
  obtain ⟨hx, hb, hml, hown, hts, hin, hK, hA⟩ := id hF
  obtain ⟨hP, hD, hS, ho, hsc, hSt⟩ := id hH
  have catr : ∀ r : List Value, (r.map (sm_cv ad)).map (fun v => v.category) = r.map fun v => v.category := fun r => by rw [List.map_map]; exact List.map_congr_left fun v _ => sm_cv_cat ad v
  cases i
  case getfield x =>
    have hl1 : len = 3 := by simpa [ev_lok, ev_len] using hl
    subst hl1
    simp only [ev_h] at he
    split at he
    · rename_i q r
      split at he
      · rename_i hq
        split at he
        · rename_i c' j c2 n hf hk
          split at he
          · rename_i hc
            obtain ⟨rfl, hj⟩ := hc
            cases hg : hp_get h q c2 j with
            | none => rw [hg] at he; cases he
            | some v =>
              rw [hg] at he
              cases he
              obtain ⟨hc, hft⟩ := ft_ok hf
              obtain ⟨T, N, ty, hcl⟩ := cs_all c2 hc
              obtain ⟨hjN, hlk⟩ := hft T N ty hcl
              obtain ⟨h1, h2, h3, h4, h5, h6, h7⟩ := hcl
              have hw : (sm_w cA ad h)[q]? = some (ad q, .inr (c2, (List.range n).map (sm_fv ad h q c2))) := by rw [sm_w_get hk, sm_cell_o hc]
              exact va_get hx hb hts h4 hown hK hP q hw h1 j hjN (hts _ hlk) (fun x h => by rw [(h7 j hjN).1] at h; exact h) (v := sm_cv ad v) (by rw [sm_fs_get hj, sm_hget hg]) hd (sm_cs rfl (k ad als H locs sm_ex.rf hL hH))
          · cases he
        · cases he
      · split at he
        · rename_i hq
          obtain ⟨hM, h1, h2⟩ := hq
          obtain ⟨j, hj, rfl⟩ := sm_spS h1 h2
          obtain ⟨g1, g2, g3, g4⟩ := hSt.2.2.1 j hj
          split at he
          · rename_i hx9
            cases he
            subst hx9
            refine vk_getf hx hb g3 hS hown (ref := "java/lang/String") (by rw [hM]; exact hts _ sl_in.1) (fun x h => h) hd (sm_cs (h' := h) (h := h) rfl (by have q := k ad als H locs sm_ex.rf hL hH; rw [show sp_S + j + 100 = sp_V + j by simp only [sp_S, sp_V]; omega] at q; exact q))
          · split at he
            · rename_i hx15
              cases he
              subst hx15
              refine vk_getf hx hb g2 hS hown (ref := "java/lang/String") (by rw [hM]; exact hts _ sl_in.2.1) (fun x h => h) hd (sm_cs rfl (k ad als H locs sm_ex.rf hL hH))
            · cases he
        · cases he
    · cases he
  case putfield x =>
    have hl1 : len = 3 := by simpa [ev_lok, ev_len] using hl
    subst hl1
    simp only [ev_h] at he
    split at he
    · rename_i v q r
      split at he
      · rename_i c' j c2 n hf hk
        split at he
        · rename_i hc
          obtain ⟨rfl, hj, hq, hfin⟩ := hc
          cases hg : hp_put h q c2 j v with
          | none => rw [hg] at he; cases he
          | some h2 =>
            rw [hg] at he
            cases he
            exact sm_putD hF hH hf hk hj hq hfin hg hd (fun H' locs' q1 q2 q3 => sm_cs q3 (k ad als H' locs' sm_ex.rf hL q1))
        · cases he
      · cases he
    · cases he
  case iaload =>
    have hl1 : len = 1 := by simpa [ev_lok, ev_len] using hl
    subst hl1
    simp only [ev_h] at he
    split at he
    · rename_i a q r
      split at he
      · rename_i hq
        split at he
        · rename_i n hk
          split at he
          · rename_i ha
            cases he
            have hw : (sm_w cA ad h)[q]? = some (ad q, .inl (cA 12, n, .inl (hp_I h q))) := by rw [sm_w_get hk, sm_cell_12]
            exact va_iald hx hb hK hP q 0 hw rfl (sm_in ha) hd (sm_cs rfl (k ad als H locs sm_ex.rf hL hH))
          · cases he
        · cases he
      · split at he
        · rename_i hq
          subst hq
          split at he
          · rename_i ha
            cases he
            exact va_ti hx hb hSt.1.2 hS (sm_in ha) rfl hd (sm_cs rfl (k ad als H locs sm_ex.rf hL hH))
          · cases he
        · split at he
          · rename_i hq
            subst hq
            split at he
            · rename_i n hn
              split at he
              · rename_i ha
                cases he
                have e1 : n = L := Option.some.inj (hn.symm.trans hsc.1)
                subst e1
                refine va_sld hx hb hSt.2.1.1 hSt.2.1.2.1 hSt.2.1.2.2 hS (sm_in ha) hd (sm_cs (h' := h) (h := h) rfl ?_)
                have q2 := k ad als H locs sm_ex.rf hL hH
                rw [hsc.2 _ (sm_inlt ha)] at q2
                exact q2
              · cases he
            · cases he
          · cases he
    · cases he
  case baload =>
    have hl1 : len = 1 := by simpa [ev_lok, ev_len] using hl
    subst hl1
    simp only [ev_h] at he
    split at he
    · rename_i a q r
      split at he
      · rename_i hq
        split at he
        · rename_i n hk
          split at he
          · rename_i ha
            cases he
            have hw : (sm_w cA ad h)[q]? = some (ad q, .inl (cA 14, n, .inl (hp_I h q))) := by rw [sm_w_get hk, sm_cell_14]
            exact va_bald hx hb hK hP q 2 hw rfl (sm_in ha) hd (sm_cs rfl (k ad als H locs sm_ex.rf hL hH))
          · cases he
        · cases he
      · split at he
        · rename_i hq
          obtain ⟨j, hj, rfl⟩ := sm_spV hq.1 hq.2
          split at he
          · rename_i ha
            cases he
            rw [show sp_V + j - sp_V = j by simp only [sp_V]; omega] at ha
            refine va_tb hx hb (hSt.2.2.1 j hj).2.2.2 hS (sm_in ha) rfl hd (sm_cs (h' := h) (h := h) rfl ?_)
            have q2 := k ad als H locs sm_ex.rf hL hH
            rw [show sp_V + j - sp_V = j by simp only [sp_V]; omega] at q2
            exact q2
          · cases he
        · cases he
    · cases he
  case laload =>
    have hl1 : len = 1 := by simpa [ev_lok, ev_len] using hl
    subst hl1
    simp only [ev_h] at he
    split at he
    · rename_i a q r
      split at he
      · rename_i n hk
        split at he
        · rename_i ha
          cases he
          have hw : (sm_w cA ad h)[q]? = some (ad q, .inl (cA 13, n, .inr (.inl (hp_J h q)))) := by rw [sm_w_get hk, sm_cell_13]
          exact va_lald hx hb hK hP q 1 hw rfl (sm_in ha) hd (sm_cs rfl (k ad als H locs sm_ex.rf hL hH))
        · cases he
      · cases he
    · cases he
  case aaload =>
    have hl1 : len = 1 := by simpa [ev_lok, ev_len] using hl
    subst hl1
    simp only [ev_h] at he
    split at he
    · rename_i a q r
      split at he
      · rename_i c' n z hk hz
        split at he
        · rename_i ha
          cases he
          have hw : (sm_w cA ad h)[q]? = some (ad q, .inl (cA c', n, .inr (.inr (.inr (.inr (fun i => (hp_R h q i).map ad)))))) := by rw [sm_w_get hk, sm_cell_r (by omega)]
          have q2 : W p l e R s m args below meth c H locs cells slots Q (F0 m (pc + 1) als (va_rf ((hp_R h q a.toNatClampNeg).map ad) :: r.map (sm_cv ad))) := by rw [hz]; exact (sm_cs rfl (k ad als H locs sm_ex.rf hL hH))
          rcases ha.2 with rfl | rfl | rfl
          · exact va_aldq hx hb hK hP q 3 hw rfl (sm_in ha.1) hd q2
          · exact sm_aldA hx hb hK hP q 4 hw rfl rfl (sm_in ha.1) hd q2
          · exact sm_aldA hx hb hK hP q 5 hw rfl rfl (sm_in ha.1) hd q2
        · cases he
      · cases he
    · cases he
  case iastore =>
    have hl1 : len = 1 := by simpa [ev_lok, ev_len] using hl
    subst hl1
    simp only [ev_h] at he
    split at he
    · rename_i v a q r
      split at he
      · rename_i n hk
        split at he
        · rename_i ha
          cases he
          have hw : (sm_w cA ad h)[q]? = some (ad q, .inl (cA 12, n, .inl (hp_I h q))) := by rw [sm_w_get hk, sm_cell_12]
          refine va_iast hx hb hK hP hD hS q 0 hw rfl (sm_in ha.1) hd (fun H1 locs1 q1 q2 q3 => sm_cs (h := h) (h' := hp_sI h q a.toNatClampNeg v) rfl (k ad als H1 locs1 sm_ex.rf hL ?_))
          have e1 : sm_w cA ad (hp_sI h q a.toNatClampNeg v) = (sm_w cA ad h).set q (ad q, .inl (cA 12, n, .inl (upd (hp_I h q) a.toNatClampNeg v))) := by
            rw [sm_w_set (h := h) (h' := hp_sI h q a.toNatClampNeg v) rfl hk sm_cell_sI, sm_cell_12]
            rw [show hp_I (hp_sI h q a.toNatClampNeg v) q = upd (hp_I h q) a.toNatClampNeg v from by funext b; simp [hp_I, hp_sI, hp_u, upd]]
          rw [← e1] at q1 q2
          exact ⟨q1, q2, q3, hp_ok_I ho, sm_sc_I ha.2 hsc, hSt⟩
        · cases he
      · cases he
    · cases he
  case bastore =>
    have hl1 : len = 1 := by simpa [ev_lok, ev_len] using hl
    subst hl1
    simp only [ev_h] at he
    split at he
    · rename_i v a q r
      split at he
      · rename_i n hk
        split at he
        · rename_i ha
          cases he
          have hw : (sm_w cA ad h)[q]? = some (ad q, .inl (cA 14, n, .inl (hp_I h q))) := by rw [sm_w_get hk, sm_cell_14]
          refine va_bast hx hb hK hP hD hS q 2 hw rfl (sm_in ha.1) hd (fun H1 locs1 q1 q2 q3 => sm_cs (h := h) (h' := hp_sI h q a.toNatClampNeg v.toInt8.toInt32) rfl (k ad als H1 locs1 sm_ex.rf hL ?_))
          have e1 : sm_w cA ad (hp_sI h q a.toNatClampNeg v.toInt8.toInt32) = (sm_w cA ad h).set q (ad q, .inl (cA 14, n, .inl (upd (hp_I h q) a.toNatClampNeg (vp_nar .byte v)))) := by
            rw [sm_w_set (h := h) (h' := hp_sI h q a.toNatClampNeg v.toInt8.toInt32) rfl hk sm_cell_sI, sm_cell_14]
            rw [show hp_I (hp_sI h q a.toNatClampNeg v.toInt8.toInt32) q = upd (hp_I h q) a.toNatClampNeg (vp_nar .byte v) from by funext b; simp [hp_I, hp_sI, hp_u, upd, vp_nar_byte]]
          rw [← e1] at q1 q2
          exact ⟨q1, q2, q3, hp_ok_I ho, sm_sc_I ha.2 hsc, hSt⟩
        · cases he
      · cases he
    · cases he
  case lastore =>
    have hl1 : len = 1 := by simpa [ev_lok, ev_len] using hl
    subst hl1
    simp only [ev_h] at he
    split at he
    · rename_i v a q r
      split at he
      · rename_i n hk
        split at he
        · rename_i ha
          cases he
          have hw : (sm_w cA ad h)[q]? = some (ad q, .inl (cA 13, n, .inr (.inl (hp_J h q)))) := by rw [sm_w_get hk, sm_cell_13]
          refine va_last hx hb hK hP hD hS q 1 hw rfl (sm_in ha.1) hd (fun H1 locs1 q1 q2 q3 => sm_cs (h := h) (h' := hp_sJ h q a.toNatClampNeg v) rfl (k ad als H1 locs1 sm_ex.rf hL ?_))
          have e1 : sm_w cA ad (hp_sJ h q a.toNatClampNeg v) = (sm_w cA ad h).set q (ad q, .inl (cA 13, n, .inr (.inl (vp_updL (hp_J h q) a.toNatClampNeg v)))) := by
            rw [sm_w_set (h := h) (h' := hp_sJ h q a.toNatClampNeg v) rfl hk sm_cell_sJ, sm_cell_13]
            rw [show hp_J (hp_sJ h q a.toNatClampNeg v) q = vp_updL (hp_J h q) a.toNatClampNeg v from by funext b; simp [hp_J, hp_sJ, hp_u, vp_updL]]
          rw [← e1] at q1 q2
          exact ⟨q1, q2, q3, hp_ok_J ho, hsc, hSt⟩
        · cases he
      · cases he
    · cases he
  case aastore =>
    have hl1 : len = 1 := by simpa [ev_lok, ev_len] using hl
    subst hl1
    simp only [ev_h] at he
    split at he
    · rename_i z a q r
      split at he
      · rename_i n n2 hk hz
        split at he
        · rename_i ha
          cases he
          have hw : (sm_w cA ad h)[q]? = some (ad q, .inl (cA 15, n, .inr (.inr (.inr (.inr (fun i => (hp_R h q i).map ad)))))) := by rw [sm_w_get hk, sm_cell_r (by decide)]
          have hv : (sm_w cA ad h)[z]? = some (ad z, .inr (3, (List.range n2).map (sm_fv ad h z 3))) := by rw [sm_w_get hz, sm_cell_o (by decide)]
          refine va_astq hx hb hK hP hD hS q 3 z 3 hw rfl hv rfl (sm_in ha.1) hd (fun H1 locs1 q1 q2 q3 => sm_cs (h := h) (h' := hp_sR h q a.toNatClampNeg (some z)) rfl (k ad als H1 locs1 sm_ex.rf hL ?_))
          have e1 : sm_w cA ad (hp_sR h q a.toNatClampNeg (some z)) = (sm_w cA ad h).set q (ad q, .inl (cA 15, n, .inr (.inr (.inr (.inr (va_up (fun i => (hp_R h q i).map ad) a.toNatClampNeg (some (ad z)))))))) := by
            rw [sm_w_set (h := h) (h' := hp_sR h q a.toNatClampNeg (some z)) rfl hk sm_cell_sR, sm_cell_r (by decide)]
            refine congrArg (fun f => (sm_w cA ad h).set q (ad q, .inl (cA 15, n, .inr (.inr (.inr (.inr f)))))) (funext fun b => ?_)
            by_cases hb2 : b = a.toNatClampNeg
            · simp [hp_R, hp_sR, hp_u, va_up, hb2]
            · simp [hp_R, hp_sR, hp_u, va_up, hb2]
          rw [← e1] at q1 q2
          exact ⟨q1, q2, q3, hp_ok_R ho (List.getElem?_eq_some_iff.mp hz).1, sm_sc_R ha.2 hsc, hSt⟩
        · cases he
      · cases he
    · cases he
  case arraylength =>
    have hl1 : len = 1 := by simpa [ev_lok, ev_len] using hl
    subst hl1
    simp only [ev_h] at he
    split at he
    · rename_i q r
      split at he
      · rename_i hq
        split at he
        · rename_i c' n hk
          split at he
          · rename_i hc
            cases he
            obtain ⟨x, hx2, t, ht⟩ : ∃ x : vp_A, sm_cell cA ad h q (c', n) = .inl (cA c', x) ∧ ∃ t, x.1 = n ∧ (sm_tys cA)[c' - 12]? = some (cA c', t) := by
              rcases (show c' = 12 ∨ c' = 13 ∨ c' = 14 ∨ c' = 15 ∨ c' = 16 ∨ c' = 17 by omega) with rfl | rfl | rfl | rfl | rfl | rfl
              · exact ⟨_, sm_cell_12, _, rfl, rfl⟩
              · exact ⟨_, sm_cell_13, _, rfl, rfl⟩
              · exact ⟨_, sm_cell_14, _, rfl, rfl⟩
              · exact ⟨_, sm_cell_r (by decide), _, rfl, rfl⟩
              · exact ⟨_, sm_cell_r (by decide), _, rfl, rfl⟩
              · exact ⟨_, sm_cell_r (by decide), _, rfl, rfl⟩
            exact va_alen hx hb hK hP q (c' - 12) (by rw [sm_w_get hk, hx2]) ht.2 (by rw [ht.1]) hd (sm_cs rfl (k ad als H locs sm_ex.rf hL hH))
          · cases he
        · cases he
      · split at he
        · rename_i hq
          cases he
          subst hq
          exact va_tlen hx hb hSt.1.2 hS (v := 7) rfl hd (sm_cs rfl (k ad als H locs sm_ex.rf hL hH))
        · split at he
          · rename_i hq
            subst hq
            split at he
            · rename_i n hn
              cases he
              have e1 : n = L := Option.some.inj (hn.symm.trans hsc.1)
              subst e1
              exact va_slen hx hb hSt.2.1.1 hSt.2.1.2.1 hSt.2.1.2.2 hS hd (sm_cs rfl (k ad als H locs sm_ex.rf hL hH))
            · cases he
          · split at he
            · rename_i hq
              cases he
              obtain ⟨j, hj, rfl⟩ := sm_spV hq.1 hq.2
              refine va_tlen hx hb (hSt.2.2.1 j hj).2.2.2 hS rfl hd (sm_cs (h' := h) (h := h) rfl ?_)
              have q2 := k ad als H locs sm_ex.rf hL hH
              rw [show sp_V + j - sp_V = j by simp only [sp_V]; omega] at q2
              exact q2
            · cases he
    · cases he
  case newarray t =>
    have hl1 : len = 2 := by simpa [ev_lok, ev_len] using hl
    subst hl1
    simp only [ev_h] at he
    split at he
    · rename_i n r
      split at he
      · rename_i hn
        split at he
        · cases he
          refine va_newa (atype := .int) (ty := .int) (a0 := (n.toNatClampNeg, .inl (fun _ => 0))) hx hb (hts _ ac_in.1) rfl hK hP hD hS hA (fun _ => rfl) hn.1 rfl (by show n.toNatClampNeg * componentBytes .int ≤ 536870912; simp only [componentBytes]; omega) (by have q : cells + (h.1.2.1 + 1 - h.1.2.1) ≤ R.cells := hrc; omega) (by have q : slots + (h.1.2.2 + n.toNatClampNeg - h.1.2.2) ≤ R.slots := hrs; omega) hd (fun q cX H1 q1 q2 q3 q4 => ?_)
          obtain ⟨v1, v2⟩ := sm_vs (ad := ad) (a := q) (show (hp_sh h).length < 1000000 by omega) hn.2.2.2
          have e1 : cX = cA 12 := sm_kk hK (i := 0) rfl q1
          subst e1
          have e2 : (.inl (cA 12, n.toNatClampNeg, .inl (fun _ => 0)) : va_E) = sm_cell cA ad hp_0 0 (12, n.toNatClampNeg) := by rw [sm_cell_12]; rfl
          rw [e2] at q2 q3
          have q5 := sm_cs2 (h := h) (h' := hp_new h 12 n.toNatClampNeg) rfl rfl (k (va_up ad (hp_sh h).length q) als H1 locs (sm_ex_new hn.2.2.1) (v1 _ _ hL) (sm_hx_new hn.2.2.1 ho hsc hSt q2 q3 q4))
          rw [List.map_cons, v2] at q5
          rw [show sm_cv (va_up ad (hp_sh h).length q) (.ref (hp_sh h).length) = .ref q from congrArg Value.ref (va_up_self _ _ _)] at q5
          exact q5
        · cases he
          refine va_newa (atype := .long) (ty := .long) (a0 := (n.toNatClampNeg, .inr (.inl (fun _ => 0)))) hx hb (hts _ ac_in.2.1) rfl hK hP hD hS hA (fun _ => rfl) hn.1 rfl (by show n.toNatClampNeg * componentBytes .long ≤ 536870912; simp only [componentBytes]; omega) (by have q : cells + (h.1.2.1 + 1 - h.1.2.1) ≤ R.cells := hrc; omega) (by have q : slots + (h.1.2.2 + n.toNatClampNeg - h.1.2.2) ≤ R.slots := hrs; omega) hd (fun q cX H1 q1 q2 q3 q4 => ?_)
          obtain ⟨v1, v2⟩ := sm_vs (ad := ad) (a := q) (show (hp_sh h).length < 1000000 by omega) hn.2.2.2
          have e1 : cX = cA 13 := sm_kk hK (i := 1) rfl q1
          subst e1
          have e2 : (.inl (cA 13, n.toNatClampNeg, .inr (.inl (fun _ => 0))) : va_E) = sm_cell cA ad hp_0 0 (13, n.toNatClampNeg) := by rw [sm_cell_13]; rfl
          rw [e2] at q2 q3
          have q5 := sm_cs2 (h := h) (h' := hp_new h 13 n.toNatClampNeg) rfl rfl (k (va_up ad (hp_sh h).length q) als H1 locs (sm_ex_new hn.2.2.1) (v1 _ _ hL) (sm_hx_new hn.2.2.1 ho hsc hSt q2 q3 q4))
          rw [List.map_cons, v2] at q5
          rw [show sm_cv (va_up ad (hp_sh h).length q) (.ref (hp_sh h).length) = .ref q from congrArg Value.ref (va_up_self _ _ _)] at q5
          exact q5
        · cases he
          refine va_newa (atype := .byte) (ty := .byte) (a0 := (n.toNatClampNeg, .inl (fun _ => 0))) hx hb (hts _ ac_in.2.2) rfl hK hP hD hS hA (fun _ => rfl) hn.1 rfl (by show n.toNatClampNeg * componentBytes .byte ≤ 536870912; simp only [componentBytes]; omega) (by have q : cells + (h.1.2.1 + 1 - h.1.2.1) ≤ R.cells := hrc; omega) (by have q : slots + (h.1.2.2 + n.toNatClampNeg - h.1.2.2) ≤ R.slots := hrs; omega) hd (fun q cX H1 q1 q2 q3 q4 => ?_)
          obtain ⟨v1, v2⟩ := sm_vs (ad := ad) (a := q) (show (hp_sh h).length < 1000000 by omega) hn.2.2.2
          have e1 : cX = cA 14 := sm_kk hK (i := 2) rfl q1
          subst e1
          have e2 : (.inl (cA 14, n.toNatClampNeg, .inl (fun _ => 0)) : va_E) = sm_cell cA ad hp_0 0 (14, n.toNatClampNeg) := by rw [sm_cell_14]; rfl
          rw [e2] at q2 q3
          have q5 := sm_cs2 (h := h) (h' := hp_new h 14 n.toNatClampNeg) rfl rfl (k (va_up ad (hp_sh h).length q) als H1 locs (sm_ex_new hn.2.2.1) (v1 _ _ hL) (sm_hx_new hn.2.2.1 ho hsc hSt q2 q3 q4))
          rw [List.map_cons, v2] at q5
          rw [show sm_cv (va_up ad (hp_sh h).length q) (.ref (hp_sh h).length) = .ref q from congrArg Value.ref (va_up_self _ _ _)] at q5
          exact q5
        · cases he
      · cases he
    · cases he
  case anewarray x =>
    have hl1 : len = 3 := by simpa [ev_lok, ev_len] using hl
    subst hl1
    simp only [ev_h] at he
    split at he
    · rename_i n r
      split at he
      · rename_i hn
        cases he
        obtain ⟨hn1, hn2, hn3, hn4, hM, rfl⟩ := hn
        refine va_newq (C := "SworeCaptain$Moment") hx hb hown (by rw [hM]; exact hts _ mn_in.2.2.2) hSt.2.2.2.2.2.2.2.2.1 hK hP hD hS hA hn1 rfl (by omega) (by have q : cells + (h.1.2.1 + 1 - h.1.2.1) ≤ R.cells := hrc; omega) (by have q : slots + (h.1.2.2 + n.toNatClampNeg - h.1.2.2) ≤ R.slots := hrs; omega) hd (fun q cX H1 q1 q2 q3 q4 => ?_)
        obtain ⟨v1, v2⟩ := sm_vs (ad := ad) (a := q) (show (hp_sh h).length < 1000000 by omega) hn4
        have e1 : cX = cA 15 := sm_kk hK (i := 3) rfl q1
        subst e1
        have e2 : (.inl (cA 15, n.toNatClampNeg, .inr (.inr (.inr (.inr (fun _ => none))))) : va_E) = sm_cell cA ad hp_0 0 (15, n.toNatClampNeg) := by rw [sm_cell_r (by decide)]; rfl
        rw [e2] at q2 q3
        have q5 := sm_cs2 (h := h) (h' := hp_new h 15 n.toNatClampNeg) rfl rfl (k (va_up ad (hp_sh h).length q) als H1 locs (sm_ex_new hn3) (v1 _ _ hL) (sm_hx_new hn3 ho hsc hSt q2 q3 q4))
        rw [List.map_cons, v2] at q5
        rw [show sm_cv (va_up ad (hp_sh h).length q) (.ref (hp_sh h).length) = .ref q from congrArg Value.ref (va_up_self _ _ _)] at q5
        exact q5
      · cases he
    · cases he
  case new x =>
    have hl1 : len = 3 := by simpa [ev_lok, ev_len] using hl
    subst hl1
    simp only [ev_h] at he
    split at he
    · rename_i c' hc
      split at he
      · rename_i hn
        cases he
        obtain ⟨h1, h2, h3, h4⟩ := nw_ok hc
        obtain ⟨T, N, ty, hcl⟩ := cs_all c' h1
        obtain ⟨g1, g2, g3, g4, g5, g6, g7⟩ := hcl
        rw [g2] at h3 k hrc hrs
        refine va_new hx hb hts g4 ty g5 hown (hts _ h2) (hts _ h3) (hts _ h4) hK hP hD hS hA g1 (fs := (List.range N).map (sm_fv ad hp_0 0 c')) (fun j hj => ?_) (by have q : cells + (h.1.2.1 + 1 - h.1.2.1) ≤ R.cells := hrc; omega) (by have q : slots + (h.1.2.2 + N - h.1.2.2) ≤ R.slots := hrs; omega) hd (fun q H1 q2 q3 q4 => ?_)
        · obtain ⟨-, -, f3⟩ := g7 j hj
          have e1 : vp_V ((List.range N).map (sm_fv ad hp_0 0 c')) j = sm_fv ad hp_0 0 c' j := by
            unfold vp_V
            rw [List.getD_eq_getElem?_getD, sm_fs_get hj]
            rfl
          rw [e1]
          unfold sm_fv
          revert f3
          generalize ev_fk c' j = z
          intro f3
          match z, f3 with
          | 0, f3 => rw [show ty j = .int by simpa [ev_tyok] using f3]; rfl
          | 1, f3 => rw [show ty j = .long by simpa [ev_tyok] using f3]; rfl
          | 2, f3 =>
            have f4 : (ty j).isReference = true := by simpa [ev_tyok] using f3
            revert f4
            cases ty j <;> intro f4 <;> first | rfl | cases f4
          | 3, f3 => rw [show ty j = .boolean by simpa [ev_tyok] using f3]; rfl
          | n + 4, f3 => simp [ev_tyok] at f3
        · obtain ⟨v1, v2⟩ := sm_vs (ad := ad) (a := q) (show (hp_sh h).length < 1000000 by omega) hn.2
          have e2 : (.inr (c', (List.range N).map (sm_fv ad hp_0 0 c')) : va_E) = sm_cell cA ad hp_0 0 (c', N) := by rw [sm_cell_o h1]
          rw [e2] at q2 q3
          have q5 := sm_cs2 (h := h) (h' := hp_new h c' N) rfl rfl (k (va_up ad (hp_sh h).length q) als H1 locs (sm_ex_new hn.1) (v1 _ _ hL) (sm_hx_new hn.1 ho hsc hSt q2 q3 q4))
          rw [List.map_cons, v2] at q5
          rw [show sm_cv (va_up ad (hp_sh h).length q) (.ref (hp_sh h).length) = .ref q from congrArg Value.ref (va_up_self _ _ _)] at q5
          exact q5
      · cases he
    · cases he
  case getstatic x =>
    have hl1 : len = 3 := by simpa [ev_lok, ev_len] using hl
    subst hl1
    simp only [ev_h] at he
    split at he
    · rename_i u hu
      cases he
      exact va_getsN hx hb (ref := "SworeCaptain") (host := "SworeCaptain") hSt.1.1 hS hown (va_Nw.use rfl (hSt.2.2.2.2.2.2.2.1 _ (rm_ok hu) rfl)) (fun x h => h) hd (sm_cs rfl (k ad als H locs sm_ex.rf hL hH))
    · split at he
      · rename_i hq
        cases he
        obtain ⟨hM, rfl⟩ := hq
        exact va_gets hx hb (ref := "java/lang/String") hSt.2.2.2.1 hS hown (by rw [hM]; exact hts _ sl_in.2.2) (fun x h => h) hd (sm_cs rfl (k ad als H locs sm_ex.rf hL hH))
      · cases he
  case invokespecial x =>
    have hl1 : len = 3 := by simpa [ev_lok, ev_len] using hl
    subst hl1
    simp only [ev_h] at he
    split at he
    · rename_i u q r hu
      split at he
      · rename_i hr
        cases he
        exact W.objInit hx hb hown (hts _ (oi_ok hu)) (hts _ oi_in.1) (hts _ oi_in.2) rfl (hL.1.trans hml.symm) rfl hd hfr (by show 2 * 0 + _ + 12 ≤ _; rw [catr]; omega) (sm_cs rfl (k ad als H locs sm_ex.rf hL hH))
      · cases he
    · cases he
  case invokestatic x =>
    have hl1 : len = 3 := by simpa [ev_lok, ev_len] using hl
    subst hl1
    simp only [ev_h] at he
    split at he
    · rename_i b a r hp
      split at he
      · rename_i hr
        cases he
        exact va_mmax hx hb (hml.trans hL.1.symm) hown (hts _ ((pr_ok hp).1 rfl)) (hts _ mm_in.1.1) (hts _ mm_in.2.2) (hts _ mm_in.1.2) hfr (by rw [catr]; omega) (by omega) (by omega) hd (sm_cs rfl (k ad als H locs sm_ex.rf hL hH))
      · cases he
    · rename_i b a r hp
      split at he
      · rename_i hr
        cases he
        exact va_mmin hx hb (hml.trans hL.1.symm) hown (hts _ ((pr_ok hp).2.1 rfl)) (hts _ mm_in.2.1.1) (hts _ mm_in.2.2) (hts _ mm_in.2.1.2) hfr (by rw [catr]; omega) (by omega) (by omega) hd (sm_cs rfl (k ad als H locs sm_ex.rf hL hH))
      · cases he
    · rename_i b a r hp
      split at he
      · rename_i hr
        cases he
        exact hci a b hr.2.1 hr.2.2 x ((pr_ok hp).2.2.1 rfl) hd _ hr.1 (sm_cs rfl (k ad als H locs sm_ex.rf hL hH))
      · cases he
    · cases he
  case multianewarray x n2 =>
    have hl1 : len = 4 := by simpa [ev_lok, ev_len] using hl
    subst hl1
    by_cases hn2 : n2 = 2
    · subst hn2
      simp only [ev_h] at he
      split at he
      · rename_i kk2 n r
        split at he
        · rename_i hn
          obtain ⟨hn1, hn2, hn3, hn4, hn5, hn6, rfl⟩ := hn
          split at he
          · rename_i hM
            cases he
            refine va_mna (X := sm_w cA ad h) (L := []) (f := fun _ => .inl (cA 12, 0, .inl (fun _ => 0))) (ty := .long) (cy := cA 13) (z := (kk2.toNatClampNeg, .inr (.inl (fun _ => 0)))) hx hb hown (by rw [hM]; exact hts _ mn_in.1) hSt.2.2.2.2.2.2.2.2.2.2 (hts _ ac_in.2.1) (hK.2 1 _ rfl).2 hK (by rw [show va_pl [] (fun _ => (.inl (cA 12, 0, .inl (fun _ => 0)) : va_E)) = [] from rfl, List.append_nil]; exact hP) (by rw [show va_pl [] (fun _ => (.inl (cA 12, 0, .inl (fun _ => 0)) : va_E)) = [] from rfl, List.append_nil]; exact hD) hS hA hn1 hn2 rfl rfl (by omega) (by show kk2.toNatClampNeg * componentBytes .long ≤ 536870912; simp only [componentBytes]; omega) (by omega) rfl rfl (by have q : cells + ((hp_mna h 17 13 n.toNatClampNeg kk2.toNatClampNeg).1.2.1 - h.1.2.1) ≤ R.cells := hrc; rw [(hp_mna_f h 17 13 n.toNatClampNeg kk2.toNatClampNeg).1] at q; dsimp only at q; omega) (by have q : slots + ((hp_mna h 17 13 n.toNatClampNeg kk2.toNatClampNeg).1.2.2 - h.1.2.2) ≤ R.slots := hrs; rw [(hp_mna_f h 17 13 n.toNatClampNeg kk2.toNatClampNeg).1] at q; dsimp only at q; omega) (fun _ => by rw [vp_cell_l]; exact arrV_new _ _ _) hd (fun q rr cX H1 q0 q0b q1 q2 q3 q4 => ?_)
            have e1 : cX = cA 17 := sm_kk hK (i := 5) rfl q1
            subst e1
            have e2 : va_pl ([] ++ (List.range n.toNatClampNeg).map rr) (vr_up (fun _ => (.inl (cA 12, 0, .inl (fun _ => 0)) : va_E)) ((List.range n.toNatClampNeg).map rr) (.inl (cA 13, kk2.toNatClampNeg, .inr (.inl (fun _ => 0))))) = (List.range n.toNatClampNeg).map (fun i => (rr i, sm_cell cA ad hp_0 0 (13, kk2.toNatClampNeg))) := by
              unfold va_pl
              rw [List.nil_append, List.map_map]
              apply List.map_congr_left
              intro i hi
              show (rr i, vr_up _ _ _ (rr i)) = _
              rw [vr_up_in (List.mem_map.mpr ⟨i, hi, rfl⟩), sm_cell_13]
              rfl
            rw [e2] at q2 q3
            rw [Nat.add_assoc cells, Nat.add_assoc slots]
            exact sm_mnaK (P := fun z => W p l e R s m args below meth c H1 locs (cells + (1 + n.toNatClampNeg)) (slots + (n.toNatClampNeg + n.toNatClampNeg * kk2.toNatClampNeg)) Q (F0 m (pc + 4) als z)) hn5 hn3 ho hsc hSt (by decide) (by decide) hn6 hL q2 q3 q4 (fun ad' g1 g2 g3 => sm_cs2 (h := h) (h' := hp_mna h 17 13 n.toNatClampNeg kk2.toNatClampNeg) (a := 1 + n.toNatClampNeg) (b := n.toNatClampNeg + n.toNatClampNeg * kk2.toNatClampNeg) (by rw [(hp_mna_f h 17 13 n.toNatClampNeg kk2.toNatClampNeg).1]; dsimp only; omega) (by rw [(hp_mna_f h 17 13 n.toNatClampNeg kk2.toNatClampNeg).1]; dsimp only; omega) (k ad' als H1 locs g1 g2 g3))
          · split at he
            · rename_i hM
              cases he
              refine va_mna (X := sm_w cA ad h) (L := []) (f := fun _ => .inl (cA 12, 0, .inl (fun _ => 0))) (ty := .int) (cy := cA 12) (z := (kk2.toNatClampNeg, .inl (fun _ => 0))) hx hb hown (by rcases hM with hM | hM <;> rw [hM] <;> first | exact hts _ mn_in.2.1 | exact hts _ mn_in.2.2.1) hSt.2.2.2.2.2.2.2.2.2.1 (hts _ ac_in.1) (hK.2 0 _ rfl).2 hK (by rw [show va_pl [] (fun _ => (.inl (cA 12, 0, .inl (fun _ => 0)) : va_E)) = [] from rfl, List.append_nil]; exact hP) (by rw [show va_pl [] (fun _ => (.inl (cA 12, 0, .inl (fun _ => 0)) : va_E)) = [] from rfl, List.append_nil]; exact hD) hS hA hn1 hn2 rfl rfl (by omega) (by show kk2.toNatClampNeg * componentBytes .int ≤ 536870912; simp only [componentBytes]; omega) (by omega) rfl rfl (by have q : cells + ((hp_mna h 16 12 n.toNatClampNeg kk2.toNatClampNeg).1.2.1 - h.1.2.1) ≤ R.cells := hrc; rw [(hp_mna_f h 16 12 n.toNatClampNeg kk2.toNatClampNeg).1] at q; dsimp only at q; omega) (by have q : slots + ((hp_mna h 16 12 n.toNatClampNeg kk2.toNatClampNeg).1.2.2 - h.1.2.2) ≤ R.slots := hrs; rw [(hp_mna_f h 16 12 n.toNatClampNeg kk2.toNatClampNeg).1] at q; dsimp only at q; omega) (fun _ => by rw [vp_cell_i]; exact arrV_new _ _ _) hd (fun q rr cX H1 q0 q0b q1 q2 q3 q4 => ?_)
              have e1 : cX = cA 16 := sm_kk hK (i := 4) rfl q1
              subst e1
              have e2 : va_pl ([] ++ (List.range n.toNatClampNeg).map rr) (vr_up (fun _ => (.inl (cA 12, 0, .inl (fun _ => 0)) : va_E)) ((List.range n.toNatClampNeg).map rr) (.inl (cA 12, kk2.toNatClampNeg, .inl (fun _ => 0)))) = (List.range n.toNatClampNeg).map (fun i => (rr i, sm_cell cA ad hp_0 0 (12, kk2.toNatClampNeg))) := by
                unfold va_pl
                rw [List.nil_append, List.map_map]
                apply List.map_congr_left
                intro i hi
                show (rr i, vr_up _ _ _ (rr i)) = _
                rw [vr_up_in (List.mem_map.mpr ⟨i, hi, rfl⟩), sm_cell_12]
                rfl
              rw [e2] at q2 q3
              rw [Nat.add_assoc cells, Nat.add_assoc slots]
              exact sm_mnaK (P := fun z => W p l e R s m args below meth c H1 locs (cells + (1 + n.toNatClampNeg)) (slots + (n.toNatClampNeg + n.toNatClampNeg * kk2.toNatClampNeg)) Q (F0 m (pc + 4) als z)) hn5 hn3 ho hsc hSt (by decide) (by decide) hn6 hL q2 q3 q4 (fun ad' g1 g2 g3 => sm_cs2 (h := h) (h' := hp_mna h 16 12 n.toNatClampNeg kk2.toNatClampNeg) (a := 1 + n.toNatClampNeg) (b := n.toNatClampNeg + n.toNatClampNeg * kk2.toNatClampNeg) (by rw [(hp_mna_f h 16 12 n.toNatClampNeg kk2.toNatClampNeg).1]; dsimp only; omega) (by rw [(hp_mna_f h 16 12 n.toNatClampNeg kk2.toNatClampNeg).1]; dsimp only; omega) (k ad' als H1 locs g1 g2 g3))
            · cases he
        · cases he
      · cases he
    · unfold ev_h at he
      split at he <;> first | (simp at he; done) | (exfalso; simp_all; done)
  all_goals (simp [ev_h] at he)
end
