/-! The reference is told an oath: from the call to the answer. -/
def fr0 (S : pZ) : Prop := zF S = 0 ∧ zP S = 0 ∧ zC S = 0 ∧ zD S 0 0 = 0 ∧ zD S 1 0 = 0 ∧ (∀ i, i < 7 → zD S 2 i = 0) ∧ ∀ i, i < 6 → zD S 5 i = 0
theorem cM_0 {T : Nat → Nat} {S : pZ} {I : Nat → Nat → Int32} (h : fr0 S) (h9 : ∀ i, i < 276 → I 99 i = 0) : cM T S I := by
  obtain ⟨-, -, hC, d0, d1, d2, d5⟩ := h
  have n0 : ∀ i, i < 7 → dN (zD S) i = 0 := fun i hi => by
    unfold dN
    rw [d2 i hi]
    rfl
  refine ⟨⟨by rw [h9 0 (by omega), d0], by rw [h9 1 (by omega), d1], fun i hi => by rw [h9 _ (by omega), d2 i hi], fun i hi => absurd hi (by rw [n0 0 (by decide)]; omega), fun i hi => by rw [h9 _ (by omega), d5 i hi], fun i hi => absurd hi (by rw [n0 2 (by decide)]; omega), fun i hi => absurd hi (by rw [n0 3 (by decide)]; omega), fun i hi => absurd hi (by rw [n0 4 (by decide)]; omega), fun i hi => absurd hi (by rw [n0 5 (by decide)]; omega), fun i hi => absurd hi (by rw [n0 6 (by decide)]; omega)⟩, ⟨fun i hi => absurd hi (by rw [hC]; omega), fun t ht _ => h9 _ (by omega)⟩, fun i hi => absurd hi (by rw [hC]; omega), fun i j hi => absurd hi (by rw [hC]; omega)⟩
set_option maxRecDepth 10000 in
theorem y_clr {J : Nat → Nat → Int64} {F : Nat → Nat → Option Nat} {nc ns : Nat} {I0 : Nat → Nat → Int32} (hF : RFok F) {x : Int32}  {Q : Option Value → hp_H → Prop} : ∀ (m j : Nat) (I : Nat → Nat → Int32), j + m = 276 → ((∀ a, a ≠ 99 → I a = I0 a) ∧ ∀ i, i < j → I 99 i = 0) → (∀ (I : Nat → Nat → Int32), ((∀ a, a ≠ 99 → I a = I0 a) ∧ ∀ i, i < 276 → I 99 i = 0) → Ew 9 mX12_oath 59 [.ref 95, .int x, .int (nI 276)] [] ((SH, nc, ns), I, J, F) Q) → Ew 9 mX12_oath 39 [.ref 95, .int x, .int (nI j)] [] ((SH, nc, ns), I, J, F) Q
  | 0, j, I, hj, hI, hq => by
    obtain rfl : j = 276 := by omega
    refine we_iload_n (p := 40) dX12_oath_39 rfl rfl ?_
    refine we_sipush (v := 276) (p := 43) dX12_oath_40 (by decide) rfl ?_
    refine we_icmp_ge (t := 59) (p := 46) dX12_oath_43 (by decide) rfl rfl (fun hc43 => ?_) (fun hc43 => absurd (nI_le (a := 276) (b := 276) (by omega) (by omega)) hc43)
    exact hq _  hI
  | m + 1, j, I, hj, hI, hq => by
    refine we_iload_n (p := 40) dX12_oath_39 rfl rfl ?_
    refine we_sipush (v := 276) (p := 43) dX12_oath_40 (by decide) rfl ?_
    refine we_icmp_ge (t := 59) (p := 46) dX12_oath_43 (by decide) rfl rfl (fun hc43 => absurd hc43 (nI_ge (a := j) (b := 276) (by omega) (by omega))) (fun hc43 => ?_)
    refine we_aload_n (p := 47) dX12_oath_46 rfl rfl ?_
    refine we_getR (c := 11) (j := 16) (n := 37) (b := 99) (p := 50) dX12_oath_47 rfl rfl (by decide) (by decide) rfl (r_95_16 hF) rfl ?_
    refine we_iload_n (p := 51) dX12_oath_50 rfl rfl ?_
    refine we_iconst (v := 0) (p := 52) dX12_oath_51 (by decide) rfl ?_
    refine wf_iast (n := 276) (i := j) (p := 53) dX12_oath_52 rfl (by decide) (in_nJ (by omega) (by decide)) (nI_cl (by omega)) rfl ?_
    refine we_iinc (ls1 := [.ref 95, .int x, .int ((nI j) + 1)]) (p := 56) dX12_oath_53 rfl rfl rfl ?_
    refine we_goto (p := 39) dX12_oath_56 (by decide) rfl ?_
    rw [nI_1]
    refine y_clr hF m (j + 1) _  (by omega) ?_ hq
    refine ⟨fun a h => (hu_ne h).trans (hI.1 a h), fun i hi => ?_⟩
    rw [hu_if]
    split
    · rfl
    · exact hI.2 i (by omega)
set_option maxRecDepth 10000 in
theorem y_st0 {J : Nat → Nat → Int64} {F : Nat → Nat → Option Nat} {nc ns : Nat} {I0 : Nat → Nat → Int32} (hF : RFok F) {x : Int32}  {Q : Option Value → hp_H → Prop} : ∀ (m j : Nat) (I : Nat → Nat → Int32), j + m = 6 → ((∀ a, a ≠ 100 → I a = I0 a) ∧ ∀ i, i < j → I 100 i = 0) → (∀ (I : Nat → Nat → Int32), ((∀ a, a ≠ 100 → I a = I0 a) ∧ ∀ i, i < 6 → I 100 i = 0) → Ew 9 mX12_oath 221 [.ref 95, .int x, .int (nI 6)] [] ((SH, nc, ns), I, J, F) Q) → Ew 9 mX12_oath 202 [.ref 95, .int x, .int (nI j)] [] ((SH, nc, ns), I, J, F) Q
  | 0, j, I, hj, hI, hq => by
    obtain rfl : j = 6 := by omega
    refine we_iload_n (p := 203) dX12_oath_202 rfl rfl ?_
    refine we_bipush (v := 6) (p := 205) dX12_oath_203 (by decide) rfl ?_
    refine we_icmp_ge (t := 221) (p := 208) dX12_oath_205 (by decide) rfl rfl (fun hc205 => ?_) (fun hc205 => absurd (nI_le (a := 6) (b := 6) (by omega) (by omega)) hc205)
    exact hq _  hI
  | m + 1, j, I, hj, hI, hq => by
    refine we_iload_n (p := 203) dX12_oath_202 rfl rfl ?_
    refine we_bipush (v := 6) (p := 205) dX12_oath_203 (by decide) rfl ?_
    refine we_icmp_ge (t := 221) (p := 208) dX12_oath_205 (by decide) rfl rfl (fun hc205 => absurd hc205 (nI_ge (a := j) (b := 6) (by omega) (by omega))) (fun hc205 => ?_)
    refine we_aload_n (p := 209) dX12_oath_208 rfl rfl ?_
    refine we_getR (c := 11) (j := 17) (n := 37) (b := 100) (p := 212) dX12_oath_209 rfl rfl (by decide) (by decide) rfl (r_95_17 hF) rfl ?_
    refine we_iload_n (p := 213) dX12_oath_212 rfl rfl ?_
    refine we_iconst (v := 0) (p := 214) dX12_oath_213 (by decide) rfl ?_
    refine wf_iast (n := 6) (i := j) (p := 215) dX12_oath_214 rfl (by decide) (in_nJ (by omega) (by decide)) (nI_cl (by omega)) rfl ?_
    refine we_iinc (ls1 := [.ref 95, .int x, .int ((nI j) + 1)]) (p := 218) dX12_oath_215 rfl rfl rfl ?_
    refine we_goto (p := 202) dX12_oath_218 (by decide) rfl ?_
    rw [nI_1]
    refine y_st0 hF m (j + 1) _  (by omega) ?_ hq
    refine ⟨fun a h => (hu_ne h).trans (hI.1 a h), fun i hi => ?_⟩
    rw [hu_if]
    split
    · rfl
    · exact hI.2 i (by omega)
set_option maxRecDepth 10000 in
theorem y_oath_n {I : Nat → Nat → Int32} {J : Nat → Nat → Int64} {F : Nat → Nat → Option Nat} {nc ns : Nat} {T : Nat → Nat} {N : Nat} {S' : pZ} {I5 : Nat → Nat → Int32} {x : Int32} {z : Value} (hF : RFok F) (hk : ∀ k, k ≠ 95 → k ≠ 97 → k ≠ 99 → I5 k = I k) (hj : ∀ j, 11 < j → j ≠ 13 → I5 95 j = I 95 j) (h2 : I5 95 2 = 0) (h11 : I5 95 11 = 0) (hm : mF T N S' I5) : Ew 9 mX12_oath 171 [.ref 95, .int x, z] [] ((SH, nc, ns), I5, J, F) (Ret nc ns (some (.int (-1))) (fun I' J' F' => J' = J ∧ F' = F ∧ (∀ k, k ≠ 95 → k ≠ 97 → k ≠ 99 → I' k = I k) ∧ (∀ j, 11 < j → j ≠ 13 → I' 95 j = I 95 j) ∧ I' 95 2 = 0 ∧ I' 95 11 = 4 ∧ I' 95 9 = nI (zF S') ∧ I' 95 10 = nI (tS T N (zP S')))) := by
  refine we_aload_n (p := 172) dX12_oath_171 rfl rfl ?_
  refine wf_getI (c := 11) (j := 13) (n := 37) (v := 1) (p := 175) dX12_oath_172 rfl rfl (by decide) (by decide) (Or.inr rfl) hm.1 rfl ?_
  refine we_if_eq (t := 184) (p := 178) dX12_oath_175 (by decide) rfl rfl (fun hc175 => absurd hc175 (by decide)) (fun hc175 => ?_)
  refine we_aload_n (p := 179) dX12_oath_178 rfl rfl ?_
  refine we_iconst (v := 4) (p := 180) dX12_oath_179 (by decide) rfl ?_
  refine we_callV_int (p := 183) (k' := 0) (a := [.ref 95, .int 4]) (rr := []) dX12_oath_180 rfl rfl rfl rfl (rc_of rfl rfl (by decide) ⟨rfl, by decide⟩) (Nat.le_of_ble_eq_true rfl) (Nat.le_of_ble_eq_true rfl) (by decide) y_no (Or.inl rfl) rfl ?_
  exact wi_ret dX12_oath_183 rfl rfl (by decide) (⟨rfl, _, _, _, rfl, rfl, rfl, fun k a b c => (hu_ne a).trans (hk k a b c), fun j a b => (hu_nj (by omega)).trans (hj j a b), (hu_nj (by decide)).trans h2, hu_eq, (hu_nj (by decide)).trans hm.2.1, (hu_nj (by decide)).trans hm.2.2⟩)
theorem oM_98 {I I' : Nat → Nat → Int32} {D : oD} (h : oM I 99 D) (hD : WFc D) (e : ∀ i, i < 276 → I' 98 i = I 99 i) : oM I' 98 D := by
  obtain ⟨a0, a1, a2, a3, a4, a5, a6, a7, a8, a9⟩ := h
  obtain ⟨-, b0, b1, b2, b3, b4, b5, b6⟩ := hD
  refine ⟨by rw [e _ (by omega)]; exact a0, by rw [e _ (by omega)]; exact a1, fun i hi => by rw [e _ (by omega)]; exact a2 i hi, fun i hi => ?_, fun i hi => by rw [e _ (by omega)]; exact a4 i hi, fun i hi => ?_, fun i hi => ?_, fun i hi => ?_, fun i hi => ?_, fun i hi => ?_⟩
  · rw [e _ (by omega), e _ (by omega)]
    exact a3 i hi
  · rw [e _ (by omega), e _ (by omega), e _ (by omega), e _ (by omega)]
    exact a5 i hi
  · rw [e _ (by omega), e _ (by omega)]
    exact a6 i hi
  · rw [e _ (by omega), e _ (by omega)]
    exact a7 i hi
  · rw [e _ (by omega), e _ (by omega)]
    exact a8 i hi
  · rw [e _ (by omega), e _ (by omega)]
    exact a9 i hi
set_option maxRecDepth 10000 in
theorem y_oath_y {I : Nat → Nat → Int32} {J : Nat → Nat → Int64} {F : Nat → Nat → Option Nat} {nc ns : Nat} {T : Nat → Nat} {N : Nat} {S' : pZ} {I5 : Nat → Nat → Int32} {x : Int32} {z : Value} (hF : RFok F) (hk : ∀ k, k ≠ 95 → k ≠ 97 → k ≠ 99 → I5 k = I k) (hj : ∀ j, 11 < j → j ≠ 13 → I5 95 j = I 95 j) (h2 : I5 95 2 = 0) (h11 : I5 95 11 = 0) (he : zF S' = 0 ∧ cM T S' I5 ∧ I5 95 13 = 0 ∧ I5 95 9 = 0 ∧ I5 95 10 = nI (T 1000) ∧ zI T N S' ∧ 0 < dN (zD S') 0 ∧ 0 < dN (zD S') 2) : Ew 9 mX12_oath 171 [.ref 95, .int x, z] [] ((SH, nc, ns), I5, J, F) (Ret nc ns (some (.int (zD S' 2 2))) (fun I' J' F' => J' = J ∧ F' = F ∧ (∀ k, k ≠ 95 → k ≠ 97 → k ≠ 98 → k ≠ 99 → k ≠ 100 → I' k = I k) ∧ (∀ j, 11 < j → j ≠ 13 → j ≠ 14 → j ≠ 20 → j ≠ 21 → I' 95 j = I 95 j) ∧ I' 95 2 = 0 ∧ I' 95 11 = 0 ∧ I' 95 9 = 0 ∧ I' 95 10 = nI (T 1000) ∧ I' 95 14 = 1 ∧ I' 95 20 = 0 ∧ I' 95 21 = 0 ∧ oM I' 98 (zD S') ∧ stM I' (fun _ => 0) ∧ zI T N S' ∧ 0 < dN (zD S') 0 ∧ 0 < dN (zD S') 2)) := by
  refine we_aload_n (p := 172) dX12_oath_171 rfl rfl ?_
  refine wf_getI (c := 11) (j := 13) (n := 37) (v := 0) (p := 175) dX12_oath_172 rfl rfl (by decide) (by decide) (Or.inr rfl) he.2.2.1 rfl ?_
  refine we_if_eq (t := 184) (p := 178) dX12_oath_175 (by decide) rfl rfl (fun hc175 => ?_) (fun hc175 => absurd (by decide) hc175)
  refine we_aload_n (p := 185) dX12_oath_184 rfl rfl ?_
  refine we_getR (c := 11) (j := 16) (n := 37) (b := 99) (p := 188) dX12_oath_185 rfl rfl (by decide) (by decide) rfl (r_95_16 hF) rfl ?_
  refine we_iconst (v := 0) (p := 189) dX12_oath_188 (by decide) rfl ?_
  refine we_aload_n (p := 190) dX12_oath_189 rfl rfl ?_
  refine we_getR (c := 11) (j := 15) (n := 37) (b := 98) (p := 193) dX12_oath_190 rfl rfl (by decide) (by decide) rfl (r_95_15 hF) rfl ?_
  refine we_iconst (v := 0) (p := 194) dX12_oath_193 (by decide) rfl ?_
  refine we_sipush (v := 276) (p := 197) dX12_oath_194 (by decide) rfl ?_
  refine we_callS_v (p := 200) (k' := 0) (a := [.ref 99, .int 0, .ref 98, .int 0, .int 276]) (rr := []) dX12_oath_197 rfl rfl rfl rfl rfl (rc_st rfl) (Nat.le_of_ble_eq_true rfl) (Nat.le_of_ble_eq_true rfl) (by decide) (y_copyE (p := 99) (a := 0) (q := 98) (b := 0) (n := 276) rfl (by decide) rfl (by decide) (by decide) (by omega) (by omega) (by decide) (by decide) rfl rfl rfl) (Or.inl rfl) rfl ?_
  refine we_iconst (v := 0) (p := 201) dX12_oath_200 (by decide) rfl ?_
  refine we_istore_n (ls1 := [.ref 95, .int x, .int 0]) (p := 202) dX12_oath_201 rfl rfl ?_
  refine y_st0 (I0 := cpI I5 99 0 98 0 276) hF 6 0 _ (by omega) ⟨fun _ _ => rfl, fun i hi => absurd hi (by omega)⟩ (fun I6 h6 => ?_)
  refine we_aload_n (p := 222) dX12_oath_221 rfl rfl ?_
  refine we_iconst (v := 1) (p := 223) dX12_oath_222 (by decide) rfl ?_
  refine we_putZ (c := 11) (j := 14) (n := 37)  (p := 226) dX12_oath_223 rfl rfl (by decide) (by decide) rfl rfl ⟨rfl, rfl⟩ rfl ?_
  refine we_aload_n (p := 227) dX12_oath_226 rfl rfl ?_
  refine we_iconst (v := 0) (p := 228) dX12_oath_227 (by decide) rfl ?_
  refine we_putI (c := 11) (j := 20) (n := 37)  (p := 231) dX12_oath_228 rfl rfl (by decide) (by decide) rfl rfl rfl ?_
  refine we_aload_n (p := 232) dX12_oath_231 rfl rfl ?_
  refine we_iconst (v := 0) (p := 233) dX12_oath_232 (by decide) rfl ?_
  refine we_putI (c := 11) (j := 21) (n := 37)  (p := 236) dX12_oath_233 rfl rfl (by decide) (by decide) rfl rfl rfl ?_
  have o98 : oM (hp_u (hp_u (hp_u I6 95 14 1) 95 20 0) 95 21 0) 98 (zD S') := by
    have e98 : ∀ i, i < 276 → hp_u (hp_u (hp_u I6 95 14 1) 95 20 0) 95 21 0 98 i = I5 99 i := fun i hi => by
      rw [hu_ne (by decide), hu_ne (by decide), hu_ne (by decide), h6.1 98 (by decide), cp_in (by omega) (by omega)]
      rw [Nat.zero_add, Nat.sub_zero]
    exact oM_98 he.2.1.1 he.2.2.2.2.2.1.2.1 e98
  refine we_aload_n (p := 237) dX12_oath_236 rfl rfl ?_
  refine we_getR (c := 11) (j := 15) (n := 37) (b := 98) (p := 240) dX12_oath_237 rfl rfl (by decide) (by decide) rfl (r_95_15 hF) rfl ?_
  refine we_iconst (v := 4) (p := 241) dX12_oath_240 (by decide) rfl ?_
  refine wf_iald (n := 276) (i := 4) (v := zD S' 2 2) (p := 242) dX12_oath_241 rfl (by decide) (by decide) (by decide) (o98.2.2.1 2 (by decide)) rfl ?_
  exact wi_ret dX12_oath_242 rfl rfl (by decide) (⟨rfl, _, _, _, rfl, rfl, rfl, fun k a b c d e => by rw [hu_ne a, hu_ne a, hu_ne a, h6.1 k e, cp_ne c]; exact hk k a b d, fun j a b c d e => by rw [hu_nj e, hu_nj d, hu_nj c, h6.1 95 (by decide), cp_ne (by decide)]; exact hj j a b, (hu_nj (by decide)).trans ((hu_nj (by decide)).trans ((hu_nj (by decide)).trans ((congrFun ((h6.1 95 (by decide)).trans (cp_ne (by decide))) 2).trans h2))), (hu_nj (by decide)).trans ((hu_nj (by decide)).trans ((hu_nj (by decide)).trans ((congrFun ((h6.1 95 (by decide)).trans (cp_ne (by decide))) 11).trans h11))), (hu_nj (by decide)).trans ((hu_nj (by decide)).trans ((hu_nj (by decide)).trans ((congrFun ((h6.1 95 (by decide)).trans (cp_ne (by decide))) 9).trans he.2.2.2.1))), (hu_nj (by decide)).trans ((hu_nj (by decide)).trans ((hu_nj (by decide)).trans ((congrFun ((h6.1 95 (by decide)).trans (cp_ne (by decide))) 10).trans he.2.2.2.2.1))), (hu_nj (by decide)).trans ((hu_nj (by decide)).trans hu_eq), (hu_nj (by decide)).trans hu_eq, hu_eq, o98, fun i hi => by rw [hu_ne (by decide), hu_ne (by decide), hu_ne (by decide)]; exact h6.2 i hi, he.2.2.2.2.2.1, he.2.2.2.2.2.2.1, he.2.2.2.2.2.2.2⟩)
