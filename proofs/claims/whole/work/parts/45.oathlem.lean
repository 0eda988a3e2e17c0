section
variable {I : Nat → Nat → Int32} {o r i w : Nat} {D : oD}
theorem cN (h : oC I o D) (hD : WFc D) (hi : i < 7) : I (o + 1) i = nI (dN D i) := (h.2.2.1 i hi).trans (hD.1 i hi)
theorem mNn (h : oM I r D) (hD : WFc D) (hi : i < 7) : I r (2 + i) = nI (dN D i) := (h.2.2.1 i hi).trans (hD.1 i hi)
theorem c3 (h : oC I o D) (hi : i < dN D 0) : I (o + 2) i = D 3 i := (h.2.2.2.1 i hi).1
theorem m3 (h : oM I r D) (hi : i < dN D 0) : I r (9 + 3 * i) = D 3 i := (h.2.2.2.1 i hi).1
theorem c4 (h : oC I o D) (hi : i < dN D 0) : I (o + 3) i = D 4 i := (h.2.2.2.1 i hi).2
theorem m4 (h : oM I r D) (hi : i < dN D 0) : I r (9 + 3 * i + 1) = D 4 i := (h.2.2.2.1 i hi).2
theorem c6 (h : oC I o D) (hi : i < dN D 2) : I (o + 5) i = D 6 i := (h.2.2.2.2.2.1 i hi).1
theorem m6 (h : oM I r D) (hi : i < dN D 2) : I r (27 + 4 * i) = D 6 i := (h.2.2.2.2.2.1 i hi).1
theorem c7 (h : oC I o D) (hi : i < dN D 2) : I (o + 6) i = D 7 i := (h.2.2.2.2.2.1 i hi).2.1
theorem m7 (h : oM I r D) (hi : i < dN D 2) : I r (27 + 4 * i + 1) = D 7 i := (h.2.2.2.2.2.1 i hi).2.1
theorem c8 (h : oC I o D) (hi : i < dN D 2) : I (o + 7) i = D 8 i := (h.2.2.2.2.2.1 i hi).2.2.1
theorem m8 (h : oM I r D) (hi : i < dN D 2) : I r (27 + 4 * i + 2) = D 8 i := (h.2.2.2.2.2.1 i hi).2.2.1
theorem c9 (h : oC I o D) (hi : i < dN D 2) : I (o + 8) i = D 9 i := (h.2.2.2.2.2.1 i hi).2.2.2
theorem m9 (h : oM I r D) (hi : i < dN D 2) : I r (27 + 4 * i + 3) = D 9 i := (h.2.2.2.2.2.1 i hi).2.2.2
theorem c10 (h : oC I o D) (hi : i < dN D 3) : I (o + 9) i = D 10 i := (h.2.2.2.2.2.2.1 i hi).1
theorem m10 (h : oM I r D) (hi : i < dN D 3) : I r (59 + 2 * i) = D 10 i := (h.2.2.2.2.2.2.1 i hi).1
theorem c11 (h : oC I o D) (hi : i < dN D 3) : I (o + 10) i = D 11 i := (h.2.2.2.2.2.2.1 i hi).2
theorem m11 (h : oM I r D) (hi : i < dN D 3) : I r (59 + 2 * i + 1) = D 11 i := (h.2.2.2.2.2.2.1 i hi).2
theorem c12 (h : oC I o D) (hi : i < dN D 4) : I (o + 11) i = D 12 i := (h.2.2.2.2.2.2.2.1 i hi).1
theorem m12 (h : oM I r D) (hi : i < dN D 4) : I r (75 + 2 * i) = D 12 i := (h.2.2.2.2.2.2.2.1 i hi).1
theorem c13 (h : oC I o D) (hi : i < dN D 4) : I (o + 12) i = D 13 i := (h.2.2.2.2.2.2.2.1 i hi).2
theorem m13 (h : oM I r D) (hi : i < dN D 4) : I r (75 + 2 * i + 1) = D 13 i := (h.2.2.2.2.2.2.2.1 i hi).2
theorem c14 (h : oC I o D) (hi : i < dN D 5) : I (o + 13) i = D 14 i := (h.2.2.2.2.2.2.2.2.1 i hi).1
theorem m14 (h : oM I r D) (hi : i < dN D 5) : I r (87 + 2 * i) = D 14 i := (h.2.2.2.2.2.2.2.2.1 i hi).1
theorem c15 (h : oC I o D) (hi : i < dN D 5) : I (o + 14) i = D 15 i := (h.2.2.2.2.2.2.2.2.1 i hi).2
theorem m15 (h : oM I r D) (hi : i < dN D 5) : I r (87 + 2 * i + 1) = D 15 i := (h.2.2.2.2.2.2.2.2.1 i hi).2
theorem c16 (h : oC I o D) (hi : i < dN D 6) : I (o + 15) i = D 16 i := (h.2.2.2.2.2.2.2.2.2 i hi).1
theorem m16 (h : oM I r D) (hi : i < dN D 6) : I r (97 + 2 * i) = D 16 i := (h.2.2.2.2.2.2.2.2.2 i hi).1
theorem c17 (h : oC I o D) (hi : i < dN D 6) : I (o + 16) i = D 17 i := (h.2.2.2.2.2.2.2.2.2 i hi).2
theorem m17 (h : oM I r D) (hi : i < dN D 6) : I r (97 + 2 * i + 1) = D 17 i := (h.2.2.2.2.2.2.2.2.2 i hi).2
theorem c5 (h : oC I o D) (hi : i < 6) : I (o + 4) i = D 5 i := h.2.2.2.2.1 i hi
theorem m5 (h : oM I r D) (hi : i < 6) : I r (9 + 3 * i + 2) = D 5 i := h.2.2.2.2.1 i hi
theorem hm_in (hD : WFc D) (hH : WFh D) (hw : w < dN D 2) : ev_in (D 7 w) 6 = true := by
  obtain ⟨q, h1, h2⟩ := hH w hw
  rw [h2]
  exact in_nI (by have := hD.2.1; omega) (by decide)
theorem hm_lt (hD : WFc D) (hH : WFh D) (hw : w < dN D 2) : (D 7 w).toNatClampNeg < dN D 0 := by
  obtain ⟨q, h1, h2⟩ := hH w hw
  rw [h2, nI_clamp (by have := hD.2.1; omega)]
  exact h1
theorem gN_s {α : Type} (f : Nat → α → α) (j m : Nat) (a : α) : gN f j (m + 1) a = gN f (j + 1) m (f j a) := rfl
theorem nge {a b : Nat} (h : a < b) (hb : b < 1000) : ¬ nI b ≤ nI a := nI_ge h (by omega)
theorem nle {a b : Nat} (h : b ≤ a) (hb : a < 1000) : nI b ≤ nI a := nI_le h (by omega)
end
theorem ix3 (a b x c : Nat) : nI a + nI b * nI x + nI c = nI (a + b * x + c) := by rw [pk_mul, nI_add, nI_add]
theorem ix2 (a b x : Nat) : nI a + nI b * nI x = nI (a + b * x) := by rw [pk_mul, nI_add]
theorem in_ix {x : Int32} {i n : Nat} (e : x = nI i) (h : i < n) (hn : n < 1000) : ev_in x n = true := by rw [e]; exact in_nJ h hn
theorem cl_ix {x : Int32} {i : Nat} (e : x = nI i) (h : i < 1000) : x.toNatClampNeg = i := by rw [e]; exact nI_cl h
