/-! Both are made. -/
def hOf (z : ev_Re) : hp_H := match z with
  | some (_, h) => h
  | none => hc_0
def R1_ : ev_Re := ev 8 4000 mX11_init 33 [.ref 0] [] hc_52
def H1_ : hp_H := hOf R1_
theorem R1_ok : (match R1_ with
  | some (none, h) => decide (h.1.1.length = 95)
  | _ => false) = true := by decide +kernel
theorem H1_ok : Ev 8 mX11_init 33 [.ref 0] [] hc_52 none H1_ ∧ H1_.1.1.length = 95 := by
  have h := R1_ok
  unfold H1_
  revert h
  cases hR : R1_ with
  | none => intro h; cases h
  | some z =>
    obtain ⟨r, h1⟩ := z
    cases r with
    | some v => intro h; cases h
    | none =>
      intro h
      exact ⟨⟨4000, hR⟩, of_decide_eq_true h⟩
def R2_ : ev_Re := ev 3 1000 mX12_init 0 [.ref 95] [] (hp_new H1_ 11 37)
def H2_ : hp_H := hOf R2_
def H3_ : hp_H := hp_new H2_ 13 1
/-- what is checked of all that was made -/
def chk (h : hp_H) : Bool := decide (h.1 = (SH, 112, (SH.map Prod.snd).sum)) && RT.all (fun q => decide (h.2.2.2 q.1 q.2.1 = some q.2.2)) && decide (h.2.2.2 0 2 = some 25 ∧ h.2.2.2 3 0 = some 4) && (List.range 16).all (fun i => decide (h.2.2.2 44 i = some (46 + i))) &&
  (decide (h.2.1 25 0 = 0 ∧ h.2.1 25 1 = 0) && (List.range 7).all (fun i => decide (h.2.1 26 i = 0)) && (List.range 6).all (fun i => decide (h.2.1 29 i = 0))) &&
  decide (h.2.1 42 0 = 0 ∧ h.2.1 42 1 = 0 ∧ h.2.1 42 2 = 0 ∧ h.2.1 42 3 = 0 ∧ h.2.1 42 4 = -2 ∧ h.2.1 42 5 = 0 ∧ h.2.1 43 2 = 0 ∧ h.2.1 43 3 = 0 ∧ h.2.1 1 1 = 0 ∧ h.2.1 0 10 = 0 ∧ h.2.1 0 11 = 0 ∧ h.2.1 0 12 = 0) &&
  (List.range 25).all (fun k => decide (h.2.2.1 21 k = lN (KWf k))) && (List.range 9).all (fun i => decide (h.2.1 98 i = 0)) && (List.range 6).all (fun i => decide (h.2.1 98 (9 + 3 * i + 2) = 0)) && (List.range 6).all (fun i => decide (h.2.1 100 i = 0)) &&
  decide (h.2.1 95 14 = 0 ∧ h.2.1 95 20 = 0 ∧ h.2.1 95 21 = 0 ∧ h.2.1 95 2 = 0 ∧ h.2.1 95 11 = 0 ∧ h.2.1 95 9 = 0 ∧ h.2.1 95 10 = -1)
theorem R2_ok : (match R2_ with
  | some (none, h) => chk (hp_new h 13 1)
  | _ => false) = true := by decide +kernel
theorem H2_ok : Ev 3 mX12_init 0 [.ref 95] [] (hp_new H1_ 11 37) none H2_ ∧ chk H3_ = true := by
  have h := R2_ok
  unfold H3_ H2_
  revert h
  cases hR : R2_ with
  | none => intro h; cases h
  | some z =>
    obtain ⟨r, h1⟩ := z
    cases r with
    | some v => intro h; cases h
    | none =>
      intro h
      exact ⟨⟨1000, hR⟩, h⟩
