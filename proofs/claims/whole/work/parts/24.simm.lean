/-! new T[n][k] -/
theorem hp_news_f (h : hp_H) (c k : Nat) : ∀ n, (hp_news h c k n).1 = (h.1.1 ++ List.replicate n (c, k), h.1.2.1 + n, h.1.2.2 + n * k) ∧
    (∀ a, (a < h.1.1.length ∨ h.1.1.length + n ≤ a) → hp_I (hp_news h c k n) a = hp_I h a ∧ hp_J (hp_news h c k n) a = hp_J h a ∧ hp_R (hp_news h c k n) a = hp_R h a) ∧
    ∀ a, h.1.1.length ≤ a → a < h.1.1.length + n → hp_I (hp_news h c k n) a = (fun _ => 0) ∧ hp_J (hp_news h c k n) a = (fun _ => 0) ∧ hp_R (hp_news h c k n) a = fun _ => none
  | 0 => ⟨by simp [hp_news], fun _ _ => ⟨rfl, rfl, rfl⟩, fun a h1 h2 => by omega⟩
  | n + 1 => by
    obtain ⟨i1, i2, i3⟩ := hp_news_f h c k n
    have hl : (hp_news h c k n).1.1.length = h.1.1.length + n := by rw [i1]; simp
    refine ⟨?_, fun a ha => ?_, fun a h1 h2 => ?_⟩
    · show ((hp_news h c k n).1.1 ++ [(c, k)], (hp_news h c k n).1.2.1 + 1, (hp_news h c k n).1.2.2 + k) = _
      rw [i1]
      simp only [Prod.mk.injEq]
      refine ⟨?_, by omega, by rw [Nat.succ_mul]; omega⟩
      rw [List.replicate_succ', List.append_assoc]
    · have hne : ¬ a = (hp_news h c k n).1.1.length := by omega
      obtain ⟨q1, q2, q3⟩ := i2 a (by omega)
      refine ⟨?_, ?_, ?_⟩
      · rw [← q1]; funext b; simp only [hp_I, hp_news, hp_new, hp_z]; rw [if_neg hne]
      · rw [← q2]; funext b; simp only [hp_J, hp_news, hp_new, hp_z]; rw [if_neg hne]
      · rw [← q3]; funext b; simp only [hp_R, hp_news, hp_new, hp_z]; rw [if_neg hne]
    · by_cases hne : a = (hp_news h c k n).1.1.length
      · refine ⟨?_, ?_, ?_⟩
        · funext b; simp only [hp_I, hp_news, hp_new, hp_z]; rw [if_pos hne]
        · funext b; simp only [hp_J, hp_news, hp_new, hp_z]; rw [if_pos hne]
        · funext b; simp only [hp_R, hp_news, hp_new, hp_z]; rw [if_pos hne]
      · obtain ⟨q1, q2, q3⟩ := i3 a h1 (by omega)
        refine ⟨?_, ?_, ?_⟩
        · rw [← q1]; funext b; simp only [hp_I, hp_news, hp_new, hp_z]; rw [if_neg hne]
        · rw [← q2]; funext b; simp only [hp_J, hp_news, hp_new, hp_z]; rw [if_neg hne]
        · rw [← q3]; funext b; simp only [hp_R, hp_news, hp_new, hp_z]; rw [if_neg hne]
theorem hp_mna_f (h : hp_H) (co ci n k : Nat) : (hp_mna h co ci n k).1 = ((h.1.1 ++ [(co, n)]) ++ List.replicate n (ci, k), h.1.2.1 + 1 + n, h.1.2.2 + n + n * k) ∧
    (∀ a, (a < h.1.1.length ∨ h.1.1.length + 1 + n ≤ a) → hp_I (hp_mna h co ci n k) a = hp_I h a ∧ hp_J (hp_mna h co ci n k) a = hp_J h a ∧ hp_R (hp_mna h co ci n k) a = hp_R h a) ∧
    (hp_R (hp_mna h co ci n k) h.1.1.length = fun b => if b < n then some (h.1.1.length + 1 + b) else none) ∧
    ∀ a, h.1.1.length < a → a < h.1.1.length + 1 + n → hp_I (hp_mna h co ci n k) a = (fun _ => 0) ∧ hp_J (hp_mna h co ci n k) a = (fun _ => 0) ∧ hp_R (hp_mna h co ci n k) a = fun _ => none := by
  obtain ⟨i1, i2, i3⟩ := hp_news_f (hp_new h co n) ci k n
  have hl : (hp_new h co n).1.1.length = h.1.1.length + 1 := by simp [hp_new]
  rw [hl] at i2 i3
  refine ⟨i1, fun a ha => ?_, ?_, fun a h1 h2 => ?_⟩
  · have hne : ¬ a = h.1.1.length := by omega
    obtain ⟨q1, q2, q3⟩ := i2 a (by omega)
    refine ⟨?_, ?_, ?_⟩
    · funext b
      show hp_I (hp_news (hp_new h co n) ci k n) a b = hp_I h a b
      rw [q1]; simp only [hp_I, hp_new, hp_z]; rw [if_neg hne]
    · funext b
      show hp_J (hp_news (hp_new h co n) ci k n) a b = hp_J h a b
      rw [q2]; simp only [hp_J, hp_new, hp_z]; rw [if_neg hne]
    · funext b
      simp only [hp_R, hp_mna]
      rw [if_neg hne]
      show hp_R (hp_news (hp_new h co n) ci k n) a b = hp_R h a b
      rw [q3]; simp only [hp_R, hp_new, hp_z]; rw [if_neg hne]
  · funext b
    simp only [hp_R, hp_mna]
    exact if_pos trivial
  · obtain ⟨q1, q2, q3⟩ := i3 a (by omega) (by omega)
    refine ⟨q1, q2, ?_⟩
    funext b
    simp only [hp_R, hp_mna]
    rw [if_neg (by omega)]
    exact congrFun q3 b
def sm_ad2 (ad : Nat → Nat) (n0 n q : Nat) (r : Nat → Nat) : Nat → Nat := fun z => if z = n0 then q else if n0 < z ∧ z < n0 + 1 + n then r (z - n0 - 1) else ad z
theorem sm_w_mna {cA : Nat → ClassId} {ad : Nat → Nat} {h : hp_H} {co ci n k q : Nat} {r : Nat → Nat} (ho : hp_ok h) (hco : 14 < co) (hci : ci = 12 ∨ ci = 13) :
    sm_w cA (sm_ad2 ad (hp_sh h).length n q r) (hp_mna h co ci n k) = (sm_w cA ad h ++ [(q, .inl (cA co, n, .inr (.inr (.inr (.inr (fun i => if i < n then some (r i) else none))))))]) ++ (List.range n).map (fun i => (r i, sm_cell cA ad hp_0 0 (ci, k))) := by
  obtain ⟨f1, f2, f3, f4⟩ := hp_mna_f h co ci n k
  have hlen : (hp_sh (hp_mna h co ci n k)).length = (hp_sh h).length + 1 + n := by simp only [hp_sh]; rw [f1]; simp; omega
  have hsh : hp_sh (hp_mna h co ci n k) = (hp_sh h ++ [(co, n)]) ++ List.replicate n (ci, k) := by simp only [hp_sh]; rw [f1]
  unfold sm_w
  rw [hlen, List.range_add, List.map_append, List.range_succ, List.map_append, List.map_singleton, List.map_map]
  congr 1
  · congr 1
    · apply List.map_congr_left
      intro a ha
      have ha : a < (hp_sh h).length := by simpa using ha
      obtain ⟨eI, eJ, eR⟩ := f2 a (Or.inl ha)
      have e0 : ∀ z, z < (hp_sh h).length → sm_ad2 ad (hp_sh h).length n q r z = ad z := by
        intro z hz
        unfold sm_ad2
        rw [if_neg (by omega), if_neg (by omega)]
      have eM : ∀ b, (hp_R h a b).map (sm_ad2 ad (hp_sh h).length n q r) = (hp_R h a b).map ad := by
        intro b
        cases hq : hp_R h a b with
        | none => rfl
        | some x => simp only [Option.map_some]; rw [e0 x (ho a b x ha hq)]
      have eF : ∀ c', sm_fv (sm_ad2 ad (hp_sh h).length n q r) (hp_mna h co ci n k) a c' = sm_fv ad h a c' := by
        intro c'
        funext b
        unfold sm_fv
        rw [show hp_R (hp_mna h co ci n k) a b = hp_R h a b from congrFun eR b, eM b, show hp_I (hp_mna h co ci n k) a b = hp_I h a b from congrFun eI b, show hp_J (hp_mna h co ci n k) a b = hp_J h a b from congrFun eJ b]
      have e1 : (hp_sh (hp_mna h co ci n k)).getD a (0, 0) = (hp_sh h).getD a (0, 0) := by
        rw [hsh, List.getD_eq_getElem?_getD, List.getD_eq_getElem?_getD, List.append_assoc, List.getElem?_append_left ha]
      rw [e1, e0 a ha]
      congr 1
      unfold sm_cell
      rw [eI, eJ, eF]
      simp only [eR, eM]
    · have e1 : (hp_sh (hp_mna h co ci n k)).getD (hp_sh h).length (0, 0) = (co, n) := by
        rw [hsh, List.getD_eq_getElem?_getD, List.append_assoc, List.getElem?_append_right (Nat.le_refl _), Nat.sub_self]
        rfl
      rw [e1, sm_cell_r hco]
      have e2 : sm_ad2 ad (hp_sh h).length n q r (hp_sh h).length = q := by unfold sm_ad2; rw [if_pos rfl]
      rw [e2]
      refine congrArg (fun f => [(q, (.inl (cA co, n, .inr (.inr (.inr (.inr f)))) : va_E))]) (funext fun i => ?_)
      simp only [hp_sh] at f3 ⊢
      rw [f3]
      by_cases hi : i < n
      · simp only [if_pos hi, Option.map_some]
        unfold sm_ad2
        rw [if_neg (by omega), if_pos (by omega)]
        congr 2
        omega
      · simp only [if_neg hi, Option.map_none]
  · apply List.map_congr_left
    intro i hi
    have hi : i < n := by simpa using hi
    obtain ⟨eI, eJ, eR⟩ := f4 ((hp_sh h).length + 1 + i) (by simp only [hp_sh]; omega) (by simp only [hp_sh]; omega)
    have e1 : (hp_sh (hp_mna h co ci n k)).getD ((hp_sh h).length + 1 + i) (0, 0) = (ci, k) := by
      rw [hsh, List.getD_eq_getElem?_getD, List.getElem?_append_right (by simp)]
      have e3 : (hp_sh h).length + 1 + i - (hp_sh h ++ [(co, n)]).length = i := by simp
      rw [e3, List.getElem?_replicate, if_pos hi]
      rfl
    show (sm_ad2 ad (hp_sh h).length n q r ((hp_sh h).length + 1 + i), sm_cell cA (sm_ad2 ad (hp_sh h).length n q r) (hp_mna h co ci n k) ((hp_sh h).length + 1 + i) ((hp_sh (hp_mna h co ci n k)).getD ((hp_sh h).length + 1 + i) (0, 0))) = (r i, sm_cell cA ad hp_0 0 (ci, k))
    rw [e1]
    have e2 : sm_ad2 ad (hp_sh h).length n q r ((hp_sh h).length + 1 + i) = r i := by
      unfold sm_ad2
      rw [if_neg (by omega), if_pos (by omega)]
      congr 1
      omega
    rw [e2]
    rcases hci with rfl | rfl
    · rw [sm_cell_12, sm_cell_12, eI]; rfl
    · rw [sm_cell_13, sm_cell_13, eJ]; rfl
theorem hp_ok_mna {h : hp_H} {co ci n k : Nat} (ho : hp_ok h) : hp_ok (hp_mna h co ci n k) := by
  obtain ⟨f1, f2, f3, f4⟩ := hp_mna_f h co ci n k
  have hlen : (hp_sh (hp_mna h co ci n k)).length = h.1.1.length + 1 + n := by simp only [hp_sh]; rw [f1]; simp; omega
  intro a b x ha hx
  rw [hlen] at ha ⊢
  rcases Nat.lt_trichotomy a h.1.1.length with h1 | h1 | h1
  · rw [(f2 a (Or.inl h1)).2.2] at hx
    have : x < h.1.1.length := ho a b x h1 hx
    omega
  · subst h1
    rw [f3] at hx
    dsimp only at hx
    split at hx
    · cases hx; omega
    · cases hx
  · rw [(f4 a h1 ha).2.2] at hx
    cases hx
theorem sm_sc_mna {h : hp_H} {L co ci n k : Nat} {xs : Nat → Int32} (hk : h.1.1.length + 1 + n ≤ 1000000) (hs : sm_sc h L xs) : sm_sc (hp_mna h co ci n k) L xs := by
  obtain ⟨f1, f2, f3, f4⟩ := hp_mna_f h co ci n k
  obtain ⟨q1, q2, q3⟩ := f2 sp_X (Or.inr (by show _ ≤ 1000001; omega))
  exact ⟨by rw [q3]; exact hs.1, fun j hj => by rw [q1]; exact hs.2 j hj⟩
