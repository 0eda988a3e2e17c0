/-! The class is made: tape, reader, the reader's oath. -/
section
variable {k : Nat} {M : ev_M} {pc p : Nat} {ls st : List Value} {h : hp_H} {Q : Option Value → hp_H → Prop}
theorem g_room {x v : Int32} (hd : decode (mC M) pc = .ok (.iaload, 1)) (hi : ev_in x 7 = true) (hv : ev_room.getD x.toNatClampNeg 0 = v) (hp : pc + 1 = p) (q : Ew k M p ls (.int v :: st) h Q) : Ew k M pc ls (.int x :: .ref sp_R :: st) h Q := by
  obtain ⟨S, I, J, F⟩ := h
  exact wf_room hd hi hv hp q
theorem g_new {x c n a : Nat} (hd : decode (mC M) pc = .ok (.new x, 3)) (hx : ev_nw (mO M) x = some c) (hn : ev_nf.getD c 0 = n) (ha : (hp_sh h).length = a) (hl : a < 900000) (hv : ev_vs a ls st = true) (hp : pc + 3 = p) (q : Ew k M p ls (.ref a :: st) (hp_new h c n) Q) : Ew k M pc ls st h Q := by
  obtain ⟨S, I, J, F⟩ := h
  subst ha
  exact we_new hd hx hn hl hv hp q
theorem g_newI {v : Int32} {n a : Nat} (hd : decode (mC M) pc = .ok (.newarray .int, 2)) (h0 : ¬ v < 0) (hN : v.toNatClampNeg = n ∧ n ≤ 10000) (ha : (hp_sh h).length = a) (hl : a < 900000) (hv : ev_vs a ls st = true) (hp : pc + 2 = p) (q : Ew k M p ls (.ref a :: st) (hp_new h 12 n) Q) : Ew k M pc ls (.int v :: st) h Q := by
  obtain ⟨S, I, J, F⟩ := h
  subst ha
  obtain ⟨rfl, hN⟩ := hN
  exact we_newI hd h0 hN hl hv hp q
theorem g_newJ {v : Int32} {n a : Nat} (hd : decode (mC M) pc = .ok (.newarray .long, 2)) (h0 : ¬ v < 0) (hN : v.toNatClampNeg = n ∧ n ≤ 10000) (ha : (hp_sh h).length = a) (hl : a < 900000) (hv : ev_vs a ls st = true) (hp : pc + 2 = p) (q : Ew k M p ls (.ref a :: st) (hp_new h 13 n) Q) : Ew k M pc ls (.int v :: st) h Q := by
  obtain ⟨S, I, J, F⟩ := h
  subst ha
  obtain ⟨rfl, hN⟩ := hN
  exact we_newJ hd h0 hN hl hv hp q
theorem g_newB {v : Int32} {n a : Nat} (hd : decode (mC M) pc = .ok (.newarray .byte, 2)) (h0 : ¬ v < 0) (hN : v.toNatClampNeg = n ∧ n ≤ 10000) (ha : (hp_sh h).length = a) (hl : a < 900000) (hv : ev_vs a ls st = true) (hp : pc + 2 = p) (q : Ew k M p ls (.ref a :: st) (hp_new h 14 n) Q) : Ew k M pc ls (.int v :: st) h Q := by
  obtain ⟨S, I, J, F⟩ := h
  subst ha
  obtain ⟨rfl, hN⟩ := hN
  exact we_newB hd h0 hN hl hv hp q
theorem g_putR {x c j n a b : Nat} (hd : decode (mC M) pc = .ok (.putfield x, 3)) (hf : ev_ft (mO M) x = some (c, j)) (hk : (hp_sh h)[a]? = some (c, n)) (ha : a < 1000000) (hj : j < n) (ht : ev_fk c j = 2) (hn : ev_fn c j = true → (mY M).name = "<init>" ∧ mO M = c) (hb : b < (hp_sh h).length) (hp : pc + 3 = p) (q : Ew k M p ls st (hp_sR h a j (some b)) Q) : Ew k M pc ls (.ref b :: .ref a :: st) h Q := by
  obtain ⟨S, I, J, F⟩ := h
  exact we_putR hd hf hk ha hj ht hn hb hp q
theorem g_putI {x c j n a : Nat} {v : Int32} (hd : decode (mC M) pc = .ok (.putfield x, 3)) (hf : ev_ft (mO M) x = some (c, j)) (hk : (hp_sh h)[a]? = some (c, n)) (ha : a < 1000000) (hj : j < n) (ht : ev_fk c j = 0) (hn : ev_fn c j = false) (hp : pc + 3 = p) (q : Ew k M p ls st (hp_sI h a j v) Q) : Ew k M pc ls (.int v :: .ref a :: st) h Q := by
  obtain ⟨S, I, J, F⟩ := h
  exact we_putI hd hf hk ha hj ht hn hp q
theorem g_getR {x c j n a b : Nat} (hd : decode (mC M) pc = .ok (.getfield x, 3)) (hf : ev_ft (mO M) x = some (c, j)) (hk : (hp_sh h)[a]? = some (c, n)) (ha : a < 1000000) (hj : j < n) (ht : ev_fk c j = 2) (hb : hp_R h a j = some b) (hp : pc + 3 = p) (q : Ew k M p ls (.ref b :: st) h Q) : Ew k M pc ls (.ref a :: st) h Q := by
  obtain ⟨S, I, J, F⟩ := h
  exact we_getR hd hf hk ha hj ht hb hp q
theorem g_packed {x : Int64} {v : Int32} : Ev 0 mX7_packed 0 [.long x, .null, .int v] [] h (some (.long (x * 32 + (v - 97 + 1).toInt64))) h := by
  refine e_lload_n (p := 1) dX7_packed_0 rfl rfl ?_
  refine e_ldc2 (p := 4) dX7_packed_1 rfl rfl ?_
  refine e_lmul (p := 5) dX7_packed_4 rfl ?_
  refine e_iload_n (p := 6) dX7_packed_5 rfl rfl ?_
  refine e_bipush (v := 97) (p := 8) dX7_packed_6 (by decide) rfl ?_
  refine e_isub (p := 9) dX7_packed_8 rfl ?_
  refine e_iconst (v := 1) (p := 10) dX7_packed_9 (by decide) rfl ?_
  refine e_iadd (p := 11) dX7_packed_10 rfl ?_
  refine e_i2l (p := 12) dX7_packed_11 rfl ?_
  refine e_ladd (p := 13) dX7_packed_12 rfl ?_
  exact e_lretE dX7_packed_13 rfl ⟨rfl, rfl⟩
end
def setJ (h : hp_H) (J : Nat → Nat → Int64) : hp_H := (h.1, h.2.1, J, h.2.2.2)
def rdF : Nat → Nat → Nat → Int64 → (Nat → Nat → Int64) → (Nat → Nat → Int64)
  | 0, _, _, _, J => J
  | m + 1, i, k, w, J => if k < 25 then (if chU 0 i = 32 then rdF m (i + 1) (k + 1) 0 (hp_u J 21 k w) else rdF m (i + 1) k (w * 32 + (nI (chU 0 i) - 97 + 1).toInt64) J) else J
def hc_0 : hp_H := (([], 0, 0), fun _ _ => 0, fun _ _ => 0, fun _ _ => none)
def hc_1 : hp_H := hp_new hc_0 10 13
def hc_2 : hp_H := hp_new hc_1 9 2
def hc_3 : hp_H := hp_new hc_2 14 900
def hc_4 : hp_H := hp_sR hc_3 1 0 (some 2)
def hc_5 : hp_H := hp_sI hc_4 1 1 0
def hc_6 : hp_H := hp_sR hc_5 0 0 (some 1)
def hc_7 : hp_H := hp_new hc_6 7 16
def hc_8 : hp_H := hp_new hc_7 4 18
def hc_9 : hp_H := hp_new hc_8 12 7
def hc_10 : hp_H := hp_sR hc_9 4 2 (some 5)
def hc_11 : hp_H := hp_new hc_10 12 6
def hc_12 : hp_H := hp_sR hc_11 4 3 (some 6)
def hc_13 : hp_H := hp_new hc_12 12 6
def hc_14 : hp_H := hp_sR hc_13 4 4 (some 7)
def hc_15 : hp_H := hp_new hc_14 12 6
def hc_16 : hp_H := hp_sR hc_15 4 5 (some 8)
def hc_17 : hp_H := hp_new hc_16 12 8
def hc_18 : hp_H := hp_sR hc_17 4 6 (some 9)
def hc_19 : hp_H := hp_new hc_18 12 8
def hc_20 : hp_H := hp_sR hc_19 4 7 (some 10)
def hc_21 : hp_H := hp_new hc_20 12 8
def hc_22 : hp_H := hp_sR hc_21 4 8 (some 11)
def hc_23 : hp_H := hp_new hc_22 12 8
def hc_24 : hp_H := hp_sR hc_23 4 9 (some 12)
def hc_25 : hp_H := hp_new hc_24 12 8
def hc_26 : hp_H := hp_sR hc_25 4 10 (some 13)
def hc_27 : hp_H := hp_new hc_26 12 8
def hc_28 : hp_H := hp_sR hc_27 4 11 (some 14)
def hc_29 : hp_H := hp_new hc_28 12 6
def hc_30 : hp_H := hp_sR hc_29 4 12 (some 15)
def hc_31 : hp_H := hp_new hc_30 12 6
def hc_32 : hp_H := hp_sR hc_31 4 13 (some 16)
def hc_33 : hp_H := hp_new hc_32 12 5
def hc_34 : hp_H := hp_sR hc_33 4 14 (some 17)
def hc_35 : hp_H := hp_new hc_34 12 5
def hc_36 : hp_H := hp_sR hc_35 4 15 (some 18)
def hc_37 : hp_H := hp_new hc_36 12 4
def hc_38 : hp_H := hp_sR hc_37 4 16 (some 19)
def hc_39 : hp_H := hp_new hc_38 12 4
def hc_40 : hp_H := hp_sR hc_39 4 17 (some 20)
def hc_41 : hp_H := hp_sR hc_40 3 0 (some 4)
def hc_42 : hp_H := hp_new hc_41 13 25
def hc_43 : hp_H := hp_sR hc_42 3 3 (some 21)
def hc_44 : hp_H := hp_new hc_43 13 19
def hc_45 : hp_H := hp_sR hc_44 3 4 (some 22)
def hc_46 : hp_H := hp_new hc_45 12 19
def hc_47 : hp_H := hp_sR hc_46 3 5 (some 23)
def hc_48 : hp_H := hp_new hc_47 12 19
def hc_49 : hp_H := hp_sR hc_48 3 6 (some 24)
def hc_50 : hp_H := hp_sR hc_49 3 2 (some 2)
def hc_51 : hp_H := setJ hc_50 (rdF (ev_sb 0).length 0 0 0 (hp_J hc_50))
def hc_52 : hp_H := hp_sR hc_51 0 1 (some 3)
set_option maxRecDepth 10000 in
theorem i_tape : Ew 0 mX9_init 0 [.ref 1] [] hc_2 (fun r h' => r = none ∧ h' = hc_5) := by
  refine we_aload_n (p := 1) dX9_init_0 rfl rfl ?_
  refine we_oinit (p := 4) dX9_init_1 rfl (by decide) rfl ?_
  refine we_aload_n (p := 5) dX9_init_4 rfl rfl ?_
  refine we_sipush (v := 900) (p := 8) dX9_init_5 (by decide) rfl ?_
  refine g_newB (n := 900) (a := 2) (p := 10) dX9_init_8 (by decide) (by decide) (by decide +kernel) (by decide) (by decide +kernel) rfl ?_
  change Ew _ _ _ _ _ hc_3 _
  refine g_putR (c := 9) (j := 0) (n := 2) (p := 13) dX9_init_10 rfl (by decide +kernel) (by decide) (by decide) rfl (fun _ => ⟨rfl, rfl⟩) (by decide +kernel) rfl ?_
  change Ew _ _ _ _ _ hc_4 _
  refine we_aload_n (p := 14) dX9_init_13 rfl rfl ?_
  refine we_iconst (v := 0) (p := 15) dX9_init_14 (by decide) rfl ?_
  refine g_putI (c := 9) (j := 1) (n := 2) (p := 18) dX9_init_15 rfl (by decide +kernel) (by decide) (by decide) rfl rfl rfl ?_
  change Ew _ _ _ _ _ hc_5 _
  exact wv_ret dX9_init_18 rfl ⟨rfl, rfl⟩
set_option maxRecDepth 10000 in
theorem i_oath : Ew 0 mX4_init 0 [.ref 4] [] hc_8 (fun r h' => r = none ∧ h' = hc_40) := by
  refine we_aload_n (p := 1) dX4_init_0 rfl rfl ?_
  refine we_oinit (p := 4) dX4_init_1 rfl (by decide) rfl ?_
  refine we_aload_n (p := 5) dX4_init_4 rfl rfl ?_
  refine we_statR (p := 8) dX4_init_5 rfl rfl ?_
  refine we_rlen (p := 9) dX4_init_8 rfl ?_
  refine g_newI (n := 7) (a := 5) (p := 11) dX4_init_9 (by decide) (by decide) (by decide +kernel) (by decide) (by decide +kernel) rfl ?_
  change Ew _ _ _ _ _ hc_9 _
  refine g_putR (c := 4) (j := 2) (n := 18) (p := 14) dX4_init_11 rfl (by decide +kernel) (by decide) (by decide) rfl (fun _ => ⟨rfl, rfl⟩) (by decide +kernel) rfl ?_
  change Ew _ _ _ _ _ hc_10 _
  refine we_aload_n (p := 15) dX4_init_14 rfl rfl ?_
  refine we_statR (p := 18) dX4_init_15 rfl rfl ?_
  refine we_iconst (v := 0) (p := 19) dX4_init_18 (by decide) rfl ?_
  refine g_room (v := 6) (p := 20) dX4_init_19 (by decide) (by decide) rfl ?_
  refine g_newI (n := 6) (a := 6) (p := 22) dX4_init_20 (by decide) (by decide) (by decide +kernel) (by decide) (by decide +kernel) rfl ?_
  change Ew _ _ _ _ _ hc_11 _
  refine g_putR (c := 4) (j := 3) (n := 18) (p := 25) dX4_init_22 rfl (by decide +kernel) (by decide) (by decide) rfl (fun _ => ⟨rfl, rfl⟩) (by decide +kernel) rfl ?_
  change Ew _ _ _ _ _ hc_12 _
  refine we_aload_n (p := 26) dX4_init_25 rfl rfl ?_
  refine we_statR (p := 29) dX4_init_26 rfl rfl ?_
  refine we_iconst (v := 0) (p := 30) dX4_init_29 (by decide) rfl ?_
  refine g_room (v := 6) (p := 31) dX4_init_30 (by decide) (by decide) rfl ?_
  refine g_newI (n := 6) (a := 7) (p := 33) dX4_init_31 (by decide) (by decide) (by decide +kernel) (by decide) (by decide +kernel) rfl ?_
  change Ew _ _ _ _ _ hc_13 _
  refine g_putR (c := 4) (j := 4) (n := 18) (p := 36) dX4_init_33 rfl (by decide +kernel) (by decide) (by decide) rfl (fun _ => ⟨rfl, rfl⟩) (by decide +kernel) rfl ?_
  change Ew _ _ _ _ _ hc_14 _
  refine we_aload_n (p := 37) dX4_init_36 rfl rfl ?_
  refine we_statR (p := 40) dX4_init_37 rfl rfl ?_
  refine we_iconst (v := 0) (p := 41) dX4_init_40 (by decide) rfl ?_
  refine g_room (v := 6) (p := 42) dX4_init_41 (by decide) (by decide) rfl ?_
  refine g_newI (n := 6) (a := 8) (p := 44) dX4_init_42 (by decide) (by decide) (by decide +kernel) (by decide) (by decide +kernel) rfl ?_
  change Ew _ _ _ _ _ hc_15 _
  refine g_putR (c := 4) (j := 5) (n := 18) (p := 47) dX4_init_44 rfl (by decide +kernel) (by decide) (by decide) rfl (fun _ => ⟨rfl, rfl⟩) (by decide +kernel) rfl ?_
  change Ew _ _ _ _ _ hc_16 _
  refine we_aload_n (p := 48) dX4_init_47 rfl rfl ?_
  refine we_statR (p := 51) dX4_init_48 rfl rfl ?_
  refine we_iconst (v := 2) (p := 52) dX4_init_51 (by decide) rfl ?_
  refine g_room (v := 8) (p := 53) dX4_init_52 (by decide) (by decide) rfl ?_
  refine g_newI (n := 8) (a := 9) (p := 55) dX4_init_53 (by decide) (by decide) (by decide +kernel) (by decide) (by decide +kernel) rfl ?_
  change Ew _ _ _ _ _ hc_17 _
  refine g_putR (c := 4) (j := 6) (n := 18) (p := 58) dX4_init_55 rfl (by decide +kernel) (by decide) (by decide) rfl (fun _ => ⟨rfl, rfl⟩) (by decide +kernel) rfl ?_
  change Ew _ _ _ _ _ hc_18 _
  refine we_aload_n (p := 59) dX4_init_58 rfl rfl ?_
  refine we_statR (p := 62) dX4_init_59 rfl rfl ?_
  refine we_iconst (v := 2) (p := 63) dX4_init_62 (by decide) rfl ?_
  refine g_room (v := 8) (p := 64) dX4_init_63 (by decide) (by decide) rfl ?_
  refine g_newI (n := 8) (a := 10) (p := 66) dX4_init_64 (by decide) (by decide) (by decide +kernel) (by decide) (by decide +kernel) rfl ?_
  change Ew _ _ _ _ _ hc_19 _
  refine g_putR (c := 4) (j := 7) (n := 18) (p := 69) dX4_init_66 rfl (by decide +kernel) (by decide) (by decide) rfl (fun _ => ⟨rfl, rfl⟩) (by decide +kernel) rfl ?_
  change Ew _ _ _ _ _ hc_20 _
  refine we_aload_n (p := 70) dX4_init_69 rfl rfl ?_
  refine we_statR (p := 73) dX4_init_70 rfl rfl ?_
  refine we_iconst (v := 2) (p := 74) dX4_init_73 (by decide) rfl ?_
  refine g_room (v := 8) (p := 75) dX4_init_74 (by decide) (by decide) rfl ?_
  refine g_newI (n := 8) (a := 11) (p := 77) dX4_init_75 (by decide) (by decide) (by decide +kernel) (by decide) (by decide +kernel) rfl ?_
  change Ew _ _ _ _ _ hc_21 _
  refine g_putR (c := 4) (j := 8) (n := 18) (p := 80) dX4_init_77 rfl (by decide +kernel) (by decide) (by decide) rfl (fun _ => ⟨rfl, rfl⟩) (by decide +kernel) rfl ?_
  change Ew _ _ _ _ _ hc_22 _
  refine we_aload_n (p := 81) dX4_init_80 rfl rfl ?_
  refine we_statR (p := 84) dX4_init_81 rfl rfl ?_
  refine we_iconst (v := 2) (p := 85) dX4_init_84 (by decide) rfl ?_
  refine g_room (v := 8) (p := 86) dX4_init_85 (by decide) (by decide) rfl ?_
  refine g_newI (n := 8) (a := 12) (p := 88) dX4_init_86 (by decide) (by decide) (by decide +kernel) (by decide) (by decide +kernel) rfl ?_
  change Ew _ _ _ _ _ hc_23 _
  refine g_putR (c := 4) (j := 9) (n := 18) (p := 91) dX4_init_88 rfl (by decide +kernel) (by decide) (by decide) rfl (fun _ => ⟨rfl, rfl⟩) (by decide +kernel) rfl ?_
  change Ew _ _ _ _ _ hc_24 _
  refine we_aload_n (p := 92) dX4_init_91 rfl rfl ?_
  refine we_statR (p := 95) dX4_init_92 rfl rfl ?_
  refine we_iconst (v := 3) (p := 96) dX4_init_95 (by decide) rfl ?_
  refine g_room (v := 8) (p := 97) dX4_init_96 (by decide) (by decide) rfl ?_
  refine g_newI (n := 8) (a := 13) (p := 99) dX4_init_97 (by decide) (by decide) (by decide +kernel) (by decide) (by decide +kernel) rfl ?_
  change Ew _ _ _ _ _ hc_25 _
  refine g_putR (c := 4) (j := 10) (n := 18) (p := 102) dX4_init_99 rfl (by decide +kernel) (by decide) (by decide) rfl (fun _ => ⟨rfl, rfl⟩) (by decide +kernel) rfl ?_
  change Ew _ _ _ _ _ hc_26 _
  refine we_aload_n (p := 103) dX4_init_102 rfl rfl ?_
  refine we_statR (p := 106) dX4_init_103 rfl rfl ?_
  refine we_iconst (v := 3) (p := 107) dX4_init_106 (by decide) rfl ?_
  refine g_room (v := 8) (p := 108) dX4_init_107 (by decide) (by decide) rfl ?_
  refine g_newI (n := 8) (a := 14) (p := 110) dX4_init_108 (by decide) (by decide) (by decide +kernel) (by decide) (by decide +kernel) rfl ?_
  change Ew _ _ _ _ _ hc_27 _
  refine g_putR (c := 4) (j := 11) (n := 18) (p := 113) dX4_init_110 rfl (by decide +kernel) (by decide) (by decide) rfl (fun _ => ⟨rfl, rfl⟩) (by decide +kernel) rfl ?_
  change Ew _ _ _ _ _ hc_28 _
  refine we_aload_n (p := 114) dX4_init_113 rfl rfl ?_
  refine we_statR (p := 117) dX4_init_114 rfl rfl ?_
  refine we_iconst (v := 4) (p := 118) dX4_init_117 (by decide) rfl ?_
  refine g_room (v := 6) (p := 119) dX4_init_118 (by decide) (by decide) rfl ?_
  refine g_newI (n := 6) (a := 15) (p := 121) dX4_init_119 (by decide) (by decide) (by decide +kernel) (by decide) (by decide +kernel) rfl ?_
  change Ew _ _ _ _ _ hc_29 _
  refine g_putR (c := 4) (j := 12) (n := 18) (p := 124) dX4_init_121 rfl (by decide +kernel) (by decide) (by decide) rfl (fun _ => ⟨rfl, rfl⟩) (by decide +kernel) rfl ?_
  change Ew _ _ _ _ _ hc_30 _
  refine we_aload_n (p := 125) dX4_init_124 rfl rfl ?_
  refine we_statR (p := 128) dX4_init_125 rfl rfl ?_
  refine we_iconst (v := 4) (p := 129) dX4_init_128 (by decide) rfl ?_
  refine g_room (v := 6) (p := 130) dX4_init_129 (by decide) (by decide) rfl ?_
  refine g_newI (n := 6) (a := 16) (p := 132) dX4_init_130 (by decide) (by decide) (by decide +kernel) (by decide) (by decide +kernel) rfl ?_
  change Ew _ _ _ _ _ hc_31 _
  refine g_putR (c := 4) (j := 13) (n := 18) (p := 135) dX4_init_132 rfl (by decide +kernel) (by decide) (by decide) rfl (fun _ => ⟨rfl, rfl⟩) (by decide +kernel) rfl ?_
  change Ew _ _ _ _ _ hc_32 _
  refine we_aload_n (p := 136) dX4_init_135 rfl rfl ?_
  refine we_statR (p := 139) dX4_init_136 rfl rfl ?_
  refine we_iconst (v := 5) (p := 140) dX4_init_139 (by decide) rfl ?_
  refine g_room (v := 5) (p := 141) dX4_init_140 (by decide) (by decide) rfl ?_
  refine g_newI (n := 5) (a := 17) (p := 143) dX4_init_141 (by decide) (by decide) (by decide +kernel) (by decide) (by decide +kernel) rfl ?_
  change Ew _ _ _ _ _ hc_33 _
  refine g_putR (c := 4) (j := 14) (n := 18) (p := 146) dX4_init_143 rfl (by decide +kernel) (by decide) (by decide) rfl (fun _ => ⟨rfl, rfl⟩) (by decide +kernel) rfl ?_
  change Ew _ _ _ _ _ hc_34 _
  refine we_aload_n (p := 147) dX4_init_146 rfl rfl ?_
  refine we_statR (p := 150) dX4_init_147 rfl rfl ?_
  refine we_iconst (v := 5) (p := 151) dX4_init_150 (by decide) rfl ?_
  refine g_room (v := 5) (p := 152) dX4_init_151 (by decide) (by decide) rfl ?_
  refine g_newI (n := 5) (a := 18) (p := 154) dX4_init_152 (by decide) (by decide) (by decide +kernel) (by decide) (by decide +kernel) rfl ?_
  change Ew _ _ _ _ _ hc_35 _
  refine g_putR (c := 4) (j := 15) (n := 18) (p := 157) dX4_init_154 rfl (by decide +kernel) (by decide) (by decide) rfl (fun _ => ⟨rfl, rfl⟩) (by decide +kernel) rfl ?_
  change Ew _ _ _ _ _ hc_36 _
  refine we_aload_n (p := 158) dX4_init_157 rfl rfl ?_
  refine we_statR (p := 161) dX4_init_158 rfl rfl ?_
  refine we_bipush (v := 6) (p := 163) dX4_init_161 (by decide) rfl ?_
  refine g_room (v := 4) (p := 164) dX4_init_163 (by decide) (by decide) rfl ?_
  refine g_newI (n := 4) (a := 19) (p := 166) dX4_init_164 (by decide) (by decide) (by decide +kernel) (by decide) (by decide +kernel) rfl ?_
  change Ew _ _ _ _ _ hc_37 _
  refine g_putR (c := 4) (j := 16) (n := 18) (p := 169) dX4_init_166 rfl (by decide +kernel) (by decide) (by decide) rfl (fun _ => ⟨rfl, rfl⟩) (by decide +kernel) rfl ?_
  change Ew _ _ _ _ _ hc_38 _
  refine we_aload_n (p := 170) dX4_init_169 rfl rfl ?_
  refine we_statR (p := 173) dX4_init_170 rfl rfl ?_
  refine we_bipush (v := 6) (p := 175) dX4_init_173 (by decide) rfl ?_
  refine g_room (v := 4) (p := 176) dX4_init_175 (by decide) (by decide) rfl ?_
  refine g_newI (n := 4) (a := 20) (p := 178) dX4_init_176 (by decide) (by decide) (by decide +kernel) (by decide) (by decide +kernel) rfl ?_
  change Ew _ _ _ _ _ hc_39 _
  refine g_putR (c := 4) (j := 17) (n := 18) (p := 181) dX4_init_178 rfl (by decide +kernel) (by decide) (by decide) rfl (fun _ => ⟨rfl, rfl⟩) (by decide +kernel) rfl ?_
  change Ew _ _ _ _ _ hc_40 _
  exact wv_ret dX4_init_181 rfl ⟨rfl, rfl⟩
theorem chU_300 : ∀ i, i < (ev_sb 0).length → chU 0 i < 300 := by decide +kernel
set_option maxRecDepth 10000 in
theorem i_rloop : ∀ (m i k : Nat) (w : Int64) (J : Nat → Nat → Int64), i + m = (ev_sb 0).length → k ≤ i → Ew 2 mX7_init 59 [.ref 3, .ref 2, .int (nI k), .long w, .null, .int (nI i)] [] (setJ hc_50 J) (fun r h' => r = none ∧ h' = setJ hc_50 (rdF m i k w J)) := by
  intro m
  have hsl := sb_len 0 (by omega)
  induction m with
  | zero =>
    intro i k w J hm hki
    refine we_iload (p := 61) dX7_init_59 rfl rfl ?_
    refine we_ldcS (j := 0) (p := 63) dX7_init_61 rfl rfl rfl ?_
    refine we_callV_int (p := 66) (k' := 1) (a := [.ref (sp_S + 0)]) (rr := [.int (nI i)]) dX7_init_63 rfl rfl rfl rfl (rc_str rfl rfl (by omega)) (Nat.le_of_ble_eq_true rfl) (Nat.le_of_ble_eq_true rfl) (by decide) (y_slen (by omega)) (Or.inl rfl) rfl ?_
    refine we_icmp_ge (t := 120) (p := 69) dX7_init_66 (by decide) rfl rfl (fun _ => ?_) (fun z => absurd (nI_le (a := (ev_sb 0).length) (b := i) (by omega) (by omega)) z)
    exact wv_ret dX7_init_120 rfl ⟨rfl, rfl⟩
  | succ m ih =>
    intro i k w J hm hki
    refine we_iload (p := 61) dX7_init_59 rfl rfl ?_
    refine we_ldcS (j := 0) (p := 63) dX7_init_61 rfl rfl rfl ?_
    refine we_callV_int (p := 66) (k' := 1) (a := [.ref (sp_S + 0)]) (rr := [.int (nI i)]) dX7_init_63 rfl rfl rfl rfl (rc_str rfl rfl (by omega)) (Nat.le_of_ble_eq_true rfl) (Nat.le_of_ble_eq_true rfl) (by decide) (y_slen (by omega)) (Or.inl rfl) rfl ?_
    refine we_icmp_ge (t := 120) (p := 69) dX7_init_66 (by decide) rfl rfl (fun z => absurd (nI_lt (a := i) (b := (ev_sb 0).length) (by omega) (by omega)) (Int32.not_lt.mpr z)) (fun _ => ?_)
    refine we_iload_n (p := 70) dX7_init_69 rfl rfl ?_
    refine we_bipush (v := 25) (p := 72) dX7_init_70 (by decide) rfl ?_
    unfold rdF
    by_cases hk : k < 25
    · rw [if_pos hk]
      refine we_icmp_ge (t := 120) (p := 75) dX7_init_72 (by decide) rfl rfl (fun z => absurd (nI_lt (a := k) (b := 25) hk (by decide)) (Int32.not_lt.mpr z)) (fun _ => ?_)
      refine we_ldcS (j := 0) (p := 77) dX7_init_75 rfl rfl rfl ?_
      refine we_iload (p := 79) dX7_init_77 rfl rfl ?_
      refine we_callV_int (p := 82) (k' := 1) (a := [.ref (sp_S + 0), .int (nI i)]) (rr := []) dX7_init_79 rfl rfl rfl rfl (rc_str rfl rfl (by omega)) (Nat.le_of_ble_eq_true rfl) (Nat.le_of_ble_eq_true rfl) (by decide) (y_char (by omega) (by omega)) (Or.inl rfl) rfl ?_
      refine we_bipush (v := 32) (p := 84) dX7_init_82 (by decide) rfl ?_
      have hc : chU 0 i < 300 := chU_300 i (by omega)
      by_cases c : chU 0 i = 32
      · rw [if_pos c]
        refine we_icmp_ne (t := 102) (p := 87) dX7_init_84 (by decide) rfl rfl (fun z => absurd (by rw [c]; rfl) z) (fun _ => ?_)
        refine we_aload_n (p := 88) dX7_init_87 rfl rfl ?_
        refine g_getR (c := 7) (j := 3) (n := 16) (b := 21) (p := 91) dX7_init_88 rfl (show (hp_sh hc_50)[3]? = some (7, 16) by decide +kernel) (by decide) (by decide) rfl (show hp_R hc_50 3 3 = some 21 by decide +kernel) rfl ?_
        refine we_iload_n (p := 92) dX7_init_91 rfl rfl ?_
        refine we_lload_n (p := 93) dX7_init_92 rfl rfl ?_
        refine wf_last (n := 25) (i := k) (p := 94) dX7_init_93 (show (hp_sh hc_50)[21]? = some (13, 25) by decide +kernel) (by decide) (in_nJ hk (by omega)) (nI_cl (by omega)) rfl ?_
        refine we_lconst (v := 0) (p := 95) dX7_init_94 (by decide) rfl ?_
        refine we_lstore_n (ls1 := [.ref 3, .ref 2, .int (nI k), .long 0, .null, .int (nI i)]) (p := 96) dX7_init_95 rfl rfl ?_
        refine we_iinc (ls1 := [.ref 3, .ref 2, .int (nI (k + 1)), .long 0, .null, .int (nI i)]) (p := 99) dX7_init_96 rfl (by rw [show Int32.ofInt 1 = 1 from rfl, nI_1]; rfl) rfl ?_
        refine we_goto (p := 114) dX7_init_99 (by decide) rfl ?_
        refine we_iinc (ls1 := [.ref 3, .ref 2, .int (nI (k + 1)), .long 0, .null, .int (nI (i + 1))]) (p := 117) dX7_init_114 rfl (by rw [show Int32.ofInt 1 = 1 from rfl, nI_1]; rfl) rfl ?_
        refine we_goto (p := 59) dX7_init_117 (by decide) rfl ?_
        exact ih (i + 1) (k + 1) 0 (hp_u J 21 k w) (by omega) (by omega)
      · rw [if_neg c]
        refine we_icmp_ne (t := 102) (p := 87) dX7_init_84 (by decide) rfl rfl (fun _ => ?_) (fun z => absurd ((nI_eq (by omega) (by omega)).mp (z.trans (show (32 : Int32) = nI 32 from rfl))) c)
        refine we_lload_n (p := 103) dX7_init_102 rfl rfl ?_
        refine we_ldcS (j := 0) (p := 105) dX7_init_103 rfl rfl rfl ?_
        refine we_iload (p := 107) dX7_init_105 rfl rfl ?_
        refine we_callV_int (p := 110) (k' := 1) (a := [.ref (sp_S + 0), .int (nI i)]) (rr := [.long w]) dX7_init_107 rfl rfl rfl rfl (rc_str rfl rfl (by omega)) (Nat.le_of_ble_eq_true rfl) (Nat.le_of_ble_eq_true rfl) (by decide) (y_char (by omega) (by omega)) (Or.inl rfl) rfl ?_
        refine we_callS_long (p := 113) (k' := 0) (a := [.long w, .int (nI (chU 0 i))]) (rr := []) dX7_init_110 rfl rfl rfl rfl rfl (rc_st rfl) (Nat.le_of_ble_eq_true rfl) (Nat.le_of_ble_eq_true rfl) (by decide) g_packed (Or.inl rfl) rfl ?_
        refine we_lstore_n (ls1 := [.ref 3, .ref 2, .int (nI k), .long (w * 32 + (nI (chU 0 i) - 97 + 1).toInt64), .null, .int (nI i)]) (p := 114) dX7_init_113 rfl rfl ?_
        refine we_iinc (ls1 := [.ref 3, .ref 2, .int (nI k), .long (w * 32 + (nI (chU 0 i) - 97 + 1).toInt64), .null, .int (nI (i + 1))]) (p := 117) dX7_init_114 rfl (by rw [show Int32.ofInt 1 = 1 from rfl, nI_1]; rfl) rfl ?_
        refine we_goto (p := 59) dX7_init_117 (by decide) rfl ?_
        exact ih (i + 1) k _ J (by omega) (by omega)
    · rw [if_neg hk]
      refine we_icmp_ge (t := 120) (p := 75) dX7_init_72 (by decide) rfl rfl (fun _ => ?_) (fun z => ?_)
      · exact wv_ret dX7_init_120 rfl ⟨rfl, rfl⟩
      · exfalso
        exact z (nI_le (a := 25) (b := k) (by omega) (by omega))
set_option maxRecDepth 10000 in
theorem i_reader : Ew 2 mX7_init 0 [.ref 3, .ref 2, .null, .null, .null, .null] [] hc_7 (fun r h' => r = none ∧ h' = hc_51) := by
  refine we_aload_n (p := 1) dX7_init_0 rfl rfl ?_
  refine we_oinit (p := 4) dX7_init_1 rfl (by decide) rfl ?_
  refine we_aload_n (p := 5) dX7_init_4 rfl rfl ?_
  refine g_new (c := 4) (n := 18) (a := 4) (p := 8) dX7_init_5 rfl rfl (by decide +kernel) (by decide) (by decide +kernel) rfl ?_
  change Ew _ _ _ _ _ hc_8 _
  refine we_dup_ref (p := 9) dX7_init_8 rfl ?_
  obtain ⟨_, _, e9, rfl, rfl⟩ := i_oath
  refine we_callI_v (p := 12) (k' := 0) (a := [.ref 4]) (rr := [.ref 4, .ref 3]) dX7_init_9 rfl rfl (by decide) rfl rfl rfl (by decide +kernel) (by decide) (by decide) (by decide) e9 (Or.inr (by decide +kernel)) rfl ?_
  refine g_putR (c := 7) (j := 0) (n := 16) (p := 15) dX7_init_12 rfl (by decide +kernel) (by decide) (by decide) rfl (fun _ => ⟨rfl, rfl⟩) (by decide +kernel) rfl ?_
  change Ew _ _ _ _ _ hc_41 _
  refine we_aload_n (p := 16) dX7_init_15 rfl rfl ?_
  refine we_bipush (v := 25) (p := 18) dX7_init_16 (by decide) rfl ?_
  refine g_newJ (n := 25) (a := 21) (p := 20) dX7_init_18 (by decide) (by decide) (by decide +kernel) (by decide) (by decide +kernel) rfl ?_
  change Ew _ _ _ _ _ hc_42 _
  refine g_putR (c := 7) (j := 3) (n := 16) (p := 23) dX7_init_20 rfl (by decide +kernel) (by decide) (by decide) rfl (fun _ => ⟨rfl, rfl⟩) (by decide +kernel) rfl ?_
  change Ew _ _ _ _ _ hc_43 _
  refine we_aload_n (p := 24) dX7_init_23 rfl rfl ?_
  refine we_bipush (v := 19) (p := 26) dX7_init_24 (by decide) rfl ?_
  refine g_newJ (n := 19) (a := 22) (p := 28) dX7_init_26 (by decide) (by decide) (by decide +kernel) (by decide) (by decide +kernel) rfl ?_
  change Ew _ _ _ _ _ hc_44 _
  refine g_putR (c := 7) (j := 4) (n := 16) (p := 31) dX7_init_28 rfl (by decide +kernel) (by decide) (by decide) rfl (fun _ => ⟨rfl, rfl⟩) (by decide +kernel) rfl ?_
  change Ew _ _ _ _ _ hc_45 _
  refine we_aload_n (p := 32) dX7_init_31 rfl rfl ?_
  refine we_bipush (v := 19) (p := 34) dX7_init_32 (by decide) rfl ?_
  refine g_newI (n := 19) (a := 23) (p := 36) dX7_init_34 (by decide) (by decide) (by decide +kernel) (by decide) (by decide +kernel) rfl ?_
  change Ew _ _ _ _ _ hc_46 _
  refine g_putR (c := 7) (j := 5) (n := 16) (p := 39) dX7_init_36 rfl (by decide +kernel) (by decide) (by decide) rfl (fun _ => ⟨rfl, rfl⟩) (by decide +kernel) rfl ?_
  change Ew _ _ _ _ _ hc_47 _
  refine we_aload_n (p := 40) dX7_init_39 rfl rfl ?_
  refine we_bipush (v := 19) (p := 42) dX7_init_40 (by decide) rfl ?_
  refine g_newI (n := 19) (a := 24) (p := 44) dX7_init_42 (by decide) (by decide) (by decide +kernel) (by decide) (by decide +kernel) rfl ?_
  change Ew _ _ _ _ _ hc_48 _
  refine g_putR (c := 7) (j := 6) (n := 16) (p := 47) dX7_init_44 rfl (by decide +kernel) (by decide) (by decide) rfl (fun _ => ⟨rfl, rfl⟩) (by decide +kernel) rfl ?_
  change Ew _ _ _ _ _ hc_49 _
  refine we_aload_n (p := 48) dX7_init_47 rfl rfl ?_
  refine we_aload_n (p := 49) dX7_init_48 rfl rfl ?_
  refine g_putR (c := 7) (j := 2) (n := 16) (p := 52) dX7_init_49 rfl (by decide +kernel) (by decide) (by decide) rfl (fun _ => ⟨rfl, rfl⟩) (by decide +kernel) rfl ?_
  change Ew _ _ _ _ _ hc_50 _
  refine we_iconst (v := 0) (p := 53) dX7_init_52 (by decide) rfl ?_
  refine we_istore_n (ls1 := [.ref 3, .ref 2, .int 0, .null, .null, .null]) (p := 54) dX7_init_53 rfl rfl ?_
  refine we_lconst (v := 0) (p := 55) dX7_init_54 (by decide) rfl ?_
  refine we_lstore_n (ls1 := [.ref 3, .ref 2, .int 0, .long 0, .null, .null]) (p := 56) dX7_init_55 rfl rfl ?_
  refine we_iconst (v := 0) (p := 57) dX7_init_56 (by decide) rfl ?_
  refine we_istore (ls1 := [.ref 3, .ref 2, .int 0, .long 0, .null, .int 0]) (p := 59) dX7_init_57 rfl rfl ?_
  exact i_rloop (ev_sb 0).length 0 0 0 (hp_J hc_50) (by omega) (by omega)
set_option maxRecDepth 10000 in
theorem i_head {Q : Option Value → hp_H → Prop} (kk : Ew 8 mX11_init 33 [.ref 0] [] hc_52 Q) : Ew 8 mX11_init 0 [.ref 0] [] hc_1 Q := by
  refine we_aload_n (p := 1) dX11_init_0 rfl rfl ?_
  refine we_oinit (p := 4) dX11_init_1 rfl (by decide) rfl ?_
  refine we_aload_n (p := 5) dX11_init_4 rfl rfl ?_
  refine g_new (c := 9) (n := 2) (a := 1) (p := 8) dX11_init_5 rfl rfl (by decide +kernel) (by decide) (by decide +kernel) rfl ?_
  change Ew _ _ _ _ _ hc_2 _
  refine we_dup_ref (p := 9) dX11_init_8 rfl ?_
  obtain ⟨_, _, e9, rfl, rfl⟩ := i_tape
  refine we_callI_v (p := 12) (k' := 0) (a := [.ref 1]) (rr := [.ref 1, .ref 0]) dX11_init_9 rfl rfl (by decide) rfl rfl rfl (by decide +kernel) (by decide) (by decide) (by decide) e9 (Or.inr (by decide +kernel)) rfl ?_
  refine g_putR (c := 10) (j := 0) (n := 13) (p := 15) dX11_init_12 rfl (by decide +kernel) (by decide) (by decide) rfl (fun _ => ⟨rfl, rfl⟩) (by decide +kernel) rfl ?_
  change Ew _ _ _ _ _ hc_6 _
  refine we_aload_n (p := 16) dX11_init_15 rfl rfl ?_
  refine g_new (c := 7) (n := 16) (a := 3) (p := 19) dX11_init_16 rfl rfl (by decide +kernel) (by decide) (by decide +kernel) rfl ?_
  change Ew _ _ _ _ _ hc_7 _
  refine we_dup_ref (p := 20) dX11_init_19 rfl ?_
  refine we_aload_n (p := 21) dX11_init_20 rfl rfl ?_
  refine g_getR (c := 10) (j := 0) (n := 13) (b := 1) (p := 24) dX11_init_21 rfl (by decide +kernel) (by decide) (by decide) rfl (by decide +kernel) rfl ?_
  refine g_getR (c := 9) (j := 0) (n := 2) (b := 2) (p := 27) dX11_init_24 rfl (by decide +kernel) (by decide) (by decide) rfl (by decide +kernel) rfl ?_
  obtain ⟨_, _, e27, rfl, rfl⟩ := i_reader
  refine we_callI_v (p := 30) (k' := 2) (a := [.ref 3, .ref 2]) (rr := [.ref 3, .ref 0]) dX11_init_27 rfl rfl (by decide) rfl rfl rfl (by decide +kernel) (by decide) (by decide) (by decide) e27 (Or.inr (by decide +kernel)) rfl ?_
  refine g_putR (c := 10) (j := 1) (n := 13) (p := 33) dX11_init_30 rfl (by decide +kernel) (by decide) (by decide) rfl (fun _ => ⟨rfl, rfl⟩) (by decide +kernel) rfl ?_
  change Ew _ _ _ _ _ hc_52 _
  exact kk
