/-! The law: its loop. -/
def LQ (a b : Nat) : Option Value → hp_H → Prop := fun r h' => r = some (.int 1) ∧ h'.1.2.1 ≤ a ∧ h'.1.2.2 ≤ b
theorem l_n6 {n : Nat} (hn : n ≤ 3072) : (Int32.ofNat n - 6).toInt = (n : Int) - 6 := by
  have e : Int32.ofNat n - 6 = Int32.ofInt ((n : Int) - 6) := by
    rw [Int32.ofInt_sub]
    rfl
  rw [e, Int32.toInt_ofInt_of_le (by omega) (by omega)]
theorem tb_63 : ∀ j, j < 32 → 6 ≤ j → tb 63 j = false := by decide +kernel
set_option maxRecDepth 10000 in
set_option maxHeartbeats 4000000 in
theorem l_loop {n a b : Nat} (hn : n ≤ 3072) : ∀ (m j : Nat) (z5 z6 : Value) (I : Nat → Nat → Int32) (J : Nat → Nat → Int64) (F : Nat → Nat → Option Nat) (nc ns : Nat), j + m = 513 → nc + m ≤ a → ns + 6 * m ≤ b → Lv n I J F → Ew 12 mL_law 23 (lL j z5 z6) [] ((SH, nc, ns), I, J, F) (LQ a b) := by
  intro m
  induction m with
  | zero =>
    intro j z5 z6 I J F nc ns hj ha hb hv
    refine we_iload (p := 25) dL_law_23 rfl rfl ?_
    refine we_aload_n (p := 26) dL_law_25 rfl rfl ?_
    refine we_xlen (p := 27) dL_law_26 hv.2 rfl ?_
    refine we_bipush (v := 6) (p := 29) dL_law_27 (by decide) rfl ?_
    refine we_isub (p := 30) dL_law_29 rfl ?_
    refine we_icmp_gt (t := 1855) (p := 33) dL_law_30 (by decide) rfl rfl (fun _ => ?_) (fun z => ?_)
    · refine we_iconst (v := 1) (p := 1856) dL_law_1855 (by decide) rfl ?_
      exact wi_ret dL_law_1856 rfl rfl (by decide) ⟨rfl, by simpa using ha, by simpa using hb⟩
    · exfalso
      apply z
      exact Int32.lt_iff_toInt_lt.mpr (by rw [l_n6 hn, nI_toInt (by omega)]; omega)
  | succ m ih =>
    intro j z5 z6 I J F nc ns hj ha hb hv
    refine we_iload (p := 25) dL_law_23 rfl rfl ?_
    refine we_aload_n (p := 26) dL_law_25 rfl rfl ?_
    refine we_xlen (p := 27) dL_law_26 hv.2 rfl ?_
    refine we_bipush (v := 6) (p := 29) dL_law_27 (by decide) rfl ?_
    refine we_isub (p := 30) dL_law_29 rfl ?_
    refine we_icmp_gt (t := 1855) (p := 33) dL_law_30 (by decide) rfl rfl (fun _ => ?_) (fun z => ?_)
    · refine we_iconst (v := 1) (p := 1856) dL_law_1855 (by decide) rfl ?_
      exact wi_ret dL_law_1856 rfl rfl (by decide) ⟨rfl, (show nc ≤ a by omega), (show ns ≤ b by omega)⟩
    have hj6 : 6 * j + 6 ≤ n := by
      have z1 := Int32.not_lt.mp z
      have z2 := Int32.le_iff_toInt_le.mp z1
      rw [l_n6 hn, nI_toInt (by omega)] at z2
      omega
    have kk : ∀ I2 J2 F2 nc2 ns2 y5 y6, nc2 ≤ nc + 1 → ns2 ≤ ns + 6 → Lv n I2 J2 F2 → Ew 12 mL_law 1849 (lL j y5 y6) [] ((SH, nc2, ns2), I2, J2, F2) (LQ a b) := by
      intro I2 J2 F2 nc2 ns2 y5 y6 a1 a2 hv2
      refine we_iinc (ls1 := lL (j + 1) y5 y6) (p := 1852) dL_law_1849 rfl ?_ rfl ?_
      · rw [show Int32.ofInt 6 = nI 6 from rfl, nI_add, show 6 * j + 6 = 6 * (j + 1) by omega]
        rfl
      refine we_goto (p := 23) dL_law_1852 (by decide) rfl ?_
      exact ih (j + 1) y5 y6 I2 J2 F2 nc2 ns2 (by omega) (by omega) (by omega) hv2
    refine we_aload_n (p := 34) dL_law_33 rfl rfl ?_
    refine we_iload (p := 36) dL_law_34 rfl rfl ?_
    refine wf_scr (p := 37) dL_law_36 hv.2 (in_nI (show 6 * j < n by omega) (by omega)) (nI_clamp (by omega)) rfl ?_
    refine we_bipush (v := 63) (p := 39) dL_law_37 (by decide) rfl ?_
    refine we_iand (p := 40) dL_law_39 rfl ?_
    obtain ⟨c, hc, e⟩ := lt_of_tb (x := I sp_X (6 * j) &&& 63) (n := 6) (by omega) (fun i h1 h2 => by rw [tb_and, tb_63 i h2 h1, Bool.and_false])
    rw [e]
    clear e z
    by_cases h50 : c ≤ 50
    · match c, h50 with
    | 0, _ => exact we_swIn (off := 220) (p := 260) dL_law_40 (by decide) rfl (by decide) rfl (l_feed hv (by omega) hn (fun I2 J2 F2 hv2 => kk I2 J2 F2 nc ns z5 z6 (by omega) (by omega) hv2))
    | 1, _ => exact we_swIn (off := 293) (p := 333) dL_law_40 (by decide) rfl (by decide) rfl (l_oath hv (by omega) hn (fun I2 J2 F2 hv2 => kk I2 J2 F2 nc ns z5 z6 (by omega) (by omega) hv2))
    | 2, _ => exact we_swIn (off := 318) (p := 358) dL_law_40 (by decide) rfl (by decide) rfl (l_fault hv (by omega) hn (fun I2 J2 F2 hv2 => kk I2 J2 F2 nc ns z5 z6 (by omega) (by omega) hv2))
    | 3, _ => exact we_swIn (off := 331) (p := 371) dL_law_40 (by decide) rfl (by decide) rfl (l_where hv (by omega) hn (fun I2 J2 F2 hv2 => kk I2 J2 F2 nc ns z5 z6 (by omega) (by omega) hv2))
    | 4, _ => exact we_swIn (off := 344) (p := 384) dL_law_40 (by decide) rfl (by decide) rfl (l_harbour hv (by omega) hn (fun I2 J2 F2 hv2 => kk I2 J2 F2 nc ns z5 z6 (by omega) (by omega) hv2))
    | 5, _ => exact we_swIn (off := 381) (p := 421) dL_law_40 (by decide) rfl (by decide) rfl (l_woman hv (by omega) hn (fun I2 J2 F2 hv2 => kk I2 J2 F2 nc ns z5 z6 (by omega) (by omega) hv2))
    | 6, _ => exact we_swIn (off := 418) (p := 458) dL_law_40 (by decide) rfl (by decide) rfl (l_age hv (by omega) hn (fun I2 J2 F2 hv2 => kk I2 J2 F2 nc ns z5 z6 (by omega) (by omega) hv2))
    | 7, _ => exact we_swIn (off := 455) (p := 495) dL_law_40 (by decide) rfl (by decide) rfl (l_love hv (by omega) hn (fun I2 J2 F2 hv2 => kk I2 J2 F2 nc ns z5 z6 (by omega) (by omega) hv2))
    | 8, _ => exact we_swIn (off := 492) (p := 532) dL_law_40 (by decide) rfl (by decide) rfl (l_isTrue hv (by omega) hn (fun I2 J2 F2 hv2 => kk I2 J2 F2 nc ns z5 z6 (by omega) (by omega) hv2))
    | 9, _ => exact we_swIn (off := 558) (p := 598) dL_law_40 (by decide) rfl (by decide) rfl (l_bestLanding hv (by omega) hn (fun I2 J2 F2 hv2 => kk I2 J2 F2 nc ns z5 z6 (by omega) (by omega) hv2))
    | 10, _ => exact we_swIn (off := 583) (p := 623) dL_law_40 (by decide) rfl (by decide) rfl (l_ofAge hv (by omega) hn (fun I2 J2 F2 hv2 => kk I2 J2 F2 nc ns z5 z6 (by omega) (by omega) hv2))
    | 11, _ => exact we_swIn (off := 608) (p := 648) dL_law_40 (by decide) rfl (by decide) rfl (l_alone hv (by omega) hn (fun I2 J2 F2 hv2 => kk I2 J2 F2 nc ns z5 z6 (by omega) (by omega) hv2))
    | 12, _ => exact we_swIn (off := 645) (p := 685) dL_law_40 (by decide) rfl (by decide) rfl (l_present hv (by omega) hn (fun I2 J2 F2 hv2 => kk I2 J2 F2 nc ns z5 z6 (by omega) (by omega) hv2))
    | 13, _ => exact we_swIn (off := 670) (p := 710) dL_law_40 (by decide) rfl (by decide) rfl (l_belle hv (by omega) hn (fun I2 J2 F2 hv2 => kk I2 J2 F2 nc ns z5 z6 (by omega) (by omega) hv2))
    | 14, _ => exact we_swIn (off := 707) (p := 747) dL_law_40 (by decide) rfl (by decide) rfl (l_sevens hv (by omega) hn (fun I2 J2 F2 hv2 => kk I2 J2 F2 nc ns z5 z6 (by omega) (by omega) hv2))
    | 15, _ => exact we_swIn (off := 744) (p := 784) dL_law_40 (by decide) rfl (by decide) rfl (l_byYears hv (by omega) hn (fun I2 J2 F2 hv2 => kk I2 J2 F2 nc ns z5 z6 (by omega) (by omega) hv2))
    | 16, _ => exact we_swIn (off := 793) (p := 833) dL_law_40 (by decide) rfl (by decide) rfl (l_bestYears hv (by omega) hn (fun I2 J2 F2 hv2 => kk I2 J2 F2 nc ns z5 z6 (by omega) (by omega) hv2))
    | 17, _ => exact we_swIn (off := 818) (p := 858) dL_law_40 (by decide) rfl (by decide) rfl (l_route hv (by omega) hn (fun I2 J2 F2 hv2 => kk I2 J2 F2 nc ns z5 z6 (by omega) (by omega) hv2))
    | 18, _ => exact we_swIn (off := 872) (p := 912) dL_law_40 (by decide) rfl (by decide) rfl (l_mean hv (by omega) hn (fun I2 J2 F2 hv2 => kk I2 J2 F2 nc ns z5 z6 (by omega) (by omega) hv2))
    | 19, _ => exact we_swIn (off := 926) (p := 966) dL_law_40 (by decide) rfl (by decide) rfl (l_routeAt hv (by omega) hn (fun I2 J2 F2 hv2 => kk I2 J2 F2 nc ns z5 z6 (by omega) (by omega) hv2))
    | 20, _ => exact we_swIn (off := 963) (p := 1003) dL_law_40 (by decide) rfl (by decide) rfl (l_routes hv (by omega) hn (fun I2 J2 F2 hv2 => kk I2 J2 F2 nc ns z5 z6 (by omega) (by omega) hv2))
    | 21, _ => exact we_swIn (off := 988) (p := 1028) dL_law_40 (by decide) rfl (by decide) rfl (l_letters hv (by omega) hn (fun I2 J2 F2 hv2 => kk I2 J2 F2 nc ns z5 z6 (by omega) (by omega) hv2))
    | 22, _ => exact we_swIn (off := 1013) (p := 1053) dL_law_40 (by decide) rfl (by decide) rfl (l_lettersAt hv (by omega) hn (fun I2 J2 F2 hv2 => kk I2 J2 F2 nc ns z5 z6 (by omega) (by omega) hv2))
    | 23, _ => exact we_swIn (off := 1050) (p := 1090) dL_law_40 (by decide) rfl (by decide) rfl (l_lost hv (by omega) hn (fun I2 J2 F2 hv2 => kk I2 J2 F2 nc ns z5 z6 (by omega) (by omega) hv2))
    | 24, _ => exact we_swIn (off := 1063) (p := 1103) dL_law_40 (by decide) rfl (by decide) rfl (l_soonest hv (by omega) hn (fun I2 J2 F2 hv2 => kk I2 J2 F2 nc ns z5 z6 (by omega) (by omega) hv2))
    | 25, _ => exact we_swIn (off := 1088) (p := 1128) dL_law_40 (by decide) rfl (by decide) rfl (l_bells hv (by omega) hn (fun I2 J2 F2 hv2 => kk I2 J2 F2 nc ns z5 z6 (by omega) (by omega) hv2))
    | 26, _ => exact we_swIn (off := 1101) (p := 1141) dL_law_40 (by decide) rfl (by decide) rfl (l_bid hv (by omega) hn (fun I2 J2 F2 hv2 => kk I2 J2 F2 nc ns z5 z6 (by omega) (by omega) hv2))
    | 27, _ => exact we_swIn (off := 1178) (p := 1218) dL_law_40 (by decide) rfl (by decide) rfl (l_rests hv (by omega) hn (fun I2 J2 F2 hv2 => kk I2 J2 F2 nc ns z5 z6 (by omega) (by omega) hv2))
    | 28, _ => exact we_swIn (off := 1203) (p := 1243) dL_law_40 (by decide) rfl (by decide) rfl (l_rest hv (by omega) hn (fun I2 J2 F2 hv2 => kk I2 J2 F2 nc ns z5 z6 (by omega) (by omega) hv2))
    | 29, _ => exact we_swIn (off := 1228) (p := 1268) dL_law_40 (by decide) rfl (by decide) rfl (l_part hv (by omega) hn (fun I2 J2 F2 hv2 => kk I2 J2 F2 nc ns z5 z6 (by omega) (by omega) hv2))
    | 30, _ => exact we_swIn (off := 1277) (p := 1317) dL_law_40 (by decide) rfl (by decide) rfl (l_service hv (by omega) hn (fun I2 J2 F2 hv2 => kk I2 J2 F2 nc ns z5 z6 (by omega) (by omega) hv2))
    | 31, _ => exact we_swIn (off := 1314) (p := 1354) dL_law_40 (by decide) rfl (by decide) rfl (l_bestHand hv (by omega) hn (fun I2 J2 F2 hv2 => kk I2 J2 F2 nc ns z5 z6 (by omega) (by omega) hv2))
    | 32, _ => exact we_swIn (off := 1351) (p := 1391) dL_law_40 (by decide) rfl (by decide) rfl (l_rows hv (by omega) hn (fun I2 J2 F2 hv2 => kk I2 J2 F2 nc ns z5 z6 (by omega) (by omega) hv2))
    | 33, _ => exact we_swIn (off := 1364) (p := 1404) dL_law_40 (by decide) rfl (by decide) rfl (l_could hv (by omega) hn (fun I2 J2 F2 hv2 => kk I2 J2 F2 nc ns z5 z6 (by omega) (by omega) hv2))
    | 34, _ => exact we_swIn (off := 1389) (p := 1429) dL_law_40 (by decide) rfl (by decide) rfl (l_surely hv (by omega) hn (fun I2 J2 F2 hv2 => kk I2 J2 F2 nc ns z5 z6 (by omega) (by omega) hv2))
    | 35, _ => exact we_swIn (off := 1414) (p := 1454) dL_law_40 (by decide) rfl (by decide) rfl (l_firstOf hv (by omega) hn (fun I2 J2 F2 hv2 => kk I2 J2 F2 nc ns z5 z6 (by omega) (by omega) hv2))
    | 36, _ => exact we_swIn (off := 1439) (p := 1479) dL_law_40 (by decide) rfl (by decide) rfl (l_ask hv (by omega) hn (fun I2 J2 F2 hv2 => kk I2 J2 F2 nc ns z5 z6 (by omega) (by omega) hv2))
    | 37, _ => exact we_swIn (off := 1452) (p := 1492) dL_law_40 (by decide) rfl (by decide) rfl (l_askLeaves hv (by omega) hn (fun I2 J2 F2 hv2 => kk I2 J2 F2 nc ns z5 z6 (by omega) (by omega) hv2))
    | 38, _ => exact we_swIn (off := 1465) (p := 1505) dL_law_40 (by decide) rfl (by decide) rfl (l_judge hv (by omega) hn (fun I2 J2 F2 hv2 => kk I2 J2 F2 nc ns z5 z6 (by omega) (by omega) hv2))
    | 39, _ => exact we_swIn (off := 1478) (p := 1518) dL_law_40 (by decide) rfl (by decide) rfl (l_life hv (by omega) hn (fun I2 J2 F2 hv2 => kk I2 J2 F2 nc ns z5 z6 (by omega) (by omega) hv2))
    | 40, _ => exact we_swIn (off := 1515) (p := 1555) dL_law_40 (by decide) rfl (by decide) rfl (l_lifeBy hv (by omega) hn (fun I2 J2 F2 hv2 => kk I2 J2 F2 nc ns z5 z6 (by omega) (by omega) hv2))
    | 41, _ => exact we_swIn (off := 1552) (p := 1592) dL_law_40 (by decide) rfl (by decide) rfl (l_lives hv (by omega) hn (fun I2 J2 F2 hv2 => kk I2 J2 F2 nc ns z5 z6 (by omega) (by omega) hv2))
    | 42, _ => exact we_swIn (off := 1589) (p := 1629) dL_law_40 (by decide) rfl (by decide) rfl (l_sail hv (by omega) hn (fun I2 J2 F2 hv2 => kk I2 J2 F2 nc ns z5 z6 (by omega) (by omega) hv2))
    | 43, _ => exact we_swIn (off := 1614) (p := 1654) dL_law_40 (by decide) rfl (by decide) rfl (l_court hv (by omega) hn (fun I2 J2 F2 hv2 => kk I2 J2 F2 nc ns z5 z6 (by omega) (by omega) hv2))
    | 44, _ => exact we_swIn (off := 1639) (p := 1679) dL_law_40 (by decide) rfl (by decide) rfl (l_seed hv (by omega) hn (fun I2 J2 F2 hv2 => kk I2 J2 F2 nc ns z5 z6 (by omega) (by omega) hv2))
    | 45, _ => exact we_swIn (off := 1664) (p := 1704) dL_law_40 (by decide) rfl (by decide) rfl (l_undo hv (by omega) hn (fun I2 J2 F2 hv2 => kk I2 J2 F2 nc ns z5 z6 (by omega) (by omega) hv2))
    | 46, _ => exact we_swIn (off := 1677) (p := 1717) dL_law_40 (by decide) rfl (by decide) rfl (l_image hv (by omega) hn (fun I2 J2 F2 hv2 => kk I2 J2 F2 nc ns z5 z6 (by omega) (by omega) hv2))
    | 47, _ => exact we_swIn (off := 1690) (p := 1730) dL_law_40 (by decide) rfl (by decide) rfl (l_back hv (by omega) hn (fun I2 J2 F2 hv2 => kk I2 J2 F2 nc ns z5 z6 (by omega) (by omega) hv2))
    | 48, _ => exact we_swIn (off := 1715) (p := 1755) dL_law_40 (by decide) rfl (by decide) rfl (l_led hv (by omega) hn (fun I2 J2 F2 nc2 ns2 y5 y6 a1 a2 hv2 => kk I2 J2 F2 nc2 ns2 y5 y6 a1 a2 hv2))
    | 49, _ => exact we_swIn (off := 1771) (p := 1811) dL_law_40 (by decide) rfl (by decide) rfl (l_size hv (by omega) hn (fun I2 J2 F2 hv2 => kk I2 J2 F2 nc ns z5 z6 (by omega) (by omega) hv2))
    | 50, _ => exact we_swIn (off := 1796) (p := 1836) dL_law_40 (by decide) rfl (by decide) rfl (l_trouble hv (by omega) hn (fun I2 J2 F2 hv2 => kk I2 J2 F2 nc ns z5 z6 (by omega) (by omega) hv2))
    | c + 51, h => omega
    · exact we_swOut (p := 1849) dL_law_40 (Or.inr (by rw [nI_toInt (by omega)]; omega)) (by decide) rfl (kk I J F nc ns z5 z6 (by omega) (by omega) hv)
