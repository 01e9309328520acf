theorem q_law_18 : px_bk 13 4 cL_law 18 [(.iload_n 3, (0, 0, 0, 0, 0), 0, 0), (.aload_n 0, (0, 0, 0, 0, 0), 0, 0)] = some 20 := by decide +kernel
theorem q_law_21 : px_bk 13 4 cL_law 21 [(.bipush 8, (0, 0, 0, 0, 0), 8, 0), (.isub, (0, 0, 0, 0, 0), 0, 0)] = some 24 ∧ px_t2 cL_law 24 .gt 1874 = true := by decide +kernel
theorem q_law_27 : px_bk 13 4 cL_law 27 [(.aload_n 0, (0, 0, 0, 0, 0), 0, 0), (.iload_n 3, (0, 0, 0, 0, 0), 0, 0)] = some 29 ∧ px_tia cL_law 29 = true := by decide +kernel
theorem q_law_30 : px_bk 13 4 cL_law 30 [(.bipush 63, (0, 0, 0, 0, 0), 63, 0), (.iand, (0, 0, 0, 0, 0), 0, 0)] = some 33 := by decide +kernel
theorem q_law_33S : decode cL_law 33 = .ok (.tableswitch 1835 0 33 #[151, 174, 187, 250, 283, 352, 431, 474, 561, 594, 647, 706, 775, 838, 881, 920, 983, 1006, 1029, 1052, 1115, 1158, 1249, 1292, 1345, 1408, 1483, 1542, 1601, 1634, 1677, 1700, 1769, 1812], 151) := by decide +kernel
theorem q_law_end : px_bk 13 4 cL_law 1868 [(.iinc 3 8, (0, 0, 0, 0, 0), 8, 0), (.goto (-1853), (0, 0, 0, 0, 0), 0, 0)] = some 18 := by decide +kernel
theorem q_law_1874 : px_bk 13 4 cL_law 1874 [(.iconst 1, (0, 0, 0, 0, 0), 1, 0)] = some 1875 ∧ px_tr cL_law 1875 .ireturn = true := by decide +kernel
theorem q_law_20 : decode cL_law 20 = .ok (.arraylength, 1) := by decide +kernel

set_option maxRecDepth 100000 in
theorem lw_loop {N : Nat} {xs : Nat → Int32} (hN : N ≤ 4096) {Q : px_Q} (hq : ∀ n I L R, Q (some (.int 1)) n I L R) : ∀ i : Int32, i ≤ 4096 → ∀ t : Nat, i.toInt = 8 * t → ∀ n I L R, jJ n I R → rel I L R → px (M_law N xs) (115 + 3 * t) (10705 + 404 * t) 18 (lwL i) [] n I L R Q := by
  refine px_up 4096 (fun i ih hi => ?_)
  intro t ht n I L R hj hr
  have hg := hj.g
  have hi2 := Int32.le_iff_toInt_le.mp hi
  rw [show (4096 : Int32).toInt = 4096 by decide] at hi2
  refine px_b (on := 13) rfl q_law_18 hg rfl trivial ?_
  refine px_slen q_law_20 ?_
  refine px_igt (on := 13) rfl q_law_21 hg rfl trivial (fun c => ?_) (fun c => ?_)
  · refine px_b (on := 13) rfl q_law_1874.1 hg rfl trivial ?_
    exact px_ret (r := some (.int 1)) ⟨px_tr_ok q_law_1874.2, .boolean, rfl, rfl⟩ (Nat.ble_eq_true_of_le (by show 115 + 3 * t ≤ 600000; omega)) (Nat.ble_eq_true_of_le (by show 10705 + 404 * t ≤ 7302250; omega)) (hq _ _ _ _)
  · have hlen : (Int32.ofNat N - 8).toInt = (N : Int) - 8 := by
      rw [Int32.toInt_sub, Int32.toInt_ofNat_of_lt (by omega), show (8 : Int32).toInt = 8 by decide, Int.bmod_eq_of_le (by omega) (by omega)]
    have hle := Int32.le_iff_toInt_le.mp (Int32.not_lt.mp c)
    rw [hlen] at hle
    have hI : lwI N i := ⟨hN, by omega, by omega⟩
    refine px_b (on := 13) rfl q_law_27.1 hg rfl trivial ?_
    refine px_sld (by rw [vp_in_iff]; omega) (px_tia_ok q_law_27.2) ?_
    refine px_b (on := 13) rfl q_law_30 hg rfl trivial ?_
    have nxt : ∀ n2 I3 L3 R2, jJ n2 I3 R2 → rel I3 L3 R2 → px (M_law N xs) (115 + 3 * t + 3) (10705 + 404 * t + 404) 1868 (lwL i) [] n2 I3 L3 R2 Q := fun n2 I3 L3 R2 h1 h2 => by
      refine px_b (on := 13) rfl q_law_end h1.g rfl trivial ?_
      have e8 : (i + 8).toInt = i.toInt + 8 := by rw [Int32.toInt_add, show (8 : Int32).toInt = 8 by decide, Int.bmod_eq_of_le (by omega) (by omega)]
      have k := ih (i + 8) (Int32.lt_iff_toInt_lt.mpr (by omega)) (Int32.le_iff_toInt_le.mpr (by rw [e8, show (4096 : Int32).toInt = 4096 by decide]; omega)) (t + 1) (by omega) n2 I3 L3 R2 h1 h2
      rw [show 115 + 3 * (t + 1) = 115 + 3 * t + 3 by omega, show 10705 + 404 * (t + 1) = 10705 + 404 * t + 404 by omega] at k
      exact px_go k ⟨rfl, rfl, rfl, rfl, trivial⟩
    by_cases s0 : (xs i.toNatClampNeg &&& 63) = 0
    · refine px_swI (tgt := 184) (off := 151) q_law_33S s0 (by decide) (by decide) (by decide) (by decide) ?_
      exact lc_days hI (by omega) (by omega) hj (fun x n2 I2 L2 R2 y I3 L3 h1 f1 fR p1 f2 p2 => nxt n2 I3 L3 R2 h1 (rel.days hj hr f1 fR p1 f2 p2))
    by_cases s1 : (xs i.toNatClampNeg &&& 63) = 1
    · refine px_swI (tgt := 207) (off := 174) q_law_33S s1 (by decide) (by decide) (by decide) (by decide) ?_
      exact lc_station hI (by omega) (by omega) hj (fun x n2 I2 L2 R2 y I3 L3 h1 f1 fR p1 f2 p2 => nxt n2 I3 L3 R2 h1 (rel.station hj hr f1 fR p1 f2 p2))
    by_cases s2 : (xs i.toNatClampNeg &&& 63) = 2
    · refine px_swI (tgt := 220) (off := 187) q_law_33S s2 (by decide) (by decide) (by decide) (by decide) ?_
      exact lc_sight hI (by omega) (by omega) hj (fun x n2 I2 L2 R2 y I3 L3 h1 f1 fR p1 f2 p2 => nxt n2 I3 L3 R2 h1 (rel.sight hj hr f1 fR p1 f2 p2))
    by_cases s3 : (xs i.toNatClampNeg &&& 63) = 3
    · refine px_swI (tgt := 283) (off := 250) q_law_33S s3 (by decide) (by decide) (by decide) (by decide) ?_
      exact lc_closed hI (by omega) (by omega) hj (fun x n2 I2 L2 R2 y I3 L3 h1 f1 fR p1 f2 p2 => nxt n2 I3 L3 R2 h1 (rel.closed hj hr f1 fR p1 f2 p2))
    by_cases s4 : (xs i.toNatClampNeg &&& 63) = 4
    · refine px_swI (tgt := 316) (off := 283) q_law_33S s4 (by decide) (by decide) (by decide) (by decide) ?_
      exact lc_span hI (by omega) (by omega) hj (fun x n2 I2 L2 R2 y I3 L3 h1 f1 fR p1 f2 p2 => nxt n2 I3 L3 R2 h1 (rel.span hj hr f1 fR p1 f2 p2))
    by_cases s5 : (xs i.toNatClampNeg &&& 63) = 5
    · refine px_swI (tgt := 385) (off := 352) q_law_33S s5 (by decide) (by decide) (by decide) (by decide) ?_
      exact lc_gap hI (by omega) (by omega) hj (fun x n2 I2 L2 R2 y I3 L3 h1 f1 fR p1 f2 p2 => nxt n2 I3 L3 R2 h1 (rel.gap hj hr f1 fR p1 f2 p2))
    by_cases s6 : (xs i.toNatClampNeg &&& 63) = 6
    · refine px_swI (tgt := 464) (off := 431) q_law_33S s6 (by decide) (by decide) (by decide) (by decide) ?_
      exact lc_blamed hI (by omega) (by omega) hj (fun x n2 I2 L2 R2 y I3 L3 h1 f1 fR p1 f2 p2 => nxt n2 I3 L3 R2 h1 (rel.blamed hj hr f1 fR p1 f2 p2))
    by_cases s7 : (xs i.toNatClampNeg &&& 63) = 7
    · refine px_swI (tgt := 507) (off := 474) q_law_33S s7 (by decide) (by decide) (by decide) (by decide) ?_
      exact lc_reach hI (by omega) (by omega) hj (fun x n2 I2 L2 R2 y I3 L3 h1 f1 fR p1 f2 p2 => nxt n2 I3 L3 R2 h1 (rel.reach hj hr f1 fR p1 f2 p2))
    by_cases s8 : (xs i.toNatClampNeg &&& 63) = 8
    · refine px_swI (tgt := 594) (off := 561) q_law_33S s8 (by decide) (by decide) (by decide) (by decide) ?_
      exact lc_mouth hI (by omega) (by omega) hj (fun x n2 I2 L2 R2 y I3 L3 h1 f1 fR p1 f2 p2 => nxt n2 I3 L3 R2 h1 (rel.mouth hj hr f1 fR p1 f2 p2))
    by_cases s9 : (xs i.toNatClampNeg &&& 63) = 9
    · refine px_swI (tgt := 627) (off := 594) q_law_33S s9 (by decide) (by decide) (by decide) (by decide) ?_
      exact lc_mark hI (by omega) (by omega) hj (fun x n2 I2 L2 R2 y I3 L3 h1 f1 fR p1 f2 p2 => nxt n2 I3 L3 R2 h1 (rel.mark hj hr f1 fR p1 f2 p2))
    by_cases s10 : (xs i.toNatClampNeg &&& 63) = 10
    · refine px_swI (tgt := 680) (off := 647) q_law_33S s10 (by decide) (by decide) (by decide) (by decide) ?_
      exact lc_when hI (by omega) (by omega) hj (fun x n2 I2 L2 R2 y I3 L3 h1 f1 fR p1 f2 p2 => nxt n2 I3 L3 R2 h1 (rel.when hj hr f1 fR p1 f2 p2))
    by_cases s11 : (xs i.toNatClampNeg &&& 63) = 11
    · refine px_swI (tgt := 739) (off := 706) q_law_33S s11 (by decide) (by decide) (by decide) (by decide) ?_
      exact lc_between hI (by omega) (by omega) hj (fun x n2 I2 L2 R2 y I3 L3 h1 f1 fR p1 f2 p2 => nxt n2 I3 L3 R2 h1 (rel.between hj hr f1 fR p1 f2 p2))
    by_cases s12 : (xs i.toNatClampNeg &&& 63) = 12
    · refine px_swI (tgt := 808) (off := 775) q_law_33S s12 (by decide) (by decide) (by decide) (by decide) ?_
      exact lc_lamps hI (by omega) (by omega) hj (fun x n2 I2 L2 R2 y I3 L3 h1 f1 fR p1 f2 p2 => nxt n2 I3 L3 R2 h1 (rel.lamps hj hr f1 fR p1 f2 p2))
    by_cases s13 : (xs i.toNatClampNeg &&& 63) = 13
    · refine px_swI (tgt := 871) (off := 838) q_law_33S s13 (by decide) (by decide) (by decide) (by decide) ?_
      exact lc_count hI (by omega) (by omega) hj (fun x n2 I2 L2 R2 y I3 L3 h1 f1 fR p1 f2 p2 => nxt n2 I3 L3 R2 h1 (rel.count hj hr f1 fR p1 f2 p2))
    by_cases s14 : (xs i.toNatClampNeg &&& 63) = 14
    · refine px_swI (tgt := 914) (off := 881) q_law_33S s14 (by decide) (by decide) (by decide) (by decide) ?_
      exact lc_unit hI (by omega) (by omega) hj (fun x n2 I2 L2 R2 y I3 L3 h1 f1 fR p1 f2 p2 => nxt n2 I3 L3 R2 h1 (rel.unit hj hr f1 fR p1 f2 p2))
    by_cases s15 : (xs i.toNatClampNeg &&& 63) = 15
    · refine px_swI (tgt := 953) (off := 920) q_law_33S s15 (by decide) (by decide) (by decide) (by decide) ?_
      exact lc_feed hI (by omega) (by omega) hj (fun x n2 I2 L2 R2 y I3 L3 h1 f1 fR p1 f2 p2 => nxt n2 I3 L3 R2 h1 (rel.feed hj hr f1 fR p1 f2 p2))
    by_cases s16 : (xs i.toNatClampNeg &&& 63) = 16
    · refine px_swI (tgt := 1016) (off := 983) q_law_33S s16 (by decide) (by decide) (by decide) (by decide) ?_
      exact lc_end hI (by omega) (by omega) hj (fun x n2 I2 L2 R2 y I3 L3 h1 f1 fR p1 f2 p2 => nxt n2 I3 L3 R2 h1 (rel.end hj hr f1 fR p1 f2 p2))
    by_cases s17 : (xs i.toNatClampNeg &&& 63) = 17
    · refine px_swI (tgt := 1039) (off := 1006) q_law_33S s17 (by decide) (by decide) (by decide) (by decide) ?_
      exact lcs_way hI (by omega) (by omega) hj (fun x n2 I2 L2 R2 y I3 L3 h1 f1 fR p1 f2 p2 => nxt n2 I3 L3 R2 h1 (rel.way hj hr f1 fR p1 f2 p2))
    by_cases s18 : (xs i.toNatClampNeg &&& 63) = 18
    · refine px_swI (tgt := 1062) (off := 1029) q_law_33S s18 (by decide) (by decide) (by decide) (by decide) ?_
      exact lc_fault hI (by omega) (by omega) hj (fun x n2 I2 L2 R2 y I3 L3 h1 f1 fR p1 f2 p2 => nxt n2 I3 L3 R2 h1 (rel.fault hj hr f1 fR p1 f2 p2))
    by_cases s19 : (xs i.toNatClampNeg &&& 63) = 19
    · refine px_swI (tgt := 1085) (off := 1052) q_law_33S s19 (by decide) (by decide) (by decide) (by decide) ?_
      exact lcs_tools hI (by omega) (by omega) hj (fun x n2 I2 L2 R2 y I3 L3 h1 f1 fR p1 f2 p2 => nxt n2 I3 L3 R2 h1 (rel.tools hj hr f1 fR p1 f2 p2))
    by_cases s20 : (xs i.toNatClampNeg &&& 63) = 20
    · refine px_swI (tgt := 1148) (off := 1115) q_law_33S s20 (by decide) (by decide) (by decide) (by decide) ?_
      exact lcs_run hI (by omega) (by omega) hj (rel_hx hj hr) (fun x n2 I2 L2 R2 y I3 L3 h1 f1 fR p1 f2 p2 => nxt n2 I3 L3 R2 h1 (rel.run hj hr f1 fR p1 f2 p2))
    by_cases s21 : (xs i.toNatClampNeg &&& 63) = 21
    · refine px_swI (tgt := 1191) (off := 1158) q_law_33S s21 (by decide) (by decide) (by decide) (by decide) ?_
      exact lcs_meeting hI (by omega) (by omega) hj (rel_hx hj hr) (fun x n2 I2 L2 R2 y I3 L3 h1 f1 fR p1 f2 p2 => nxt n2 I3 L3 R2 h1 (rel.meeting hj hr f1 fR p1 f2 p2))
    by_cases s22 : (xs i.toNatClampNeg &&& 63) = 22
    · refine px_swI (tgt := 1282) (off := 1249) q_law_33S s22 (by decide) (by decide) (by decide) (by decide) ?_
      exact lc_there hI (by omega) (by omega) hj (fun x n2 I2 L2 R2 y I3 L3 h1 f1 fR p1 f2 p2 => nxt n2 I3 L3 R2 h1 (rel.there hj hr f1 fR p1 f2 p2))
    by_cases s23 : (xs i.toNatClampNeg &&& 63) = 23
    · refine px_swI (tgt := 1325) (off := 1292) q_law_33S s23 (by decide) (by decide) (by decide) (by decide) ?_
      exact lcs_fits hI (by omega) (by omega) hj (rel_hx hj hr) (fun x n2 I2 L2 R2 y I3 L3 h1 f1 fR p1 f2 p2 => nxt n2 I3 L3 R2 h1 (rel.fits hj hr f1 fR p1 f2 p2))
    by_cases s24 : (xs i.toNatClampNeg &&& 63) = 24
    · refine px_swI (tgt := 1378) (off := 1345) q_law_33S s24 (by decide) (by decide) (by decide) (by decide) ?_
      exact lcs_ways hI (by omega) (by omega) hj (rel_hx hj hr) (fun x n2 I2 L2 y I3 L3 f1 p1 f2 p2 => (rele.ways hj hr f1 p1 f2 p2)) (fun x n2 I2 L2 R2 y I3 L3 h1 f1 fR p1 f2 p2 => nxt n2 I3 L3 R2 h1 (rel.ways hj hr f1 fR p1 f2 p2).2)
    by_cases s25 : (xs i.toNatClampNeg &&& 63) = 25
    · refine px_swI (tgt := 1441) (off := 1408) q_law_33S s25 (by decide) (by decide) (by decide) (by decide) ?_
      exact lc_seek hI (by omega) (by omega) hj (fun x n2 I2 L2 R2 y I3 L3 h1 f1 fR p1 f2 p2 => nxt n2 I3 L3 R2 h1 (rel.seek hj hr f1 fR p1 f2 p2))
    by_cases s26 : (xs i.toNatClampNeg &&& 63) = 26
    · refine px_swI (tgt := 1516) (off := 1483) q_law_33S s26 (by decide) (by decide) (by decide) (by decide) ?_
      exact lc_chance hI (by omega) (by omega) hj (fun x n2 I2 L2 R2 y I3 L3 h1 f1 fR p1 f2 p2 => nxt n2 I3 L3 R2 h1 (rel.chance hj hr f1 fR p1 f2 p2))
    by_cases s27 : (xs i.toNatClampNeg &&& 63) = 27
    · refine px_swI (tgt := 1575) (off := 1542) q_law_33S s27 (by decide) (by decide) (by decide) (by decide) ?_
      exact lc_detour hI (by omega) (by omega) hj (fun x n2 I2 L2 R2 y I3 L3 h1 f1 fR p1 f2 p2 => nxt n2 I3 L3 R2 h1 (rel.detour hj hr f1 fR p1 f2 p2))
    by_cases s28 : (xs i.toNatClampNeg &&& 63) = 28
    · refine px_swI (tgt := 1634) (off := 1601) q_law_33S s28 (by decide) (by decide) (by decide) (by decide) ?_
      exact lc_table hI (by omega) (by omega) hj (fun x n2 I2 L2 R2 y I3 L3 h1 f1 fR p1 f2 p2 => nxt n2 I3 L3 R2 h1 (rel.table hj hr f1 fR p1 f2 p2))
    by_cases s29 : (xs i.toNatClampNeg &&& 63) = 29
    · refine px_swI (tgt := 1667) (off := 1634) q_law_33S s29 (by decide) (by decide) (by decide) (by decide) ?_
      exact lc_repair hI (by omega) (by omega) hj (fun x n2 I2 L2 R2 y I3 L3 h1 f1 fR p1 f2 p2 => nxt n2 I3 L3 R2 h1 (rel.repair hj hr f1 fR p1 f2 p2))
    by_cases s30 : (xs i.toNatClampNeg &&& 63) = 30
    · refine px_swI (tgt := 1710) (off := 1677) q_law_33S s30 (by decide) (by decide) (by decide) (by decide) ?_
      exact lc_lime hI (by omega) (by omega) hj (fun x n2 I2 L2 R2 y I3 L3 h1 f1 fR p1 f2 p2 => nxt n2 I3 L3 R2 h1 (rel.lime hj hr f1 fR p1 f2 p2))
    by_cases s31 : (xs i.toNatClampNeg &&& 63) = 31
    · refine px_swI (tgt := 1733) (off := 1700) q_law_33S s31 (by decide) (by decide) (by decide) (by decide) ?_
      exact lc_flow hI (by omega) (by omega) hj (fun x n2 I2 L2 R2 y I3 L3 h1 f1 fR p1 f2 p2 => nxt n2 I3 L3 R2 h1 (rel.flow hj hr f1 fR p1 f2 p2))
    by_cases s32 : (xs i.toNatClampNeg &&& 63) = 32
    · refine px_swI (tgt := 1802) (off := 1769) q_law_33S s32 (by decide) (by decide) (by decide) (by decide) ?_
      exact lc_narrow hI (by omega) (by omega) hj (fun x n2 I2 L2 R2 y I3 L3 h1 f1 fR p1 f2 p2 => nxt n2 I3 L3 R2 h1 (rel.narrow hj hr f1 fR p1 f2 p2))
    by_cases s33 : (xs i.toNatClampNeg &&& 63) = 33
    · refine px_swI (tgt := 1845) (off := 1812) q_law_33S s33 (by decide) (by decide) (by decide) (by decide) ?_
      exact lc_about hI (by omega) (by omega) hj (fun x n2 I2 L2 R2 y I3 L3 h1 f1 fR p1 f2 p2 => nxt n2 I3 L3 R2 h1 (rel.about hj hr f1 fR p1 f2 p2))
    refine px_swO (tgt := 1868) q_law_33S (px_out 0 33 (by decide) (fun k9 h8 h9 => ?_)) (by decide) ?_
    · match k9, h8, h9 with
      | 0, _, _ => exact s0
      | 1, _, _ => exact s1
      | 2, _, _ => exact s2
      | 3, _, _ => exact s3
      | 4, _, _ => exact s4
      | 5, _, _ => exact s5
      | 6, _, _ => exact s6
      | 7, _, _ => exact s7
      | 8, _, _ => exact s8
      | 9, _, _ => exact s9
      | 10, _, _ => exact s10
      | 11, _, _ => exact s11
      | 12, _, _ => exact s12
      | 13, _, _ => exact s13
      | 14, _, _ => exact s14
      | 15, _, _ => exact s15
      | 16, _, _ => exact s16
      | 17, _, _ => exact s17
      | 18, _, _ => exact s18
      | 19, _, _ => exact s19
      | 20, _, _ => exact s20
      | 21, _, _ => exact s21
      | 22, _, _ => exact s22
      | 23, _, _ => exact s23
      | 24, _, _ => exact s24
      | 25, _, _ => exact s25
      | 26, _, _ => exact s26
      | 27, _, _ => exact s27
      | 28, _, _ => exact s28
      | 29, _, _ => exact s29
      | 30, _, _ => exact s30
      | 31, _, _ => exact s31
      | 32, _, _ => exact s32
      | 33, _, _ => exact s33
      | k9 + 34, _, h9 => exact absurd h9 (by omega)
    exact px_wid (cu2 := 115 + 3 * t + 3) (su2 := 10705 + 404 * t + 404) (by omega) (by omega) (nxt n I L R hj hr)
