theorem wS_bd {w : Nat → Int} {N f : Nat} (h : ∀ p, p < N → 0 ≤ w p ∧ w p ≤ 1000000) : ∀ m, f + m < N → 0 ≤ wS w f m ∧ wS w f m ≤ 1000000 * (m : Int)
  | 0, _ => ⟨Int.le_refl _, by show (0 : Int) ≤ 1000000 * ((0 : Nat) : Int); omega⟩
  | m + 1, hm => by
    have ih := wS_bd (N := N) (f := f) h m (by omega)
    have b := h (f + m + 1) (by omega)
    show 0 ≤ wS w f m + w (f + m + 1) ∧ wS w f m + w (f + m + 1) ≤ 1000000 * ((m + 1 : Nat) : Int)
    omega
theorem px_n20 {i : Int32} (h0 : 0 ≤ i) (h : i < 21) : i.toNatClampNeg ≤ 20 := by
  have a1 := px_nat h0
  have a3 := Int32.lt_iff_toInt_lt.mp h
  rw [show (21 : Int32).toInt = 21 by decide] at a3
  omega

set_option maxRecDepth 100000 in
theorem cs_dayOfA {n : Nat} {I : px_I} {L : px_L} {R : px_R} (hg : px_G n R) (p h : Int32) (hp : 0 ≤ I 41 13 ∧ I 41 13 ≤ 20) (hs : gSm I 41) : px_KS M_X1_dayOf [.ref 41, .int p, .int h] n I L R (fun r I2 L2 => L2 = L ∧ cEI 41 I I2 ∧ qWh (gOk I 41) (gEB I 41) (gLB I 41) (I 41 13) p h r) := by
  refine px_of (plainFor_of_name np_RX1) (fun _ _ _ => trivial) rfl ?_
  refine px_cVP (ci := 1) rfl q_X1_dayOf_0 hg rfl trivial lk_1_74 nm_X1_hasPeg (c_hasPegA hg _) rfl rfl (px_lit hg rfl) rfl rfl rfl ⟨rfl, rfl⟩ ?_
  intro x2 h2
  refine px_eq rfl q_X1_dayOf_5 hg rfl trivial (fun c5 => ?_) (fun c5 => ?_)
  · replace h2 := px_bf h2 c5
    refine px_riS rfl q_X1_dayOf_15 rfl rfl rfl hg rfl trivial ⟨⟨rfl, rfl⟩, ?_⟩
    first
      | exact ⟨rfl, h9, Or.inl ⟨h2, Or.inr ⟨h9r.elim (fun q => absurd q.1 (by grind)) (fun q => q.2), rfl⟩⟩⟩
      | exact ⟨rfl, fun _ _ _ => rfl, Or.inr ⟨h2, rfl⟩⟩
  · replace h2 := px_bt h2 c5
    have hpp : 0 ≤ p ∧ p < 20 := by grind
    refine px_cVS (ci := 1) rfl q_X1_dayOf_8 hg rfl trivial lk_1_87 nm_X1_dig (cs_digA hg (by assumption) (by assumption)) rfl rfl (px_lit hg rfl) rfl rfl rfl ⟨rfl, rfl⟩ ?_
    intro x9 I9 L9 h9
    obtain ⟨rfl, h9, h9r⟩ := h9
    refine px_ne rfl q_X1_dayOf_12 hg rfl trivial (fun c12 => ?_) (fun c12 => ?_)
    · refine px_eq rfl q_X1_dayOf_17 hg rfl trivial (fun c18 => ?_) (fun c18 => ?_)
      · refine px_riS rfl q_X1_dayOf_30 rfl rfl rfl hg rfl ⟨trivial, (by first | decide | (refine ⟨?_, ?_⟩ <;> grind) | grind)⟩ ⟨⟨rfl, rfl⟩, ?_⟩
        have o := h9r.elim (fun q => q.2) (fun q => absurd q.1 c12)
        exact ⟨rfl, h9, Or.inl ⟨h2, Or.inl ⟨o.1, fun q => absurd c18 q, fun _ => (o.2 _ (px_ltN h2.1 h2.2)).1⟩⟩⟩
      · refine px_riS rfl q_X1_dayOf_21 rfl rfl rfl hg rfl ⟨trivial, (by first | decide | (refine ⟨?_, ?_⟩ <;> grind) | grind)⟩ ⟨⟨rfl, rfl⟩, ?_⟩
        have o := h9r.elim (fun q => q.2) (fun q => absurd q.1 c12)
        exact ⟨rfl, h9, Or.inl ⟨h2, Or.inl ⟨o.1, fun _ => (o.2 _ (px_ltN h2.1 h2.2)).2, fun q => absurd q c18⟩⟩⟩
    · refine px_riS rfl q_X1_dayOf_15 rfl rfl rfl hg rfl trivial ⟨⟨rfl, rfl⟩, ?_⟩
      first
        | exact ⟨rfl, h9, Or.inl ⟨h2, Or.inr ⟨h9r.elim (fun q => absurd q.1 (by grind)) (fun q => q.2), rfl⟩⟩⟩
        | exact ⟨rfl, fun _ _ _ => rfl, Or.inr ⟨h2, rfl⟩⟩

set_option maxRecDepth 100000 in
theorem ls_daysFromA {n : Nat} {R : px_R} (hg : px_G n R) {Q : px_Q} (a b h : Int32) (ha : 0 ≤ a ∧ a < 20) (hb : 0 ≤ b ∧ b < 20) (hab : a < b) {I I0 : px_I} {L : px_L} (hc : cEI 41 I0 I) (hs : gSm I0 41) (hN : 0 ≤ I0 41 13 ∧ I0 41 13 ≤ 20) (hbN : b < I0 41 13) (hr : ∀ j, j < dN I0 41 → (0 ≤ (I 50 j).toInt ∧ (I 50 j).toInt ≤ 20000) ∧ (0 ≤ (I 51 j).toInt ∧ (I 51 j).toInt ≤ 20000)) (hq : ∀ r : Int32, (¬ h = 0 → r.toInt = imn (wS (dMo I0 41) a.toNatClampNeg (b.toNatClampNeg - a.toNatClampNeg)) ((I 51 b.toNatClampNeg).toInt - (I 50 a.toNatClampNeg).toInt)) → (h = 0 → r.toInt = imx (wS (dFw I0 41) a.toNatClampNeg (b.toNatClampNeg - a.toNatClampNeg)) ((I 50 b.toNatClampNeg).toInt - (I 51 a.toNatClampNeg).toInt)) → Q (some (.int r)) n I L R) : ∀ i : Int32, i ≤ 20 → 0 ≤ i → a < i → i ≤ b + 1 → ∀ x y : Int32, x.toInt = wS (dFw I0 41) a.toNatClampNeg (i.toNatClampNeg - a.toNatClampNeg - 1) → y.toInt = wS (dMo I0 41) a.toNatClampNeg (i.toNatClampNeg - a.toNatClampNeg - 1) → px M_X1_daysFrom 0 0 41 [(0, .ref 41), (1, .int a), (2, .int b), (3, .int h), (4, .int x), (5, .int y), (6, .int i)] [] n I L R Q := by
  refine px_up 20 (fun i ih hk => ?_)
  intro h0 hai hib x y hx hy
  refine px_igt rfl q_X1_daysFrom_41 hg rfl trivial (fun c44 => ?_) (fun c44 => ?_)
  · refine px_eq rfl q_X1_daysFrom_77 hg rfl trivial (fun c78 => ?_) (fun c78 => ?_)
    · refine px_cSP rfl q_X1_daysFrom_100 hg rfl ⟨⟨trivial, (by with_reducible assumption)⟩, (by with_reducible assumption)⟩ lk_1_78 nm_J9_max_7cf53 (j_max hg _ _) rfl rfl rfl ⟨rfl, rfl⟩ ?_
      intro x115 h115
      refine px_ri rfl q_X1_daysFrom_118 rfl rfl rfl hg rfl trivial ?_
      have an : a.toNatClampNeg < dN I0 41 := px_ltN ha.1 (by grind)
      have bn : b.toNatClampNeg < dN I0 41 := px_ltN hb.1 hbN
      have xa := px_nat ha.1
      have xb := px_nat hb.1
      have xi := px_nat h0
      have la := Int32.lt_iff_toInt_lt.mp hai
      have rA := hr _ an
      have rB := hr _ bn
      have n20 : dN I0 41 ≤ 20 := px_n20 (i := I0 41 13) hN.1 (by grind)
      have f4 : I 45 = I0 45 := hc 45 (by decide) (by decide)
      have f5 : I 46 = I0 46 := hc 46 (by decide) (by decide)
      have lb := Int32.lt_iff_toInt_lt.mp c44
      have li := Int32.le_iff_toInt_le.mp hib
      have eb : (b + 1).toInt = b.toInt + 1 := px_sc20 hb
      have em : i.toNatClampNeg - a.toNatClampNeg - 1 = b.toNatClampNeg - a.toNatClampNeg := by omega
      rw [em] at hx hy
      have bx := wS_bd (w := dFw I0 41) (N := dN I0 41) (f := a.toNatClampNeg) (fun p hp => (hs p hp).1) (b.toNatClampNeg - a.toNatClampNeg) (by omega)
      have by_ := wS_bd (w := dMo I0 41) (N := dN I0 41) (f := a.toNatClampNeg) (fun p hp => (hs p hp).2.1) (b.toNatClampNeg - a.toNatClampNeg) (by omega)
      exact hq _ (fun q => absurd c78 q) (fun _ => by
        have e : x115 = cMx x (I 50 b.toNatClampNeg - I 51 a.toNatClampNeg) := h115
        rw [e, cMx_int, px_sbi (by omega) (by omega), hx])
    · refine px_cSP rfl q_X1_daysFrom_81 hg rfl ⟨⟨trivial, (by with_reducible assumption)⟩, (by with_reducible assumption)⟩ lk_1_84 nm_J9_min_7cf53 (j_min hg _ _) rfl rfl rfl ⟨rfl, rfl⟩ ?_
      intro x96 h96
      refine px_ri rfl q_X1_daysFrom_99 rfl rfl rfl hg rfl trivial ?_
      have an : a.toNatClampNeg < dN I0 41 := px_ltN ha.1 (by grind)
      have bn : b.toNatClampNeg < dN I0 41 := px_ltN hb.1 hbN
      have xa := px_nat ha.1
      have xb := px_nat hb.1
      have xi := px_nat h0
      have la := Int32.lt_iff_toInt_lt.mp hai
      have rA := hr _ an
      have rB := hr _ bn
      have n20 : dN I0 41 ≤ 20 := px_n20 (i := I0 41 13) hN.1 (by grind)
      have f4 : I 45 = I0 45 := hc 45 (by decide) (by decide)
      have f5 : I 46 = I0 46 := hc 46 (by decide) (by decide)
      have lb := Int32.lt_iff_toInt_lt.mp c44
      have li := Int32.le_iff_toInt_le.mp hib
      have eb : (b + 1).toInt = b.toInt + 1 := px_sc20 hb
      have em : i.toNatClampNeg - a.toNatClampNeg - 1 = b.toNatClampNeg - a.toNatClampNeg := by omega
      rw [em] at hx hy
      have bx := wS_bd (w := dFw I0 41) (N := dN I0 41) (f := a.toNatClampNeg) (fun p hp => (hs p hp).1) (b.toNatClampNeg - a.toNatClampNeg) (by omega)
      have by_ := wS_bd (w := dMo I0 41) (N := dN I0 41) (f := a.toNatClampNeg) (fun p hp => (hs p hp).2.1) (b.toNatClampNeg - a.toNatClampNeg) (by omega)
      exact hq _ (fun _ => by
        have e : x96 = cMn y (I 51 b.toNatClampNeg - I 50 a.toNatClampNeg) := h96
        rw [e, cMn_int, px_sbi (by omega) (by omega), hy]) (fun q => absurd q c78)
  · have hi0 : 0 ≤ i ∧ i < 20 := by grind
    refine px_b rfl q_X1_daysFrom_47 hg rfl ⟨⟨trivial, (by with_reducible assumption)⟩, (by with_reducible assumption)⟩ ?_
    have an : a.toNatClampNeg < dN I0 41 := px_ltN ha.1 (by grind)
    have bn : b.toNatClampNeg < dN I0 41 := px_ltN hb.1 hbN
    have xa := px_nat ha.1
    have xb := px_nat hb.1
    have xi := px_nat h0
    have la := Int32.lt_iff_toInt_lt.mp hai
    have rA := hr _ an
    have rB := hr _ bn
    have n20 : dN I0 41 ≤ 20 := px_n20 (i := I0 41 13) hN.1 (by grind)
    have f4 : I 45 = I0 45 := hc 45 (by decide) (by decide)
    have f5 : I 46 = I0 46 := hc 46 (by decide) (by decide)
    have lb := Int32.le_iff_toInt_le.mp (Int32.not_lt.mp c44)
    have in_ : i.toNatClampNeg < dN I0 41 := by omega
    have s := hs _ in_
    have d4 : dFw I0 41 i.toNatClampNeg = (I0 45 i.toNatClampNeg).toInt := if_neg (by omega)
    have d5 : dMo I0 41 i.toNatClampNeg = (I0 46 i.toNatClampNeg).toInt := if_neg (by omega)
    have bx := wS_bd (w := dFw I0 41) (N := dN I0 41) (f := a.toNatClampNeg) (fun p hp => (hs p hp).1) (i.toNatClampNeg - a.toNatClampNeg - 1) (by omega)
    have by_ := wS_bd (w := dMo I0 41) (N := dN I0 41) (f := a.toNatClampNeg) (fun p hp => (hs p hp).2.1) (i.toNatClampNeg - a.toNatClampNeg - 1) (by omega)
    have st : (i + 1).toNatClampNeg - a.toNatClampNeg - 1 = i.toNatClampNeg - a.toNatClampNeg - 1 + 1 := by rw [(px_tnS h0 (by grind)).1]; omega
    have wi : a.toNatClampNeg + (i.toNatClampNeg - a.toNatClampNeg - 1) + 1 = i.toNatClampNeg := by omega
    refine px_go (ih (i + 1) (by grind) (by grind) (by grind) (by grind) (by grind) _ _ ?_ ?_) ⟨rfl, rfl, rfl, rfl, rfl, rfl, rfl, trivial⟩
    · rw [st]
      show _ = wS (dFw I0 41) a.toNatClampNeg (i.toNatClampNeg - a.toNatClampNeg - 1) + dFw I0 41 (a.toNatClampNeg + (i.toNatClampNeg - a.toNatClampNeg - 1) + 1)
      rw [wi, f4, px_adi (by omega) (by omega), hx, d4]
    · rw [st]
      show _ = wS (dMo I0 41) a.toNatClampNeg (i.toNatClampNeg - a.toNatClampNeg - 1) + dMo I0 41 (a.toNatClampNeg + (i.toNatClampNeg - a.toNatClampNeg - 1) + 1)
      rw [wi, f5, px_adi (by omega) (by omega), hy, d5]

set_option maxRecDepth 100000 in
theorem cs_daysFromA {n : Nat} {I : px_I} {L : px_L} {R : px_R} (hg : px_G n R) (a b h : Int32) (hp : 0 ≤ I 41 13 ∧ I 41 13 ≤ 20) (hs : gSm I 41) : px_KS M_X1_daysFrom [.ref 41, .int a, .int b, .int h] n I L R (fun r I2 L2 => L2 = L ∧ cEI 41 I I2 ∧ qBt (gOk I 41) (gEB I 41) (gLB I 41) (dFw I 41) (dMo I 41) (I 41 13) a b h r) := by
  refine px_of (plainFor_of_name np_RX1) (fun _ _ _ => trivial) rfl ?_
  refine px_cVP (ci := 1) rfl q_X1_daysFrom_0 hg rfl trivial lk_1_74 nm_X1_hasPeg (c_hasPegA hg _) rfl rfl (px_lit hg rfl) rfl rfl rfl ⟨rfl, rfl⟩ ?_
  intro x2 h2
  refine px_eq rfl q_X1_daysFrom_5 hg rfl trivial (fun c5 => ?_) (fun c5 => ?_)
  · replace h2 := px_bf h2 c5
    refine px_riS rfl q_X1_daysFrom_28 rfl rfl rfl hg rfl trivial ⟨⟨rfl, rfl⟩, ?_⟩
    first
      | exact ⟨rfl, h22, Or.inl ⟨⟨h2, h10, by grind⟩, Or.inr ⟨h22r.elim (fun q => absurd q.1 (by grind)) (fun q => q.2), rfl⟩⟩⟩
      | exact ⟨rfl, fun _ _ _ => rfl, Or.inr ⟨fun q => h2 q.1, rfl⟩⟩
      | exact ⟨rfl, fun _ _ _ => rfl, Or.inr ⟨fun q => h10 q.2.1, rfl⟩⟩
      | exact ⟨rfl, fun _ _ _ => rfl, Or.inr ⟨fun q => absurd q.2.2 (Int32.not_lt.mpr c18), rfl⟩⟩
  · replace h2 := px_bt h2 c5
    refine px_cVP (ci := 1) rfl q_X1_daysFrom_8 hg rfl trivial lk_1_74 nm_X1_hasPeg (c_hasPegA hg _) rfl rfl (px_lit hg rfl) rfl rfl rfl ⟨rfl, rfl⟩ ?_
    intro x10 h10
    refine px_eq rfl q_X1_daysFrom_13 hg rfl trivial (fun c13 => ?_) (fun c13 => ?_)
    · replace h10 := px_bf h10 c13
      refine px_riS rfl q_X1_daysFrom_28 rfl rfl rfl hg rfl trivial ⟨⟨rfl, rfl⟩, ?_⟩
      first
        | exact ⟨rfl, h22, Or.inl ⟨⟨h2, h10, by grind⟩, Or.inr ⟨h22r.elim (fun q => absurd q.1 (by grind)) (fun q => q.2), rfl⟩⟩⟩
        | exact ⟨rfl, fun _ _ _ => rfl, Or.inr ⟨fun q => h2 q.1, rfl⟩⟩
        | exact ⟨rfl, fun _ _ _ => rfl, Or.inr ⟨fun q => h10 q.2.1, rfl⟩⟩
        | exact ⟨rfl, fun _ _ _ => rfl, Or.inr ⟨fun q => absurd q.2.2 (Int32.not_lt.mpr c18), rfl⟩⟩
    · replace h10 := px_bt h10 c13
      refine px_ige rfl q_X1_daysFrom_16 hg rfl trivial (fun c18 => ?_) (fun c18 => ?_)
      · refine px_riS rfl q_X1_daysFrom_28 rfl rfl rfl hg rfl trivial ⟨⟨rfl, rfl⟩, ?_⟩
        first
          | exact ⟨rfl, h22, Or.inl ⟨⟨h2, h10, by grind⟩, Or.inr ⟨h22r.elim (fun q => absurd q.1 (by grind)) (fun q => q.2), rfl⟩⟩⟩
          | exact ⟨rfl, fun _ _ _ => rfl, Or.inr ⟨fun q => h2 q.1, rfl⟩⟩
          | exact ⟨rfl, fun _ _ _ => rfl, Or.inr ⟨fun q => h10 q.2.1, rfl⟩⟩
          | exact ⟨rfl, fun _ _ _ => rfl, Or.inr ⟨fun q => absurd q.2.2 (Int32.not_lt.mpr c18), rfl⟩⟩
      · refine px_cVS (ci := 1) rfl q_X1_daysFrom_21 hg rfl trivial lk_1_87 nm_X1_dig (cs_digA hg (by assumption) (by assumption)) rfl rfl (px_lit hg rfl) rfl rfl rfl ⟨rfl, rfl⟩ ?_
        intro x22 I22 L22 h22
        obtain ⟨rfl, h22, h22r⟩ := h22
        refine px_ne rfl q_X1_daysFrom_25 hg rfl trivial (fun c25 => ?_) (fun c25 => ?_)
        · refine px_b rfl q_X1_daysFrom_30 hg rfl trivial ?_
          have o := h22r.elim (fun q => q.2) (fun q => absurd q.1 c25)
          have ab : a < b := by grind
          exact px_go (ls_daysFromA hg a b h (by grind) (by grind) ab h22 hs hp h10.2 (fun j hj => by have q := o.2 j hj; have w := gB_in hs o.1 hj; rw [q.1, q.2]; exact ⟨w.1, w.2.1⟩) (fun r r1 r2 => ⟨rfl, rfl, r, rfl, rfl, h22, Or.inl ⟨⟨h2, h10, ab⟩, Or.inl ⟨o.1, fun q => by rw [r1 q, (o.2 _ (px_ltN h10.1 h10.2)).2, (o.2 _ (px_ltN h2.1 h2.2)).1], fun q => by rw [r2 q, (o.2 _ (px_ltN h10.1 h10.2)).1, (o.2 _ (px_ltN h2.1 h2.2)).2]⟩⟩⟩) (a + 1) (by grind) (by grind) (by grind) (by grind) 0 0 (by rw [(px_tnS h2.1 (by grind)).1, show a.toNatClampNeg + 1 - a.toNatClampNeg - 1 = 0 by omega]; rfl) (by rw [(px_tnS h2.1 (by grind)).1, show a.toNatClampNeg + 1 - a.toNatClampNeg - 1 = 0 by omega]; rfl)) ⟨rfl, rfl, rfl, rfl, rfl, rfl, rfl, trivial⟩
        · refine px_riS rfl q_X1_daysFrom_28 rfl rfl rfl hg rfl trivial ⟨⟨rfl, rfl⟩, ?_⟩
          first
            | exact ⟨rfl, h22, Or.inl ⟨⟨h2, h10, by grind⟩, Or.inr ⟨h22r.elim (fun q => absurd q.1 (by grind)) (fun q => q.2), rfl⟩⟩⟩
            | exact ⟨rfl, fun _ _ _ => rfl, Or.inr ⟨fun q => h2 q.1, rfl⟩⟩
            | exact ⟨rfl, fun _ _ _ => rfl, Or.inr ⟨fun q => h10 q.2.1, rfl⟩⟩
            | exact ⟨rfl, fun _ _ _ => rfl, Or.inr ⟨fun q => absurd q.2.2 (Int32.not_lt.mpr c18), rfl⟩⟩

set_option maxRecDepth 100000 in
theorem cs_dayOfB {n : Nat} {I : px_I} {L : px_L} {R : px_R} (hg : px_G n R) (p h : Int32) (hp : 0 ≤ I 55 13 ∧ I 55 13 ≤ 20) (hs : gSm I 55) : px_KS M_X1_dayOf [.ref 55, .int p, .int h] n I L R (fun r I2 L2 => L2 = L ∧ cEI 55 I I2 ∧ qWh (gOk I 55) (gEB I 55) (gLB I 55) (I 55 13) p h r) := by
  refine px_of (plainFor_of_name np_RX1) (fun _ _ _ => trivial) rfl ?_
  refine px_cVP (ci := 1) rfl q_X1_dayOf_0 hg rfl trivial lk_1_74 nm_X1_hasPeg (c_hasPegB hg _) rfl rfl (px_lit hg rfl) rfl rfl rfl ⟨rfl, rfl⟩ ?_
  intro x2 h2
  refine px_eq rfl q_X1_dayOf_5 hg rfl trivial (fun c5 => ?_) (fun c5 => ?_)
  · replace h2 := px_bf h2 c5
    refine px_riS rfl q_X1_dayOf_15 rfl rfl rfl hg rfl trivial ⟨⟨rfl, rfl⟩, ?_⟩
    first
      | exact ⟨rfl, h9, Or.inl ⟨h2, Or.inr ⟨h9r.elim (fun q => absurd q.1 (by grind)) (fun q => q.2), rfl⟩⟩⟩
      | exact ⟨rfl, fun _ _ _ => rfl, Or.inr ⟨h2, rfl⟩⟩
  · replace h2 := px_bt h2 c5
    have hpp : 0 ≤ p ∧ p < 20 := by grind
    refine px_cVS (ci := 1) rfl q_X1_dayOf_8 hg rfl trivial lk_1_87 nm_X1_dig (cs_digB hg (by assumption) (by assumption)) rfl rfl (px_lit hg rfl) rfl rfl rfl ⟨rfl, rfl⟩ ?_
    intro x9 I9 L9 h9
    obtain ⟨rfl, h9, h9r⟩ := h9
    refine px_ne rfl q_X1_dayOf_12 hg rfl trivial (fun c12 => ?_) (fun c12 => ?_)
    · refine px_eq rfl q_X1_dayOf_17 hg rfl trivial (fun c18 => ?_) (fun c18 => ?_)
      · refine px_riS rfl q_X1_dayOf_30 rfl rfl rfl hg rfl ⟨trivial, (by first | decide | (refine ⟨?_, ?_⟩ <;> grind) | grind)⟩ ⟨⟨rfl, rfl⟩, ?_⟩
        have o := h9r.elim (fun q => q.2) (fun q => absurd q.1 c12)
        exact ⟨rfl, h9, Or.inl ⟨h2, Or.inl ⟨o.1, fun q => absurd c18 q, fun _ => (o.2 _ (px_ltN h2.1 h2.2)).1⟩⟩⟩
      · refine px_riS rfl q_X1_dayOf_21 rfl rfl rfl hg rfl ⟨trivial, (by first | decide | (refine ⟨?_, ?_⟩ <;> grind) | grind)⟩ ⟨⟨rfl, rfl⟩, ?_⟩
        have o := h9r.elim (fun q => q.2) (fun q => absurd q.1 c12)
        exact ⟨rfl, h9, Or.inl ⟨h2, Or.inl ⟨o.1, fun _ => (o.2 _ (px_ltN h2.1 h2.2)).2, fun q => absurd q c18⟩⟩⟩
    · refine px_riS rfl q_X1_dayOf_15 rfl rfl rfl hg rfl trivial ⟨⟨rfl, rfl⟩, ?_⟩
      first
        | exact ⟨rfl, h9, Or.inl ⟨h2, Or.inr ⟨h9r.elim (fun q => absurd q.1 (by grind)) (fun q => q.2), rfl⟩⟩⟩
        | exact ⟨rfl, fun _ _ _ => rfl, Or.inr ⟨h2, rfl⟩⟩

set_option maxRecDepth 100000 in
theorem ls_daysFromB {n : Nat} {R : px_R} (hg : px_G n R) {Q : px_Q} (a b h : Int32) (ha : 0 ≤ a ∧ a < 20) (hb : 0 ≤ b ∧ b < 20) (hab : a < b) {I I0 : px_I} {L : px_L} (hc : cEI 55 I0 I) (hs : gSm I0 55) (hN : 0 ≤ I0 55 13 ∧ I0 55 13 ≤ 20) (hbN : b < I0 55 13) (hr : ∀ j, j < dN I0 55 → (0 ≤ (I 64 j).toInt ∧ (I 64 j).toInt ≤ 20000) ∧ (0 ≤ (I 65 j).toInt ∧ (I 65 j).toInt ≤ 20000)) (hq : ∀ r : Int32, (¬ h = 0 → r.toInt = imn (wS (dMo I0 55) a.toNatClampNeg (b.toNatClampNeg - a.toNatClampNeg)) ((I 65 b.toNatClampNeg).toInt - (I 64 a.toNatClampNeg).toInt)) → (h = 0 → r.toInt = imx (wS (dFw I0 55) a.toNatClampNeg (b.toNatClampNeg - a.toNatClampNeg)) ((I 64 b.toNatClampNeg).toInt - (I 65 a.toNatClampNeg).toInt)) → Q (some (.int r)) n I L R) : ∀ i : Int32, i ≤ 20 → 0 ≤ i → a < i → i ≤ b + 1 → ∀ x y : Int32, x.toInt = wS (dFw I0 55) a.toNatClampNeg (i.toNatClampNeg - a.toNatClampNeg - 1) → y.toInt = wS (dMo I0 55) a.toNatClampNeg (i.toNatClampNeg - a.toNatClampNeg - 1) → px M_X1_daysFrom 0 0 41 [(0, .ref 55), (1, .int a), (2, .int b), (3, .int h), (4, .int x), (5, .int y), (6, .int i)] [] n I L R Q := by
  refine px_up 20 (fun i ih hk => ?_)
  intro h0 hai hib x y hx hy
  refine px_igt rfl q_X1_daysFrom_41 hg rfl trivial (fun c44 => ?_) (fun c44 => ?_)
  · refine px_eq rfl q_X1_daysFrom_77 hg rfl trivial (fun c78 => ?_) (fun c78 => ?_)
    · refine px_cSP rfl q_X1_daysFrom_100 hg rfl ⟨⟨trivial, (by with_reducible assumption)⟩, (by with_reducible assumption)⟩ lk_1_78 nm_J9_max_7cf53 (j_max hg _ _) rfl rfl rfl ⟨rfl, rfl⟩ ?_
      intro x115 h115
      refine px_ri rfl q_X1_daysFrom_118 rfl rfl rfl hg rfl trivial ?_
      have an : a.toNatClampNeg < dN I0 55 := px_ltN ha.1 (by grind)
      have bn : b.toNatClampNeg < dN I0 55 := px_ltN hb.1 hbN
      have xa := px_nat ha.1
      have xb := px_nat hb.1
      have xi := px_nat h0
      have la := Int32.lt_iff_toInt_lt.mp hai
      have rA := hr _ an
      have rB := hr _ bn
      have n20 : dN I0 55 ≤ 20 := px_n20 (i := I0 55 13) hN.1 (by grind)
      have f4 : I 59 = I0 59 := hc 59 (by decide) (by decide)
      have f5 : I 60 = I0 60 := hc 60 (by decide) (by decide)
      have lb := Int32.lt_iff_toInt_lt.mp c44
      have li := Int32.le_iff_toInt_le.mp hib
      have eb : (b + 1).toInt = b.toInt + 1 := px_sc20 hb
      have em : i.toNatClampNeg - a.toNatClampNeg - 1 = b.toNatClampNeg - a.toNatClampNeg := by omega
      rw [em] at hx hy
      have bx := wS_bd (w := dFw I0 55) (N := dN I0 55) (f := a.toNatClampNeg) (fun p hp => (hs p hp).1) (b.toNatClampNeg - a.toNatClampNeg) (by omega)
      have by_ := wS_bd (w := dMo I0 55) (N := dN I0 55) (f := a.toNatClampNeg) (fun p hp => (hs p hp).2.1) (b.toNatClampNeg - a.toNatClampNeg) (by omega)
      exact hq _ (fun q => absurd c78 q) (fun _ => by
        have e : x115 = cMx x (I 64 b.toNatClampNeg - I 65 a.toNatClampNeg) := h115
        rw [e, cMx_int, px_sbi (by omega) (by omega), hx])
    · refine px_cSP rfl q_X1_daysFrom_81 hg rfl ⟨⟨trivial, (by with_reducible assumption)⟩, (by with_reducible assumption)⟩ lk_1_84 nm_J9_min_7cf53 (j_min hg _ _) rfl rfl rfl ⟨rfl, rfl⟩ ?_
      intro x96 h96
      refine px_ri rfl q_X1_daysFrom_99 rfl rfl rfl hg rfl trivial ?_
      have an : a.toNatClampNeg < dN I0 55 := px_ltN ha.1 (by grind)
      have bn : b.toNatClampNeg < dN I0 55 := px_ltN hb.1 hbN
      have xa := px_nat ha.1
      have xb := px_nat hb.1
      have xi := px_nat h0
      have la := Int32.lt_iff_toInt_lt.mp hai
      have rA := hr _ an
      have rB := hr _ bn
      have n20 : dN I0 55 ≤ 20 := px_n20 (i := I0 55 13) hN.1 (by grind)
      have f4 : I 59 = I0 59 := hc 59 (by decide) (by decide)
      have f5 : I 60 = I0 60 := hc 60 (by decide) (by decide)
      have lb := Int32.lt_iff_toInt_lt.mp c44
      have li := Int32.le_iff_toInt_le.mp hib
      have eb : (b + 1).toInt = b.toInt + 1 := px_sc20 hb
      have em : i.toNatClampNeg - a.toNatClampNeg - 1 = b.toNatClampNeg - a.toNatClampNeg := by omega
      rw [em] at hx hy
      have bx := wS_bd (w := dFw I0 55) (N := dN I0 55) (f := a.toNatClampNeg) (fun p hp => (hs p hp).1) (b.toNatClampNeg - a.toNatClampNeg) (by omega)
      have by_ := wS_bd (w := dMo I0 55) (N := dN I0 55) (f := a.toNatClampNeg) (fun p hp => (hs p hp).2.1) (b.toNatClampNeg - a.toNatClampNeg) (by omega)
      exact hq _ (fun _ => by
        have e : x96 = cMn y (I 65 b.toNatClampNeg - I 64 a.toNatClampNeg) := h96
        rw [e, cMn_int, px_sbi (by omega) (by omega), hy]) (fun q => absurd q c78)
  · have hi0 : 0 ≤ i ∧ i < 20 := by grind
    refine px_b rfl q_X1_daysFrom_47 hg rfl ⟨⟨trivial, (by with_reducible assumption)⟩, (by with_reducible assumption)⟩ ?_
    have an : a.toNatClampNeg < dN I0 55 := px_ltN ha.1 (by grind)
    have bn : b.toNatClampNeg < dN I0 55 := px_ltN hb.1 hbN
    have xa := px_nat ha.1
    have xb := px_nat hb.1
    have xi := px_nat h0
    have la := Int32.lt_iff_toInt_lt.mp hai
    have rA := hr _ an
    have rB := hr _ bn
    have n20 : dN I0 55 ≤ 20 := px_n20 (i := I0 55 13) hN.1 (by grind)
    have f4 : I 59 = I0 59 := hc 59 (by decide) (by decide)
    have f5 : I 60 = I0 60 := hc 60 (by decide) (by decide)
    have lb := Int32.le_iff_toInt_le.mp (Int32.not_lt.mp c44)
    have in_ : i.toNatClampNeg < dN I0 55 := by omega
    have s := hs _ in_
    have d4 : dFw I0 55 i.toNatClampNeg = (I0 59 i.toNatClampNeg).toInt := if_neg (by omega)
    have d5 : dMo I0 55 i.toNatClampNeg = (I0 60 i.toNatClampNeg).toInt := if_neg (by omega)
    have bx := wS_bd (w := dFw I0 55) (N := dN I0 55) (f := a.toNatClampNeg) (fun p hp => (hs p hp).1) (i.toNatClampNeg - a.toNatClampNeg - 1) (by omega)
    have by_ := wS_bd (w := dMo I0 55) (N := dN I0 55) (f := a.toNatClampNeg) (fun p hp => (hs p hp).2.1) (i.toNatClampNeg - a.toNatClampNeg - 1) (by omega)
    have st : (i + 1).toNatClampNeg - a.toNatClampNeg - 1 = i.toNatClampNeg - a.toNatClampNeg - 1 + 1 := by rw [(px_tnS h0 (by grind)).1]; omega
    have wi : a.toNatClampNeg + (i.toNatClampNeg - a.toNatClampNeg - 1) + 1 = i.toNatClampNeg := by omega
    refine px_go (ih (i + 1) (by grind) (by grind) (by grind) (by grind) (by grind) _ _ ?_ ?_) ⟨rfl, rfl, rfl, rfl, rfl, rfl, rfl, trivial⟩
    · rw [st]
      show _ = wS (dFw I0 55) a.toNatClampNeg (i.toNatClampNeg - a.toNatClampNeg - 1) + dFw I0 55 (a.toNatClampNeg + (i.toNatClampNeg - a.toNatClampNeg - 1) + 1)
      rw [wi, f4, px_adi (by omega) (by omega), hx, d4]
    · rw [st]
      show _ = wS (dMo I0 55) a.toNatClampNeg (i.toNatClampNeg - a.toNatClampNeg - 1) + dMo I0 55 (a.toNatClampNeg + (i.toNatClampNeg - a.toNatClampNeg - 1) + 1)
      rw [wi, f5, px_adi (by omega) (by omega), hy, d5]

set_option maxRecDepth 100000 in
theorem cs_daysFromB {n : Nat} {I : px_I} {L : px_L} {R : px_R} (hg : px_G n R) (a b h : Int32) (hp : 0 ≤ I 55 13 ∧ I 55 13 ≤ 20) (hs : gSm I 55) : px_KS M_X1_daysFrom [.ref 55, .int a, .int b, .int h] n I L R (fun r I2 L2 => L2 = L ∧ cEI 55 I I2 ∧ qBt (gOk I 55) (gEB I 55) (gLB I 55) (dFw I 55) (dMo I 55) (I 55 13) a b h r) := by
  refine px_of (plainFor_of_name np_RX1) (fun _ _ _ => trivial) rfl ?_
  refine px_cVP (ci := 1) rfl q_X1_daysFrom_0 hg rfl trivial lk_1_74 nm_X1_hasPeg (c_hasPegB hg _) rfl rfl (px_lit hg rfl) rfl rfl rfl ⟨rfl, rfl⟩ ?_
  intro x2 h2
  refine px_eq rfl q_X1_daysFrom_5 hg rfl trivial (fun c5 => ?_) (fun c5 => ?_)
  · replace h2 := px_bf h2 c5
    refine px_riS rfl q_X1_daysFrom_28 rfl rfl rfl hg rfl trivial ⟨⟨rfl, rfl⟩, ?_⟩
    first
      | exact ⟨rfl, h22, Or.inl ⟨⟨h2, h10, by grind⟩, Or.inr ⟨h22r.elim (fun q => absurd q.1 (by grind)) (fun q => q.2), rfl⟩⟩⟩
      | exact ⟨rfl, fun _ _ _ => rfl, Or.inr ⟨fun q => h2 q.1, rfl⟩⟩
      | exact ⟨rfl, fun _ _ _ => rfl, Or.inr ⟨fun q => h10 q.2.1, rfl⟩⟩
      | exact ⟨rfl, fun _ _ _ => rfl, Or.inr ⟨fun q => absurd q.2.2 (Int32.not_lt.mpr c18), rfl⟩⟩
  · replace h2 := px_bt h2 c5
    refine px_cVP (ci := 1) rfl q_X1_daysFrom_8 hg rfl trivial lk_1_74 nm_X1_hasPeg (c_hasPegB hg _) rfl rfl (px_lit hg rfl) rfl rfl rfl ⟨rfl, rfl⟩ ?_
    intro x10 h10
    refine px_eq rfl q_X1_daysFrom_13 hg rfl trivial (fun c13 => ?_) (fun c13 => ?_)
    · replace h10 := px_bf h10 c13
      refine px_riS rfl q_X1_daysFrom_28 rfl rfl rfl hg rfl trivial ⟨⟨rfl, rfl⟩, ?_⟩
      first
        | exact ⟨rfl, h22, Or.inl ⟨⟨h2, h10, by grind⟩, Or.inr ⟨h22r.elim (fun q => absurd q.1 (by grind)) (fun q => q.2), rfl⟩⟩⟩
        | exact ⟨rfl, fun _ _ _ => rfl, Or.inr ⟨fun q => h2 q.1, rfl⟩⟩
        | exact ⟨rfl, fun _ _ _ => rfl, Or.inr ⟨fun q => h10 q.2.1, rfl⟩⟩
        | exact ⟨rfl, fun _ _ _ => rfl, Or.inr ⟨fun q => absurd q.2.2 (Int32.not_lt.mpr c18), rfl⟩⟩
    · replace h10 := px_bt h10 c13
      refine px_ige rfl q_X1_daysFrom_16 hg rfl trivial (fun c18 => ?_) (fun c18 => ?_)
      · refine px_riS rfl q_X1_daysFrom_28 rfl rfl rfl hg rfl trivial ⟨⟨rfl, rfl⟩, ?_⟩
        first
          | exact ⟨rfl, h22, Or.inl ⟨⟨h2, h10, by grind⟩, Or.inr ⟨h22r.elim (fun q => absurd q.1 (by grind)) (fun q => q.2), rfl⟩⟩⟩
          | exact ⟨rfl, fun _ _ _ => rfl, Or.inr ⟨fun q => h2 q.1, rfl⟩⟩
          | exact ⟨rfl, fun _ _ _ => rfl, Or.inr ⟨fun q => h10 q.2.1, rfl⟩⟩
          | exact ⟨rfl, fun _ _ _ => rfl, Or.inr ⟨fun q => absurd q.2.2 (Int32.not_lt.mpr c18), rfl⟩⟩
      · refine px_cVS (ci := 1) rfl q_X1_daysFrom_21 hg rfl trivial lk_1_87 nm_X1_dig (cs_digB hg (by assumption) (by assumption)) rfl rfl (px_lit hg rfl) rfl rfl rfl ⟨rfl, rfl⟩ ?_
        intro x22 I22 L22 h22
        obtain ⟨rfl, h22, h22r⟩ := h22
        refine px_ne rfl q_X1_daysFrom_25 hg rfl trivial (fun c25 => ?_) (fun c25 => ?_)
        · refine px_b rfl q_X1_daysFrom_30 hg rfl trivial ?_
          have o := h22r.elim (fun q => q.2) (fun q => absurd q.1 c25)
          have ab : a < b := by grind
          exact px_go (ls_daysFromB hg a b h (by grind) (by grind) ab h22 hs hp h10.2 (fun j hj => by have q := o.2 j hj; have w := gB_in hs o.1 hj; rw [q.1, q.2]; exact ⟨w.1, w.2.1⟩) (fun r r1 r2 => ⟨rfl, rfl, r, rfl, rfl, h22, Or.inl ⟨⟨h2, h10, ab⟩, Or.inl ⟨o.1, fun q => by rw [r1 q, (o.2 _ (px_ltN h10.1 h10.2)).2, (o.2 _ (px_ltN h2.1 h2.2)).1], fun q => by rw [r2 q, (o.2 _ (px_ltN h10.1 h10.2)).1, (o.2 _ (px_ltN h2.1 h2.2)).2]⟩⟩⟩) (a + 1) (by grind) (by grind) (by grind) (by grind) 0 0 (by rw [(px_tnS h2.1 (by grind)).1, show a.toNatClampNeg + 1 - a.toNatClampNeg - 1 = 0 by omega]; rfl) (by rw [(px_tnS h2.1 (by grind)).1, show a.toNatClampNeg + 1 - a.toNatClampNeg - 1 = 0 by omega]; rfl)) ⟨rfl, rfl, rfl, rfl, rfl, rfl, rfl, trivial⟩
        · refine px_riS rfl q_X1_daysFrom_28 rfl rfl rfl hg rfl trivial ⟨⟨rfl, rfl⟩, ?_⟩
          first
            | exact ⟨rfl, h22, Or.inl ⟨⟨h2, h10, by grind⟩, Or.inr ⟨h22r.elim (fun q => absurd q.1 (by grind)) (fun q => q.2), rfl⟩⟩⟩
            | exact ⟨rfl, fun _ _ _ => rfl, Or.inr ⟨fun q => h2 q.1, rfl⟩⟩
            | exact ⟨rfl, fun _ _ _ => rfl, Or.inr ⟨fun q => h10 q.2.1, rfl⟩⟩
            | exact ⟨rfl, fun _ _ _ => rfl, Or.inr ⟨fun q => absurd q.2.2 (Int32.not_lt.mpr c18), rfl⟩⟩

def qW2 (I : px_I) (g p h r : Int32) : Prop := (∃ G, bG g G ∧ qWh (gOk I G) (gEB I G) (gLB I G) (I G 13) p h r) ∨ (¬ (g = 0 ∨ g = 1) ∧ r = -1)
def qB2 (I : px_I) (g p q h r : Int32) : Prop := (∃ G, bG g G ∧ qBt (gOk I G) (gEB I G) (gLB I G) (dFw I G) (dMo I G) (I G 13) p q h r) ∨ (¬ (g = 0 ∨ g = 1) ∧ r = -1)

set_option maxRecDepth 100000 in
theorem bs_when {n : Nat} {I : px_I} {L : px_L} {R : px_R} (hg : px_G n R) (g p h : Int32) (hG : cGal I) (hA : gSm I 41) (hB : gSm I 55) : px_KS M_X11_when [.ref 32, .int g, .int p, .int h] n I L R (fun r I2 L2 => L2 = L ∧ bEI I I2 ∧ qW2 I g p h r) := by
  refine px_of (plainFor_of_name np_RX11) (fun _ _ _ => trivial) rfl ?_
  obtain ⟨⟨gA1, gA2⟩, ⟨gB1, gB2⟩⟩ := id hG
  refine px_cVA (ci := 11) rfl q_X11_when_0 hg rfl trivial lk_11_128 nm_X11_galleryOf (b_galleryOf hg _) rfl rfl (px_lit hg rfl) rfl rfl rfl ⟨rfl, rfl⟩ ?_
  intro o2 h2
  rcases h2 with ⟨rfl, hg0⟩ | ⟨rfl, hg0⟩ | ⟨rfl, hg0, hg1⟩ --N
  · refine px_nonR rfl q_X11_when_5 hg rfl trivial ?_
    refine px_cVS (ci := 1) rfl q_X11_when_16 hg rfl trivial lk_11_144 nm_X1_dayOf (cs_dayOfA hg _ _ (by assumption) (by assumption)) rfl rfl (px_lit hg rfl) rfl rfl rfl ⟨rfl, rfl⟩ ?_
    intro x20 I20 L20 h20
    refine px_riS rfl q_X11_when_23 rfl rfl rfl hg rfl trivial ⟨⟨rfl, rfl⟩, ?_⟩
    first
      | exact ⟨rfl, fun _ _ _ _ _ => rfl, Or.inr ⟨fun q => q.elim hg0 hg1, rfl⟩⟩
      | exact ⟨h20.1, h20.2.1.bA, Or.inl ⟨41, Or.inl ⟨hg0, rfl⟩, h20.2.2⟩⟩
      | exact ⟨h20.1, h20.2.1.bB, Or.inl ⟨55, Or.inr ⟨hg0, rfl⟩, h20.2.2⟩⟩
  · refine px_nonR rfl q_X11_when_5 hg rfl trivial ?_
    refine px_cVS (ci := 1) rfl q_X11_when_16 hg rfl trivial lk_11_144 nm_X1_dayOf (cs_dayOfB hg _ _ (by assumption) (by assumption)) rfl rfl (px_lit hg rfl) rfl rfl rfl ⟨rfl, rfl⟩ ?_
    intro x20 I20 L20 h20
    refine px_riS rfl q_X11_when_23 rfl rfl rfl hg rfl trivial ⟨⟨rfl, rfl⟩, ?_⟩
    first
      | exact ⟨rfl, fun _ _ _ _ _ => rfl, Or.inr ⟨fun q => q.elim hg0 hg1, rfl⟩⟩
      | exact ⟨h20.1, h20.2.1.bA, Or.inl ⟨41, Or.inl ⟨hg0, rfl⟩, h20.2.2⟩⟩
      | exact ⟨h20.1, h20.2.1.bB, Or.inl ⟨55, Or.inr ⟨hg0, rfl⟩, h20.2.2⟩⟩
  · refine px_nonN rfl q_X11_when_5 hg rfl trivial ?_
    refine px_riS rfl q_X11_when_12 rfl rfl rfl hg rfl trivial ⟨⟨rfl, rfl⟩, ?_⟩
    first
      | exact ⟨rfl, fun _ _ _ _ _ => rfl, Or.inr ⟨fun q => q.elim hg0 hg1, rfl⟩⟩
      | exact ⟨h20.1, h20.2.1.bA, Or.inl ⟨41, Or.inl ⟨hg0, rfl⟩, h20.2.2⟩⟩
      | exact ⟨h20.1, h20.2.1.bB, Or.inl ⟨55, Or.inr ⟨hg0, rfl⟩, h20.2.2⟩⟩

set_option maxRecDepth 100000 in
theorem bs_between {n : Nat} {I : px_I} {L : px_L} {R : px_R} (hg : px_G n R) (g p q h : Int32) (hG : cGal I) (hA : gSm I 41) (hB : gSm I 55) : px_KS M_X11_between [.ref 32, .int g, .int p, .int q, .int h] n I L R (fun r I2 L2 => L2 = L ∧ bEI I I2 ∧ qB2 I g p q h r) := by
  refine px_of (plainFor_of_name np_RX11) (fun _ _ _ => trivial) rfl ?_
  obtain ⟨⟨gA1, gA2⟩, ⟨gB1, gB2⟩⟩ := id hG
  refine px_cVA (ci := 11) rfl q_X11_between_0 hg rfl trivial lk_11_128 nm_X11_galleryOf (b_galleryOf hg _) rfl rfl (px_lit hg rfl) rfl rfl rfl ⟨rfl, rfl⟩ ?_
  intro o2 h2
  rcases h2 with ⟨rfl, hg0⟩ | ⟨rfl, hg0⟩ | ⟨rfl, hg0, hg1⟩ --N
  · refine px_nonR rfl q_X11_between_5 hg rfl trivial ?_
    refine px_cVS (ci := 1) rfl q_X11_between_16 hg rfl trivial lk_11_148 nm_X1_daysFrom (cs_daysFromA hg _ _ _ (by assumption) (by assumption)) rfl rfl (px_lit hg rfl) rfl rfl rfl ⟨rfl, rfl⟩ ?_
    intro x22 I22 L22 h22
    refine px_riS rfl q_X11_between_25 rfl rfl rfl hg rfl trivial ⟨⟨rfl, rfl⟩, ?_⟩
    first
      | exact ⟨rfl, fun _ _ _ _ _ => rfl, Or.inr ⟨fun q => q.elim hg0 hg1, rfl⟩⟩
      | exact ⟨h22.1, h22.2.1.bA, Or.inl ⟨41, Or.inl ⟨hg0, rfl⟩, h22.2.2⟩⟩
      | exact ⟨h22.1, h22.2.1.bB, Or.inl ⟨55, Or.inr ⟨hg0, rfl⟩, h22.2.2⟩⟩
  · refine px_nonR rfl q_X11_between_5 hg rfl trivial ?_
    refine px_cVS (ci := 1) rfl q_X11_between_16 hg rfl trivial lk_11_148 nm_X1_daysFrom (cs_daysFromB hg _ _ _ (by assumption) (by assumption)) rfl rfl (px_lit hg rfl) rfl rfl rfl ⟨rfl, rfl⟩ ?_
    intro x22 I22 L22 h22
    refine px_riS rfl q_X11_between_25 rfl rfl rfl hg rfl trivial ⟨⟨rfl, rfl⟩, ?_⟩
    first
      | exact ⟨rfl, fun _ _ _ _ _ => rfl, Or.inr ⟨fun q => q.elim hg0 hg1, rfl⟩⟩
      | exact ⟨h22.1, h22.2.1.bA, Or.inl ⟨41, Or.inl ⟨hg0, rfl⟩, h22.2.2⟩⟩
      | exact ⟨h22.1, h22.2.1.bB, Or.inl ⟨55, Or.inr ⟨hg0, rfl⟩, h22.2.2⟩⟩
  · refine px_nonN rfl q_X11_between_5 hg rfl trivial ?_
    refine px_riS rfl q_X11_between_12 rfl rfl rfl hg rfl trivial ⟨⟨rfl, rfl⟩, ?_⟩
    first
      | exact ⟨rfl, fun _ _ _ _ _ => rfl, Or.inr ⟨fun q => q.elim hg0 hg1, rfl⟩⟩
      | exact ⟨h22.1, h22.2.1.bA, Or.inl ⟨41, Or.inl ⟨hg0, rfl⟩, h22.2.2⟩⟩
      | exact ⟨h22.1, h22.2.1.bB, Or.inl ⟨55, Or.inr ⟨hg0, rfl⟩, h22.2.2⟩⟩
