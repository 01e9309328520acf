/-! the class's other questions of ways -/
def cMt (I : px_I) (R : px_R) (a f b t : Int32) : Prop := cTd R a ∧ cTd R b ∧ (0 ≤ f ∧ f < I 33 7) ∧ (0 ≤ t ∧ t < I 33 7)
theorem cHas.gap {n : Nat} {I I2 : px_I} {R : px_R} {Z : Nat → zL} (h : cHas I R Z) (hT : cTold n I R) (hg : cGI I I2) : cHas I2 R Z := h.eq (fun _ _ => rfl) (fun k _ => by unfold cTl; rw [hg 86 (by decide) (by decide)]) (hg 90 (by decide) (by decide)) (hg 91 (by decide) (by decide)) (fun j hj x hx => by
  have t := (hT j hj x hx).1
  exact ⟨hg x (by omega) (by omega), hg (x + 1) (by omega) (by omega), hg (x + 2) (by omega) (by omega)⟩)

set_option maxRecDepth 100000 in
theorem cs_canMeet {n : Nat} {I : px_I} {L : px_L} {R : px_R} (hg : px_G n R) (a f b t : Int32) (hT : cTold n I R) {Z : Nat → zL} (hZ : cHas I R Z) : px_KS M_X11_canMeet [.ref 32, .int a, .int f, .int b, .int t] n I L R (fun r I2 L2 => (r = 0 ∨ r = 1) ∧ cMI I I2 ∧ cWL L L2 ∧ cHas I2 R Z ∧ (r = 1 ↔ cMt I R a f b t) ∧ (r = 1 → ¬ I2 90 a.toNatClampNeg = 0 ∧ ¬ I2 90 b.toNatClampNeg = 0)) := by
  refine px_of (plainFor_of_name np_RX11) (fun _ _ _ => trivial) rfl ?_
  refine px_cVS (ci := 5) rfl q_X11_canMeet_0 hg rfl trivial lk_11_221 nm_X5_make (cs_make hg _ hT hZ) rfl rfl (px_lit hg rfl) rfl rfl rfl ⟨rfl, rfl⟩ ?_
  intro x5 I5 L5 h5
  obtain ⟨hr5, h5a, h5b, h5c, h5d, h5e, h5f⟩ := h5
  refine px_eq rfl q_X11_canMeet_8 hg rfl trivial (fun c8 => ?_) (fun c8 => ?_)
  · refine px_rzS rfl q_X11_canMeet_49 rfl rfl rfl hg rfl trivial ⟨⟨rfl, rfl⟩, (by first | exact Or.inl rfl | exact Or.inr rfl | grind), ?_⟩
    first
      | exact ⟨Or.inl rfl, h5a, h5b, h5c, ⟨fun z => absurd z (by decide), fun z => absurd (h5d.mpr z.1) (by grind)⟩, fun z => absurd z (by decide)⟩
      | exact ⟨Or.inl rfl, h16a, h16b, h16c, ⟨fun z => absurd z (by decide), fun z => absurd (h16d.mpr z.2.1) (by grind)⟩, fun z => absurd z (by decide)⟩
      | exact ⟨Or.inl rfl, h16a, h16b, h16c, ⟨fun z => absurd z (by decide), fun z => by obtain ⟨-, -, z1, z2⟩ := z; rw [← e33] at z1 z2; first | exact absurd z1 (by assumption) | exact absurd z2 (by assumption)⟩, fun z => absurd z (by decide)⟩
      | (have r5 := hr5.resolve_left (by assumption); have r16 := hr16.resolve_left (by assumption); exact ⟨Or.inr rfl, h16a, h16b, h16c, ⟨fun _ => ⟨h5d.mp r5, h16d.mp r16, by rw [← e33]; assumption, by rw [← e33]; assumption⟩, fun _ => rfl⟩, fun _ => ⟨h16f _ (h5e r5), h16e r16⟩⟩)
  · refine px_cVS (ci := 5) rfl q_X11_canMeet_11 hg rfl trivial lk_11_221 nm_X5_make (cs_make hg _ (h5a.told hT) h5c) rfl rfl (px_lit hg rfl) rfl rfl rfl ⟨rfl, rfl⟩ ?_
    intro x16 I16 L16 h16
    obtain ⟨hr16, h16a, h16b, h16c, h16d, h16e, h16f⟩ := h16
    replace h16a := h5a.trans h16a
    replace h16b := h5b.trans h16b
    have e33 : I16 33 7 = I 33 7 := h16a 33 7 (by decide) (by decide) (by decide) (by decide) (by decide)
    refine px_eq rfl q_X11_canMeet_19 hg rfl trivial (fun c19 => ?_) (fun c19 => ?_)
    · refine px_rzS rfl q_X11_canMeet_49 rfl rfl rfl hg rfl trivial ⟨⟨rfl, rfl⟩, (by first | exact Or.inl rfl | exact Or.inr rfl | grind), ?_⟩
      first
        | exact ⟨Or.inl rfl, h5a, h5b, h5c, ⟨fun z => absurd z (by decide), fun z => absurd (h5d.mpr z.1) (by grind)⟩, fun z => absurd z (by decide)⟩
        | exact ⟨Or.inl rfl, h16a, h16b, h16c, ⟨fun z => absurd z (by decide), fun z => absurd (h16d.mpr z.2.1) (by grind)⟩, fun z => absurd z (by decide)⟩
        | exact ⟨Or.inl rfl, h16a, h16b, h16c, ⟨fun z => absurd z (by decide), fun z => by obtain ⟨-, -, z1, z2⟩ := z; rw [← e33] at z1 z2; first | exact absurd z1 (by assumption) | exact absurd z2 (by assumption)⟩, fun z => absurd z (by decide)⟩
        | (have r5 := hr5.resolve_left (by assumption); have r16 := hr16.resolve_left (by assumption); exact ⟨Or.inr rfl, h16a, h16b, h16c, ⟨fun _ => ⟨h5d.mp r5, h16d.mp r16, by rw [← e33]; assumption, by rw [← e33]; assumption⟩, fun _ => rfl⟩, fun _ => ⟨h16f _ (h5e r5), h16e r16⟩⟩)
    · refine px_cVP (ci := 7) rfl q_X11_canMeet_22 hg rfl trivial lk_11_103 nm_X7_has (c_has hg _) rfl rfl (px_lit hg rfl) rfl rfl rfl ⟨rfl, rfl⟩ ?_
      intro x27 h27
      refine px_eq rfl q_X11_canMeet_30 hg rfl trivial (fun c30 => ?_) (fun c30 => ?_)
      · replace h27 := px_bf h27 c30
        refine px_rzS rfl q_X11_canMeet_49 rfl rfl rfl hg rfl trivial ⟨⟨rfl, rfl⟩, (by first | exact Or.inl rfl | exact Or.inr rfl | grind), ?_⟩
        first
          | exact ⟨Or.inl rfl, h5a, h5b, h5c, ⟨fun z => absurd z (by decide), fun z => absurd (h5d.mpr z.1) (by grind)⟩, fun z => absurd z (by decide)⟩
          | exact ⟨Or.inl rfl, h16a, h16b, h16c, ⟨fun z => absurd z (by decide), fun z => absurd (h16d.mpr z.2.1) (by grind)⟩, fun z => absurd z (by decide)⟩
          | exact ⟨Or.inl rfl, h16a, h16b, h16c, ⟨fun z => absurd z (by decide), fun z => by obtain ⟨-, -, z1, z2⟩ := z; rw [← e33] at z1 z2; first | exact absurd z1 (by assumption) | exact absurd z2 (by assumption)⟩, fun z => absurd z (by decide)⟩
          | (have r5 := hr5.resolve_left (by assumption); have r16 := hr16.resolve_left (by assumption); exact ⟨Or.inr rfl, h16a, h16b, h16c, ⟨fun _ => ⟨h5d.mp r5, h16d.mp r16, by rw [← e33]; assumption, by rw [← e33]; assumption⟩, fun _ => rfl⟩, fun _ => ⟨h16f _ (h5e r5), h16e r16⟩⟩)
      · replace h27 := px_bt h27 c30
        refine px_cVP (ci := 7) rfl q_X11_canMeet_33 hg rfl trivial lk_11_103 nm_X7_has (c_has hg _) rfl rfl (px_lit hg rfl) rfl rfl rfl ⟨rfl, rfl⟩ ?_
        intro x39 h39
        refine px_eq rfl q_X11_canMeet_42 hg rfl trivial (fun c42 => ?_) (fun c42 => ?_)
        · replace h39 := px_bf h39 c42
          refine px_rzS rfl q_X11_canMeet_49 rfl rfl rfl hg rfl trivial ⟨⟨rfl, rfl⟩, (by first | exact Or.inl rfl | exact Or.inr rfl | grind), ?_⟩
          first
            | exact ⟨Or.inl rfl, h5a, h5b, h5c, ⟨fun z => absurd z (by decide), fun z => absurd (h5d.mpr z.1) (by grind)⟩, fun z => absurd z (by decide)⟩
            | exact ⟨Or.inl rfl, h16a, h16b, h16c, ⟨fun z => absurd z (by decide), fun z => absurd (h16d.mpr z.2.1) (by grind)⟩, fun z => absurd z (by decide)⟩
            | exact ⟨Or.inl rfl, h16a, h16b, h16c, ⟨fun z => absurd z (by decide), fun z => by obtain ⟨-, -, z1, z2⟩ := z; rw [← e33] at z1 z2; first | exact absurd z1 (by assumption) | exact absurd z2 (by assumption)⟩, fun z => absurd z (by decide)⟩
            | (have r5 := hr5.resolve_left (by assumption); have r16 := hr16.resolve_left (by assumption); exact ⟨Or.inr rfl, h16a, h16b, h16c, ⟨fun _ => ⟨h5d.mp r5, h16d.mp r16, by rw [← e33]; assumption, by rw [← e33]; assumption⟩, fun _ => rfl⟩, fun _ => ⟨h16f _ (h5e r5), h16e r16⟩⟩)
        · replace h39 := px_bt h39 c42
          refine px_rzS rfl q_X11_canMeet_45 rfl rfl rfl hg rfl trivial ⟨⟨rfl, rfl⟩, (by first | exact Or.inl rfl | exact Or.inr rfl | grind), ?_⟩
          first
            | exact ⟨Or.inl rfl, h5a, h5b, h5c, ⟨fun z => absurd z (by decide), fun z => absurd (h5d.mpr z.1) (by grind)⟩, fun z => absurd z (by decide)⟩
            | exact ⟨Or.inl rfl, h16a, h16b, h16c, ⟨fun z => absurd z (by decide), fun z => absurd (h16d.mpr z.2.1) (by grind)⟩, fun z => absurd z (by decide)⟩
            | exact ⟨Or.inl rfl, h16a, h16b, h16c, ⟨fun z => absurd z (by decide), fun z => by obtain ⟨-, -, z1, z2⟩ := z; rw [← e33] at z1 z2; first | exact absurd z1 (by assumption) | exact absurd z2 (by assumption)⟩, fun z => absurd z (by decide)⟩
            | (have r5 := hr5.resolve_left (by assumption); have r16 := hr16.resolve_left (by assumption); exact ⟨Or.inr rfl, h16a, h16b, h16c, ⟨fun _ => ⟨h5d.mp r5, h16d.mp r16, by rw [← e33]; assumption, by rw [← e33]; assumption⟩, fun _ => rfl⟩, fun _ => ⟨h16f _ (h5e r5), h16e r16⟩⟩)

set_option maxRecDepth 100000 in
theorem bs_meeting {n : Nat} {I : px_I} {L : px_L} {R : px_R} (hg : px_G n R) (a f b t x h : Int32) (hT : cTold n I R) {Z : Nat → zL} (hZ : cHas I R Z) (hS : cSt I) : px_KS M_X11_meeting [.ref 32, .int a, .int f, .int b, .int t, .int x, .int h] n I L R (fun r I2 L2 => (bXI I I2 ∧ bXL L L2) ∧ cHas I2 R Z) := by
  refine px_of (plainFor_of_name np_RX11) (fun _ _ _ => trivial) rfl ?_
  refine px_cSP rfl q_X11_meeting_0 hg rfl trivial lk_11_93 nm_X11_isAxis (c_isAxis hg _) rfl rfl rfl ⟨rfl, rfl⟩ ?_
  intro x2 h2
  refine px_eq rfl q_X11_meeting_5 hg rfl trivial (fun c5 => ?_) (fun c5 => ?_)
  · replace h2 := px_bf h2 c5
    refine px_riS rfl q_X11_meeting_20 rfl rfl rfl hg rfl trivial ⟨⟨rfl, rfl⟩, ?_⟩
    first | exact ⟨⟨h14a.trans h34c.b, h14b.trans h34d.b⟩, h14z.gap hT14 h34c⟩ | exact ⟨⟨h14a, h14b⟩, h14z⟩ | exact ⟨⟨bXI.rfl', bXL.rfl'⟩, hZ⟩
  · replace h2 := px_bt h2 c5
    refine px_cVS (ci := 11) rfl q_X11_meeting_8 hg rfl trivial lk_11_228 nm_X11_canMeet (cs_canMeet hg _ _ _ _ hT hZ) rfl rfl (px_lit hg rfl) rfl rfl rfl ⟨rfl, rfl⟩ ?_
    intro x14 I14 L14 h14
    obtain ⟨hr14, h14m, h14w, h14z, -⟩ := h14
    have h14a := h14m.b
    have h14b := h14w.b
    have hS14 := h14a.st hS
    have hs1 := hS14.2
    have hn1 := hS14.1.2
    have hT14 := h14m.told hT
    refine px_ne rfl q_X11_meeting_17 hg rfl trivial (fun c17 => ?_) (fun c17 => ?_)
    · refine px_cVW (ci := 3) rfl q_X11_meeting_23 hg rfl trivial lk_11_231 nm_X3_look (c_look hg _ _ _ hs1 hn1) rfl rfl (px_lit hg rfl) rfl rfl rfl ⟨rfl, rfl⟩ ?_
      intro I34 L34 h34
      obtain ⟨h34c, h34d⟩ := h34
      refine px_cVP (ci := 3) rfl q_X11_meeting_37 hg rfl trivial lk_11_235 nm_X3_bound (c_boundM hg _ _ _ _) rfl rfl (px_lit hg rfl) rfl rfl rfl ⟨rfl, rfl⟩ ?_
      intro x47 h47
      refine px_riS rfl q_X11_meeting_50 rfl rfl rfl hg rfl trivial ⟨⟨rfl, rfl⟩, ?_⟩
      first | exact ⟨⟨h14a.trans h34c.b, h14b.trans h34d.b⟩, h14z.gap hT14 h34c⟩ | exact ⟨⟨h14a, h14b⟩, h14z⟩ | exact ⟨⟨bXI.rfl', bXL.rfl'⟩, hZ⟩
    · refine px_riS rfl q_X11_meeting_20 rfl rfl rfl hg rfl trivial ⟨⟨rfl, rfl⟩, ?_⟩
      first | exact ⟨⟨h14a.trans h34c.b, h14b.trans h34d.b⟩, h14z.gap hT14 h34c⟩ | exact ⟨⟨h14a, h14b⟩, h14z⟩ | exact ⟨⟨bXI.rfl', bXL.rfl'⟩, hZ⟩

set_option maxRecDepth 100000 in
theorem bs_fits {n : Nat} {I : px_I} {L : px_L} {R : px_R} (hg : px_G n R) (a f b t : Int32) (hT : cTold n I R) {Z : Nat → zL} (hZ : cHas I R Z) (hS : cSt I) : px_KS M_X11_fits [.ref 32, .int a, .int f, .int b, .int t] n I L R (fun r I2 L2 => (bXI I I2 ∧ bXL L L2) ∧ cHas I2 R Z) := by
  refine px_of (plainFor_of_name np_RX11) (fun _ _ _ => trivial) rfl ?_
  refine px_cVS (ci := 11) rfl q_X11_fits_0 hg rfl trivial lk_11_228 nm_X11_canMeet (cs_canMeet hg _ _ _ _ hT hZ) rfl rfl (px_lit hg rfl) rfl rfl rfl ⟨rfl, rfl⟩ ?_
  intro x6 I6 L6 h6
  obtain ⟨hr6, h6m, h6w, h6z, -⟩ := h6
  have h6a := h6m.b
  have h6b := h6w.b
  have hS6 := h6a.st hS
  have hs1 := hS6.2
  have hn1 := hS6.1.2
  have hT6 := h6m.told hT
  refine px_ne rfl q_X11_fits_9 hg rfl trivial (fun c9 => ?_) (fun c9 => ?_)
  · refine px_cVW (ci := 3) rfl q_X11_fits_14 hg rfl trivial lk_11_231 nm_X3_look (c_look hg _ _ _ hs1 hn1) rfl rfl (px_lit hg rfl) rfl rfl rfl ⟨rfl, rfl⟩ ?_
    intro I25 L25 h25
    obtain ⟨h25c, h25d⟩ := h25
    refine px_cVP (ci := 3) rfl q_X11_fits_28 hg rfl trivial lk_11_241 nm_X3_judge (c_judge hg _ _) rfl rfl (px_lit hg rfl) rfl rfl rfl ⟨rfl, rfl⟩ ?_
    intro x34 h34
    refine px_riS rfl q_X11_fits_37 rfl rfl rfl hg rfl trivial ⟨⟨rfl, rfl⟩, ?_⟩
    first | exact ⟨⟨h6a.trans h25c.b, h6b.trans h25d.b⟩, h6z.gap hT6 h25c⟩ | exact ⟨⟨h6a, h6b⟩, h6z⟩ | exact ⟨⟨bXI.rfl', bXL.rfl'⟩, hZ⟩
  · refine px_riS rfl q_X11_fits_12 rfl rfl rfl hg rfl trivial ⟨⟨rfl, rfl⟩, ?_⟩
    first | exact ⟨⟨h6a.trans h25c.b, h6b.trans h25d.b⟩, h6z.gap hT6 h25c⟩ | exact ⟨⟨h6a, h6b⟩, h6z⟩ | exact ⟨⟨bXI.rfl', bXL.rfl'⟩, hZ⟩

set_option maxRecDepth 100000 in
theorem ls_pairs16 {n : Nat} {R : px_R} (hg : px_G n R) {Q : px_Q} (x y v a : Int32) {I0 : px_I} (L0 : px_L) (ht : cTold n I0 R) {Z : Nat → zL} (kk : ∀ c I2 L2, cMI I0 I2 → cWL L0 L2 → cHas I2 R Z → px M_X3_pairs 0 0 6 [(0, .ref 92), (1, .int x), (2, .int y), (3, .int v), (4, .int c), (5, .int (a + 1))] [] n I2 L2 R Q) : ∀ i : Int32, i ≤ 6 → 0 ≤ i → ∀ (c : Int32) (I : px_I) (L : px_L), cMI I0 I → cWL L0 L → cHas I R Z → px M_X3_pairs 0 0 16 [(0, .ref 92), (1, .int x), (2, .int y), (3, .int v), (4, .int c), (5, .int a), (6, .int i)] [] n I L R Q := by
  refine px_up 6 (fun i ih hi => ?_)
  intro h0 c I L hM hL hZ
  have ht0 := hM.told ht
  refine px_ige rfl q_X3_pairs_16 hg rfl trivial (fun c20 => ?_) (fun c20 => ?_)
  · refine px_b rfl q_X3_pairs_86 hg rfl trivial ?_
    exact px_go (kk _ _ _ hM hL hZ) ⟨rfl, rfl, rfl, rfl, rfl, rfl, trivial⟩
  · refine px_cVS (ci := 5) rfl q_X3_pairs_23 hg rfl trivial lk_3_52 nm_X5_make (cs_make hg _ ht0 hZ) rfl rfl (px_lit hg rfl) rfl rfl rfl ⟨rfl, rfl⟩ ?_
    intro x47 I47 L47 h47
    obtain ⟨h47a, h47b, h47c, h47z, -⟩ := h47
    have hm1 := hM.trans h47b
    have hl1 := hL.trans h47c
    have ht1 := hm1.told ht
    refine px_eq rfl q_X3_pairs_50 hg rfl trivial (fun c50 => ?_) (fun c50 => ?_)
    · refine px_b rfl q_X3_pairs_80 hg rfl trivial ?_
      first | exact px_go (ih (i + 1) (by grind) (by grind) (by grind) _ _ _ hm2 hl2 h59z) ⟨rfl, rfl, rfl, rfl, rfl, rfl, rfl, trivial⟩ | exact px_go (ih (i + 1) (by grind) (by grind) (by grind) _ _ _ hm1 hl1 h47z) ⟨rfl, rfl, rfl, rfl, rfl, rfl, rfl, trivial⟩
    · refine px_cVS (ci := 5) rfl q_X3_pairs_53 hg rfl trivial lk_3_52 nm_X5_make (cs_make hg _ ht1 h47z) rfl rfl (px_lit hg rfl) rfl rfl rfl ⟨rfl, rfl⟩ ?_
      intro x59 I59 L59 h59
      obtain ⟨h59a, h59b, h59c, h59z, -⟩ := h59
      have hm2 := hm1.trans h59b
      have hl2 := hl1.trans h59c
      refine px_eq rfl q_X3_pairs_62 hg rfl trivial (fun c62 => ?_) (fun c62 => ?_)
      · refine px_b rfl q_X3_pairs_80 hg rfl trivial ?_
        first | exact px_go (ih (i + 1) (by grind) (by grind) (by grind) _ _ _ hm2 hl2 h59z) ⟨rfl, rfl, rfl, rfl, rfl, rfl, rfl, trivial⟩ | exact px_go (ih (i + 1) (by grind) (by grind) (by grind) _ _ _ hm1 hl1 h47z) ⟨rfl, rfl, rfl, rfl, rfl, rfl, rfl, trivial⟩
      · refine px_cVP (ci := 3) rfl q_X3_pairs_65 hg rfl trivial lk_3_55 nm_X3_judge (c_judge hg _ _) rfl rfl (px_lit hg rfl) rfl rfl rfl ⟨rfl, rfl⟩ ?_
        intro x70 h70
        refine px_ine rfl q_X3_pairs_73 hg rfl trivial (fun c74 => ?_) (fun c74 => ?_)
        · refine px_b rfl q_X3_pairs_80 hg rfl trivial ?_
          first | exact px_go (ih (i + 1) (by grind) (by grind) (by grind) _ _ _ hm2 hl2 h59z) ⟨rfl, rfl, rfl, rfl, rfl, rfl, rfl, trivial⟩ | exact px_go (ih (i + 1) (by grind) (by grind) (by grind) _ _ _ hm1 hl1 h47z) ⟨rfl, rfl, rfl, rfl, rfl, rfl, rfl, trivial⟩
        · refine px_b rfl q_X3_pairs_77 hg rfl trivial ?_
          first | exact px_go (ih (i + 1) (by grind) (by grind) (by grind) _ _ _ hm2 hl2 h59z) ⟨rfl, rfl, rfl, rfl, rfl, rfl, rfl, trivial⟩ | exact px_go (ih (i + 1) (by grind) (by grind) (by grind) _ _ _ hm1 hl1 h47z) ⟨rfl, rfl, rfl, rfl, rfl, rfl, rfl, trivial⟩

set_option maxRecDepth 100000 in
theorem ls_pairs6 {n : Nat} {R : px_R} (hg : px_G n R) {Q : px_Q} (x y v : Int32) {I0 : px_I} (L0 : px_L) (ht : cTold n I0 R) {Z : Nat → zL} (hq : ∀ r I2 L2, cMI I0 I2 → cWL L0 L2 → cHas I2 R Z → Q (some (.int r)) n I2 L2 R) : ∀ a : Int32, a ≤ 6 → 0 ≤ a → ∀ (c : Int32) (I : px_I) (L : px_L), cMI I0 I → cWL L0 L → cHas I R Z → px M_X3_pairs 0 0 6 [(0, .ref 92), (1, .int x), (2, .int y), (3, .int v), (4, .int c), (5, .int a)] [] n I L R Q := by
  refine px_up 6 (fun a ih hi => ?_)
  intro h0 c I L hM hL hZ
  refine px_ige rfl q_X3_pairs_6 hg rfl trivial (fun c10 => ?_) (fun c10 => ?_)
  · refine px_ri rfl q_X3_pairs_92 rfl rfl rfl hg rfl trivial ?_
    exact hq _ _ _ hM hL hZ
  · refine px_b rfl q_X3_pairs_13 hg rfl trivial ?_
    exact px_go (ls_pairs16 hg x y v a L (hM.told ht) (fun c I2 L2 h1 h2 h3 => ih (a + 1) (by grind) (by grind) (by grind) c I2 L2 (hM.trans h1) (hL.trans h2) h3) 0 (by decide) (by decide) c I L cMI.rfl' cWL.rfl' hZ) ⟨rfl, rfl, rfl, rfl, rfl, rfl, rfl, trivial⟩

set_option maxRecDepth 100000 in
theorem cs_pairs {n : Nat} {I : px_I} {L : px_L} {R : px_R} (hg : px_G n R) (x y v : Int32) (ht : cTold n I R) {Z : Nat → zL} (hZ : cHas I R Z) : px_KS M_X3_pairs [.ref 92, .int x, .int y, .int v] n I L R (fun r I2 L2 => cMI I I2 ∧ cWL L L2 ∧ cHas I2 R Z) := by
  refine px_of (plainFor_of_name np_RX3) (fun _ _ _ => trivial) rfl ?_
  refine px_b rfl q_X3_pairs_0 hg rfl trivial ?_
  exact px_go (ls_pairs6 hg x y v L ht (fun r I2 L2 h1 h2 h3 => ⟨rfl, rfl, r, rfl, h1, h2, h3⟩) 0 (by decide) (by decide) 0 I L cMI.rfl' cWL.rfl' hZ) ⟨rfl, rfl, rfl, rfl, rfl, rfl, trivial⟩
