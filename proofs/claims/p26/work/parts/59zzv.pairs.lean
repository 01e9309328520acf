set_option maxRecDepth 100000 in
theorem lz_pairs16 {n : Nat} {R : px_R} (hg : px_G n R) {Q : px_Q} (x y v a f t : Int32) (ha : 0 ≤ a ∧ a < 6) (hx : 0 ≤ x ∧ x ≤ 15) (hy : 0 ≤ y ∧ y ≤ 15) {IB I0 : px_I} (L0 : px_L) (ht : cTold n I0 R) {Z : Nat → zL} (hgi : cGI IB I0) (hl : ∀ x : Int32, 0 ≤ x → x ≤ 2 → I0 95 x.toNatClampNeg = gC IB x f t (IB 32 10) 0 ∧ I0 96 x.toNatClampNeg = gC IB x f t (IB 32 10) 1) {c0 : Int32} (kk : ∀ I2 L2, cMI I0 I2 → cWL L0 L2 → cHas I2 R Z → px M_X3_pairs 0 0 6 [(0, .ref 92), (1, .int x), (2, .int y), (3, .int v), (4, .int (c0 + wB (cP IB R Z x f y t v) a 6)), (5, .int (a + 1))] [] n I2 L2 R Q) : ∀ i : Int32, i ≤ 6 → 0 ≤ i → ∀ (c : Int32) (I : px_I) (L : px_L), c = c0 + wB (cP IB R Z x f y t v) a i.toNatClampNeg → cMI I0 I → cWL L0 L → cHas I R Z → px M_X3_pairs 0 0 16 [(0, .ref 92), (1, .int x), (2, .int y), (3, .int v), (4, .int c), (5, .int a), (6, .int i)] [] n I L R Q := by
  refine px_up 6 (fun i ih hi => ?_)
  intro h0 c I L hc hM hL hZ
  have ht0 := hM.told ht
  refine px_ige rfl q_X3_pairs_16 hg rfl trivial (fun c20 => ?_) (fun c20 => ?_)
  · refine px_b rfl q_X3_pairs_86 hg rfl trivial ?_
    have e6 : i = 6 := by grind
    subst e6
    have hc6 : c = c0 + wB (cP IB R Z x f y t v) a 6 := by rw [hc, show (6 : Int32).toNatClampNeg = 6 by decide]
    subst hc6
    exact px_go (kk _ _ hM hL hZ) ⟨rfl, rfl, rfl, rfl, rfl, rfl, trivial⟩
  · refine px_cVS (ci := 5) rfl q_X3_pairs_23 hg rfl trivial lk_3_52 nm_X5_make (cs_make hg _ ht0 hZ) rfl rfl (px_lit hg rfl) rfl rfl rfl ⟨rfl, rfl⟩ ?_
    intro x47 I47 L47 h47
    obtain ⟨hr47, h47b, h47c, h47z, h47d, h47e, h47f⟩ := h47
    have hm1 := hM.trans h47b
    have hl1 := hL.trans h47c
    have ht1 := hm1.told ht
    refine px_eq rfl q_X3_pairs_50 hg rfl trivial (fun c50 => ?_) (fun c50 => ?_)
    · refine px_b rfl q_X3_pairs_80 hg rfl trivial ?_
      have hi6 : i < 6 := by grind
      first
        | exact px_go (ih (i + 1) (by grind) (by grind) (by grind) _ _ _ (by rw [hc, wB_f h0 hi6 (fun z => absurd (h47d.mpr z.1) (by grind))]) hm1 hl1 h47z) ⟨rfl, rfl, rfl, rfl, rfl, rfl, rfl, trivial⟩
        | exact px_go (ih (i + 1) (by grind) (by grind) (by grind) _ _ _ (by rw [hc, wB_f h0 hi6 (fun z => absurd (h59d.mpr z.2.1) (by grind))]) hm2 hl2 h59z) ⟨rfl, rfl, rfl, rfl, rfl, rfl, rfl, trivial⟩
        | (have r47 := hr47.resolve_left (by assumption)
           have r59 := hr59.resolve_left (by assumption)
           have q := pairs_in (h47d.mp r47) (h59d.mp r59) h59z hm2 (h59f _ (h47e r47)) (h59e r59) hgi hl
           first
             | exact px_go (ih (i + 1) (by grind) (by grind) (by grind) _ _ _ (by rw [hc, wB_t h0 hi6 ⟨h47d.mp r47, h59d.mp r59, by rw [← q, ← h70]; assumption⟩, Int32.add_assoc]) hm2 hl2 h59z) ⟨rfl, rfl, rfl, rfl, rfl, rfl, rfl, trivial⟩
             | exact px_go (ih (i + 1) (by grind) (by grind) (by grind) _ _ _ (by rw [hc, wB_f h0 hi6 (fun z => absurd (h70.trans (q.trans z.2.2)) (by assumption))]) hm2 hl2 h59z) ⟨rfl, rfl, rfl, rfl, rfl, rfl, rfl, trivial⟩)
    · refine px_cVS (ci := 5) rfl q_X3_pairs_53 hg rfl trivial lk_3_52 nm_X5_make (cs_make hg _ ht1 h47z) rfl rfl (px_lit hg rfl) rfl rfl rfl ⟨rfl, rfl⟩ ?_
      intro x59 I59 L59 h59
      obtain ⟨hr59, h59b, h59c, h59z, h59d, h59e, h59f⟩ := h59
      have hm2 := hm1.trans h59b
      have hl2 := hl1.trans h59c
      refine px_eq rfl q_X3_pairs_62 hg rfl trivial (fun c62 => ?_) (fun c62 => ?_)
      · refine px_b rfl q_X3_pairs_80 hg rfl trivial ?_
        have hi6 : i < 6 := by grind
        first
          | exact px_go (ih (i + 1) (by grind) (by grind) (by grind) _ _ _ (by rw [hc, wB_f h0 hi6 (fun z => absurd (h47d.mpr z.1) (by grind))]) hm1 hl1 h47z) ⟨rfl, rfl, rfl, rfl, rfl, rfl, rfl, trivial⟩
          | exact px_go (ih (i + 1) (by grind) (by grind) (by grind) _ _ _ (by rw [hc, wB_f h0 hi6 (fun z => absurd (h59d.mpr z.2.1) (by grind))]) hm2 hl2 h59z) ⟨rfl, rfl, rfl, rfl, rfl, rfl, rfl, trivial⟩
          | (have r47 := hr47.resolve_left (by assumption)
             have r59 := hr59.resolve_left (by assumption)
             have q := pairs_in (h47d.mp r47) (h59d.mp r59) h59z hm2 (h59f _ (h47e r47)) (h59e r59) hgi hl
             first
               | exact px_go (ih (i + 1) (by grind) (by grind) (by grind) _ _ _ (by rw [hc, wB_t h0 hi6 ⟨h47d.mp r47, h59d.mp r59, by rw [← q, ← h70]; assumption⟩, Int32.add_assoc]) hm2 hl2 h59z) ⟨rfl, rfl, rfl, rfl, rfl, rfl, rfl, trivial⟩
               | exact px_go (ih (i + 1) (by grind) (by grind) (by grind) _ _ _ (by rw [hc, wB_f h0 hi6 (fun z => absurd (h70.trans (q.trans z.2.2)) (by assumption))]) hm2 hl2 h59z) ⟨rfl, rfl, rfl, rfl, rfl, rfl, rfl, trivial⟩)
      · refine px_cVP (ci := 3) rfl q_X3_pairs_65 hg rfl trivial lk_3_55 nm_X3_judge (cs_judge hg _ _) rfl rfl (px_lit hg rfl) rfl rfl rfl ⟨rfl, rfl⟩ ?_
        intro x70 h70
        refine px_ine rfl q_X3_pairs_73 hg rfl trivial (fun c74 => ?_) (fun c74 => ?_)
        · refine px_b rfl q_X3_pairs_80 hg rfl trivial ?_
          have hi6 : i < 6 := by grind
          first
            | exact px_go (ih (i + 1) (by grind) (by grind) (by grind) _ _ _ (by rw [hc, wB_f h0 hi6 (fun z => absurd (h47d.mpr z.1) (by grind))]) hm1 hl1 h47z) ⟨rfl, rfl, rfl, rfl, rfl, rfl, rfl, trivial⟩
            | exact px_go (ih (i + 1) (by grind) (by grind) (by grind) _ _ _ (by rw [hc, wB_f h0 hi6 (fun z => absurd (h59d.mpr z.2.1) (by grind))]) hm2 hl2 h59z) ⟨rfl, rfl, rfl, rfl, rfl, rfl, rfl, trivial⟩
            | (have r47 := hr47.resolve_left (by assumption)
               have r59 := hr59.resolve_left (by assumption)
               have q := pairs_in (h47d.mp r47) (h59d.mp r59) h59z hm2 (h59f _ (h47e r47)) (h59e r59) hgi hl
               first
                 | exact px_go (ih (i + 1) (by grind) (by grind) (by grind) _ _ _ (by rw [hc, wB_t h0 hi6 ⟨h47d.mp r47, h59d.mp r59, by rw [← q, ← h70]; assumption⟩, Int32.add_assoc]) hm2 hl2 h59z) ⟨rfl, rfl, rfl, rfl, rfl, rfl, rfl, trivial⟩
                 | exact px_go (ih (i + 1) (by grind) (by grind) (by grind) _ _ _ (by rw [hc, wB_f h0 hi6 (fun z => absurd (h70.trans (q.trans z.2.2)) (by assumption))]) hm2 hl2 h59z) ⟨rfl, rfl, rfl, rfl, rfl, rfl, rfl, trivial⟩)
        · refine px_b rfl q_X3_pairs_77 hg rfl trivial ?_
          have hi6 : i < 6 := by grind
          first
            | exact px_go (ih (i + 1) (by grind) (by grind) (by grind) _ _ _ (by rw [hc, wB_f h0 hi6 (fun z => absurd (h47d.mpr z.1) (by grind))]) hm1 hl1 h47z) ⟨rfl, rfl, rfl, rfl, rfl, rfl, rfl, trivial⟩
            | exact px_go (ih (i + 1) (by grind) (by grind) (by grind) _ _ _ (by rw [hc, wB_f h0 hi6 (fun z => absurd (h59d.mpr z.2.1) (by grind))]) hm2 hl2 h59z) ⟨rfl, rfl, rfl, rfl, rfl, rfl, rfl, trivial⟩
            | (have r47 := hr47.resolve_left (by assumption)
               have r59 := hr59.resolve_left (by assumption)
               have q := pairs_in (h47d.mp r47) (h59d.mp r59) h59z hm2 (h59f _ (h47e r47)) (h59e r59) hgi hl
               first
                 | exact px_go (ih (i + 1) (by grind) (by grind) (by grind) _ _ _ (by rw [hc, wB_t h0 hi6 ⟨h47d.mp r47, h59d.mp r59, by rw [← q, ← h70]; assumption⟩, Int32.add_assoc]) hm2 hl2 h59z) ⟨rfl, rfl, rfl, rfl, rfl, rfl, rfl, trivial⟩
                 | exact px_go (ih (i + 1) (by grind) (by grind) (by grind) _ _ _ (by rw [hc, wB_f h0 hi6 (fun z => absurd (h70.trans (q.trans z.2.2)) (by assumption))]) hm2 hl2 h59z) ⟨rfl, rfl, rfl, rfl, rfl, rfl, rfl, trivial⟩)

set_option maxRecDepth 100000 in
theorem lz_pairs6 {n : Nat} {R : px_R} (hg : px_G n R) {Q : px_Q} (x y v f t : Int32) (hx : 0 ≤ x ∧ x ≤ 15) (hy : 0 ≤ y ∧ y ≤ 15) {IB I0 : px_I} (L0 : px_L) (ht : cTold n I0 R) {Z : Nat → zL} (hgi : cGI IB I0) (hl : ∀ x : Int32, 0 ≤ x → x ≤ 2 → I0 95 x.toNatClampNeg = gC IB x f t (IB 32 10) 0 ∧ I0 96 x.toNatClampNeg = gC IB x f t (IB 32 10) 1) (hq : ∀ I2 L2, cMI I0 I2 → cWL L0 L2 → cHas I2 R Z → Q (some (.int (wA (cP IB R Z x f y t v) 6))) n I2 L2 R) : ∀ a : Int32, a ≤ 6 → 0 ≤ a → ∀ (c : Int32) (I : px_I) (L : px_L), c = wA (cP IB R Z x f y t v) a.toNatClampNeg → cMI I0 I → cWL L0 L → cHas I R Z → px M_X3_pairs 0 0 6 [(0, .ref 92), (1, .int x), (2, .int y), (3, .int v), (4, .int c), (5, .int a)] [] n I L R Q := by
  refine px_up 6 (fun a ih hi => ?_)
  intro h0 c I L hc hM hL hZ
  refine px_ige rfl q_X3_pairs_6 hg rfl trivial (fun c10 => ?_) (fun c10 => ?_)
  · refine px_ri rfl q_X3_pairs_92 rfl rfl rfl hg rfl trivial ?_
    have e6 : a = 6 := by grind
    subst e6
    have hc6 : c = wA (cP IB R Z x f y t v) 6 := by rw [hc, show (6 : Int32).toNatClampNeg = 6 by decide]
    subst hc6
    exact hq _ _ hM hL hZ
  · refine px_b rfl q_X3_pairs_13 hg rfl trivial ?_
    have ha6 : a < 6 := by grind
    exact px_go (lz_pairs16 hg x y v a f t ⟨h0, ha6⟩ hx hy L0 ht hgi hl (c0 := c) (fun I2 L2 h1 h2 h3 => ih (a + 1) (by grind) (by grind) (by grind) _ I2 L2 (by rw [wA_s h0 ha6, ← hc]) h1 h2 h3) 0 (by decide) (by decide) c I L (by rw [xz0]; exact (Int32.add_zero c).symm) hM hL hZ) ⟨rfl, rfl, rfl, rfl, rfl, rfl, rfl, trivial⟩

set_option maxRecDepth 100000 in
theorem cs_pairsX {n : Nat} {I : px_I} {L : px_L} {R : px_R} (hg : px_G n R) (x y v f t : Int32) (hx : 0 ≤ x ∧ x ≤ 15) (hy : 0 ≤ y ∧ y ≤ 15) (ht : cTold n I R) {Z : Nat → zL} (hZ : cHas I R Z) {IB : px_I} (hgi : cGI IB I) (hl : ∀ x : Int32, 0 ≤ x → x ≤ 2 → I 95 x.toNatClampNeg = gC IB x f t (IB 32 10) 0 ∧ I 96 x.toNatClampNeg = gC IB x f t (IB 32 10) 1) : px_KS M_X3_pairs [.ref 92, .int x, .int y, .int v] n I L R (fun r I2 L2 => cMI I I2 ∧ cWL L L2 ∧ cHas I2 R Z ∧ r = wA (cP IB R Z x f y t v) 6) := by
  refine px_of (plainFor_of_name np_RX3) (fun _ _ _ => trivial) rfl ?_
  refine px_b rfl q_X3_pairs_0 hg rfl trivial ?_
  exact px_go (lz_pairs6 hg x y v f t hx hy L ht hgi hl (fun I2 L2 h1 h2 h3 => ⟨rfl, rfl, _, rfl, h1, h2, h3, rfl⟩) 0 (by decide) (by decide) 0 I L (by rw [xz0]; rfl) cMI.rfl' cWL.rfl' hZ) ⟨rfl, rfl, rfl, rfl, rfl, rfl, trivial⟩

set_option maxRecDepth 100000 in
theorem bs_ways {n : Nat} {I : px_I} {L : px_L} {R : px_R} (hg : px_G n R) (a f b t x : Int32) (hT : cTold n I R) {Z : Nat → zL} (hZ : cHas I R Z) (hS : cSt I) (hO : cSo I) : px_KS M_X11_ways [.ref 32, .int a, .int f, .int b, .int t, .int x] n I L R (fun r I2 L2 => (bXI I I2 ∧ bXL L L2) ∧ cHas I2 R Z ∧ r = cWs I R Z a f b t x) := by
  refine px_of (plainFor_of_name np_RX11) (fun _ _ _ => trivial) rfl ?_
  refine px_cSP rfl q_X11_ways_0 hg rfl trivial lk_11_218 nm_X11_isHeading (c_isHeading hg _) rfl rfl rfl ⟨rfl, rfl⟩ ?_
  intro x1 h1
  refine px_eq rfl q_X11_ways_4 hg rfl trivial (fun c4 => ?_) (fun c4 => ?_)
  · replace h1 := px_bf h1 c4
    refine px_riS rfl q_X11_ways_24 rfl rfl rfl hg rfl trivial ⟨⟨rfl, rfl⟩, ?_⟩
    first
      | exact ⟨⟨h62c.b.trans h73.1.b, h62d.b.trans h73.2.1.b⟩, h73.2.2.1, h73.2.2.2.trans (jjN_t ⟨⟨by assumption, by assumption, by assumption⟩, by assumption, by assumption⟩).symm⟩
      | exact ⟨⟨bXI.rfl', bXL.rfl'⟩, hZ, (jjN_f (fun z => by first | exact absurd z.1.1 (by assumption) | exact absurd z.1.2.1 (by assumption) | exact absurd z.1.2.2 (by assumption) | exact absurd z.2.1 (by assumption) | exact absurd z.2.2 (by assumption))).symm⟩
  · replace h1 := px_bt h1 c4
    refine px_cSP rfl q_X11_ways_7 hg rfl trivial lk_11_218 nm_X11_isHeading (c_isHeading hg _) rfl rfl rfl ⟨rfl, rfl⟩ ?_
    intro x8 h8
    refine px_eq rfl q_X11_ways_11 hg rfl trivial (fun c11 => ?_) (fun c11 => ?_)
    · replace h8 := px_bf h8 c11
      refine px_riS rfl q_X11_ways_24 rfl rfl rfl hg rfl trivial ⟨⟨rfl, rfl⟩, ?_⟩
      first
        | exact ⟨⟨h62c.b.trans h73.1.b, h62d.b.trans h73.2.1.b⟩, h73.2.2.1, h73.2.2.2.trans (jjN_t ⟨⟨by assumption, by assumption, by assumption⟩, by assumption, by assumption⟩).symm⟩
        | exact ⟨⟨bXI.rfl', bXL.rfl'⟩, hZ, (jjN_f (fun z => by first | exact absurd z.1.1 (by assumption) | exact absurd z.1.2.1 (by assumption) | exact absurd z.1.2.2 (by assumption) | exact absurd z.2.1 (by assumption) | exact absurd z.2.2 (by assumption))).symm⟩
    · replace h8 := px_bt h8 c11
      refine px_cSP rfl q_X11_ways_14 hg rfl trivial lk_11_85 nm_X11_within (c_within hg _ _ _) rfl rfl rfl ⟨rfl, rfl⟩ ?_
      intro x18 h18
      refine px_ne rfl q_X11_ways_21 hg rfl trivial (fun c21 => ?_) (fun c21 => ?_)
      · replace h18 := px_bt h18 c21
        refine px_cVP (ci := 7) rfl q_X11_ways_26 hg rfl trivial lk_11_103 nm_X7_has (c_has hg _) rfl rfl (px_lit hg rfl) rfl rfl rfl ⟨rfl, rfl⟩ ?_
        intro x31 h31
        refine px_eq rfl q_X11_ways_34 hg rfl trivial (fun c34 => ?_) (fun c34 => ?_)
        · replace h31 := px_bf h31 c34
          refine px_riS rfl q_X11_ways_49 rfl rfl rfl hg rfl trivial ⟨⟨rfl, rfl⟩, ?_⟩
          first
            | exact ⟨⟨h62c.b.trans h73.1.b, h62d.b.trans h73.2.1.b⟩, h73.2.2.1, h73.2.2.2.trans (jjN_t ⟨⟨by assumption, by assumption, by assumption⟩, by assumption, by assumption⟩).symm⟩
            | exact ⟨⟨bXI.rfl', bXL.rfl'⟩, hZ, (jjN_f (fun z => by first | exact absurd z.1.1 (by assumption) | exact absurd z.1.2.1 (by assumption) | exact absurd z.1.2.2 (by assumption) | exact absurd z.2.1 (by assumption) | exact absurd z.2.2 (by assumption))).symm⟩
        · replace h31 := px_bt h31 c34
          refine px_cVP (ci := 7) rfl q_X11_ways_37 hg rfl trivial lk_11_103 nm_X7_has (c_has hg _) rfl rfl (px_lit hg rfl) rfl rfl rfl ⟨rfl, rfl⟩ ?_
          intro x43 h43
          refine px_ne rfl q_X11_ways_46 hg rfl trivial (fun c46 => ?_) (fun c46 => ?_)
          · replace h43 := px_bt h43 c46
            refine px_cVW (ci := 3) rfl q_X11_ways_51 hg rfl trivial lk_11_231 nm_X3_look (cs_look hg _ _ _ hS hO (by assumption) (by assumption)) rfl rfl (px_lit hg rfl) rfl rfl rfl ⟨rfl, rfl⟩ ?_
            intro I62 L62 h62
            obtain ⟨h62c, h62d, h62v⟩ := h62
            refine px_cVS (ci := 3) rfl q_X11_ways_65 hg rfl trivial lk_11_244 nm_X3_pairs (cs_pairsX hg _ _ _ f t (by assumption) (by assumption) (h62c.b.told hT) (hZ.gap hT h62c) h62c h62v) rfl rfl (px_lit hg rfl) rfl rfl rfl ⟨rfl, rfl⟩ ?_
            intro x73 I73 L73 h73
            refine px_riS rfl q_X11_ways_76 rfl rfl rfl hg rfl trivial ⟨⟨rfl, rfl⟩, ?_⟩
            first
              | exact ⟨⟨h62c.b.trans h73.1.b, h62d.b.trans h73.2.1.b⟩, h73.2.2.1, h73.2.2.2.trans (jjN_t ⟨⟨by assumption, by assumption, by assumption⟩, by assumption, by assumption⟩).symm⟩
              | exact ⟨⟨bXI.rfl', bXL.rfl'⟩, hZ, (jjN_f (fun z => by first | exact absurd z.1.1 (by assumption) | exact absurd z.1.2.1 (by assumption) | exact absurd z.1.2.2 (by assumption) | exact absurd z.2.1 (by assumption) | exact absurd z.2.2 (by assumption))).symm⟩
          · replace h43 := px_bf h43 c46
            refine px_riS rfl q_X11_ways_49 rfl rfl rfl hg rfl trivial ⟨⟨rfl, rfl⟩, ?_⟩
            first
              | exact ⟨⟨h62c.b.trans h73.1.b, h62d.b.trans h73.2.1.b⟩, h73.2.2.1, h73.2.2.2.trans (jjN_t ⟨⟨by assumption, by assumption, by assumption⟩, by assumption, by assumption⟩).symm⟩
              | exact ⟨⟨bXI.rfl', bXL.rfl'⟩, hZ, (jjN_f (fun z => by first | exact absurd z.1.1 (by assumption) | exact absurd z.1.2.1 (by assumption) | exact absurd z.1.2.2 (by assumption) | exact absurd z.2.1 (by assumption) | exact absurd z.2.2 (by assumption))).symm⟩
      · replace h18 := px_bf h18 c21
        refine px_riS rfl q_X11_ways_24 rfl rfl rfl hg rfl trivial ⟨⟨rfl, rfl⟩, ?_⟩
        first
          | exact ⟨⟨h62c.b.trans h73.1.b, h62d.b.trans h73.2.1.b⟩, h73.2.2.1, h73.2.2.2.trans (jjN_t ⟨⟨by assumption, by assumption, by assumption⟩, by assumption, by assumption⟩).symm⟩
          | exact ⟨⟨bXI.rfl', bXL.rfl'⟩, hZ, (jjN_f (fun z => by first | exact absurd z.1.1 (by assumption) | exact absurd z.1.2.1 (by assumption) | exact absurd z.1.2.2 (by assumption) | exact absurd z.2.1 (by assumption) | exact absurd z.2.2 (by assumption))).symm⟩
