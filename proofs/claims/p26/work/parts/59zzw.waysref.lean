set_option maxRecDepth 100000 in
theorem lx_ways72 {n : Nat} {R : px_R} (hg : px_G n R) {Q : px_Q} (a f b t x i : Int32) (hi : 0 ≤ i ∧ i < 6) {I0 : px_I} (L0 : px_L) (hS : mS I0) {Z : Nat → zL} (hZ : mHas I0 Z) {c0 : Int32} (hq : ∀ I2 L2, mXI I0 I2 → mXL L0 L2 → px M_X12_ways 0 0 62 [(0, .ref 103), (1, .int a), (2, .int f), (3, .int b), (4, .int t), (5, .int x), (6, .int (c0 + wB (kPr I0 Z a f b t x) i 6)), (7, .int (i + 1))] [] n I2 L2 R Q) : ∀ k : Int32, k ≤ 6 → 0 ≤ k → ∀ (c : Int32) (I1 : px_I) (L1 : px_L), c = c0 + wB (kPr I0 Z a f b t x) i k.toNatClampNeg → mXI I0 I1 → mXL L0 L1 → px M_X12_ways 0 0 72 [(0, .ref 103), (1, .int a), (2, .int f), (3, .int b), (4, .int t), (5, .int x), (6, .int c), (7, .int i), (8, .int k)] [] n I1 L1 R Q := by
  refine px_up 6 (fun k ih hk => ?_)
  intro h0 c I1 L1 hc hI hL
  have hS1 := hI.S hS
  have hZ1 := hI.H hZ
  have en : ∀ j, I1 129 j = I0 129 j := fun j => hI 129 j (by decide) (by decide) (by omega)
  refine px_ige rfl q_X12_ways_72 hg rfl trivial (fun c76 => ?_) (fun c76 => ?_)
  · refine px_b rfl q_X12_ways_143 hg rfl trivial ?_
    have e6 : k = 6 := by grind
    subst e6
    have hc6 : c = c0 + wB (kPr I0 Z a f b t x) i 6 := by rw [hc, show (6 : Int32).toNatClampNeg = 6 by decide]
    subst hc6
    exact px_go (hq _ _ hI hL) ⟨rfl, rfl, rfl, rfl, rfl, rfl, rfl, rfl, trivial⟩
  · refine px_ine rfl q_X12_ways_79 hg rfl ⟨trivial, (by first | decide | (refine ⟨?_, ?_⟩ <;> grind) | grind)⟩ (fun c89 => ?_) (fun c89 => ?_)
    · refine px_b rfl q_X12_ways_133 hg rfl trivial ?_
      have hk6 : k < 6 := by grind
      first
        | exact px_go (ih (k + 1) (by grind) (by grind) (by grind) _ _ _ (by rw [hc, wB_f h0 hk6 (fun z => by have z1 := z.1; rw [← en] at z1; exact absurd z1 (by assumption)), Int32.add_zero]) hI hL) ⟨rfl, rfl, rfl, rfl, rfl, rfl, rfl, rfl, rfl, trivial⟩
        | exact px_go (ih (k + 1) (by grind) (by grind) (by grind) _ _ _ (by rw [hc, wB_f h0 hk6 (fun z => by have z1 := z.2.1; rw [← en] at z1; exact absurd z1 (by assumption)), Int32.add_zero]) hI hL) ⟨rfl, rfl, rfl, rfl, rfl, rfl, rfl, rfl, rfl, trivial⟩
        | exact px_go (ih (k + 1) (by grind) (by grind) (by grind) _ _ _ (by rw [hc, wB_f h0 hk6 (fun z => absurd ((h121.2.trans (kFt_same hI _ _ _ _)).trans z.2.2) (by assumption)), Int32.add_zero]) (hI.trans h121.1.1) (hL.trans h121.1.2)) ⟨rfl, rfl, rfl, rfl, rfl, rfl, rfl, rfl, rfl, trivial⟩
        | exact px_go (ih (k + 1) (by grind) (by grind) (by grind) _ _ _ (by rw [hc, wB_t h0 hk6 ⟨by rw [← en]; assumption, by rw [← en]; assumption, by rw [← kFt_same hI, ← h121.2]; assumption⟩, Int32.add_assoc]) (hI.trans h121.1.1) (hL.trans h121.1.2)) ⟨rfl, rfl, rfl, rfl, rfl, rfl, rfl, rfl, rfl, trivial⟩
    · refine px_ine rfl q_X12_ways_92 hg rfl ⟨trivial, (by first | decide | (refine ⟨?_, ?_⟩ <;> grind) | grind)⟩ (fun c100 => ?_) (fun c100 => ?_)
      · refine px_b rfl q_X12_ways_133 hg rfl trivial ?_
        have hk6 : k < 6 := by grind
        first
          | exact px_go (ih (k + 1) (by grind) (by grind) (by grind) _ _ _ (by rw [hc, wB_f h0 hk6 (fun z => by have z1 := z.1; rw [← en] at z1; exact absurd z1 (by assumption)), Int32.add_zero]) hI hL) ⟨rfl, rfl, rfl, rfl, rfl, rfl, rfl, rfl, rfl, trivial⟩
          | exact px_go (ih (k + 1) (by grind) (by grind) (by grind) _ _ _ (by rw [hc, wB_f h0 hk6 (fun z => by have z1 := z.2.1; rw [← en] at z1; exact absurd z1 (by assumption)), Int32.add_zero]) hI hL) ⟨rfl, rfl, rfl, rfl, rfl, rfl, rfl, rfl, rfl, trivial⟩
          | exact px_go (ih (k + 1) (by grind) (by grind) (by grind) _ _ _ (by rw [hc, wB_f h0 hk6 (fun z => absurd ((h121.2.trans (kFt_same hI _ _ _ _)).trans z.2.2) (by assumption)), Int32.add_zero]) (hI.trans h121.1.1) (hL.trans h121.1.2)) ⟨rfl, rfl, rfl, rfl, rfl, rfl, rfl, rfl, rfl, trivial⟩
          | exact px_go (ih (k + 1) (by grind) (by grind) (by grind) _ _ _ (by rw [hc, wB_t h0 hk6 ⟨by rw [← en]; assumption, by rw [← en]; assumption, by rw [← kFt_same hI, ← h121.2]; assumption⟩, Int32.add_assoc]) (hI.trans h121.1.1) (hL.trans h121.1.2)) ⟨rfl, rfl, rfl, rfl, rfl, rfl, rfl, rfl, rfl, trivial⟩
      · refine px_cVS (ci := 12) rfl q_X12_ways_103 hg rfl trivial lk_12_438 nm_X12_fits (kx_fits hg _ _ _ _ hS1 hZ1) rfl rfl (px_lit hg rfl) rfl rfl rfl ⟨rfl, rfl⟩ ?_
        intro x121 I121 L121 h121
        refine px_ine rfl q_X12_ways_124 hg rfl trivial (fun c126 => ?_) (fun c126 => ?_)
        · refine px_b rfl q_X12_ways_133 hg rfl trivial ?_
          have hk6 : k < 6 := by grind
          first
            | exact px_go (ih (k + 1) (by grind) (by grind) (by grind) _ _ _ (by rw [hc, wB_f h0 hk6 (fun z => by have z1 := z.1; rw [← en] at z1; exact absurd z1 (by assumption)), Int32.add_zero]) hI hL) ⟨rfl, rfl, rfl, rfl, rfl, rfl, rfl, rfl, rfl, trivial⟩
            | exact px_go (ih (k + 1) (by grind) (by grind) (by grind) _ _ _ (by rw [hc, wB_f h0 hk6 (fun z => by have z1 := z.2.1; rw [← en] at z1; exact absurd z1 (by assumption)), Int32.add_zero]) hI hL) ⟨rfl, rfl, rfl, rfl, rfl, rfl, rfl, rfl, rfl, trivial⟩
            | exact px_go (ih (k + 1) (by grind) (by grind) (by grind) _ _ _ (by rw [hc, wB_f h0 hk6 (fun z => absurd ((h121.2.trans (kFt_same hI _ _ _ _)).trans z.2.2) (by assumption)), Int32.add_zero]) (hI.trans h121.1.1) (hL.trans h121.1.2)) ⟨rfl, rfl, rfl, rfl, rfl, rfl, rfl, rfl, rfl, trivial⟩
            | exact px_go (ih (k + 1) (by grind) (by grind) (by grind) _ _ _ (by rw [hc, wB_t h0 hk6 ⟨by rw [← en]; assumption, by rw [← en]; assumption, by rw [← kFt_same hI, ← h121.2]; assumption⟩, Int32.add_assoc]) (hI.trans h121.1.1) (hL.trans h121.1.2)) ⟨rfl, rfl, rfl, rfl, rfl, rfl, rfl, rfl, rfl, trivial⟩
        · refine px_b rfl q_X12_ways_129 hg rfl trivial ?_
          have hk6 : k < 6 := by grind
          first
            | exact px_go (ih (k + 1) (by grind) (by grind) (by grind) _ _ _ (by rw [hc, wB_f h0 hk6 (fun z => by have z1 := z.1; rw [← en] at z1; exact absurd z1 (by assumption)), Int32.add_zero]) hI hL) ⟨rfl, rfl, rfl, rfl, rfl, rfl, rfl, rfl, rfl, trivial⟩
            | exact px_go (ih (k + 1) (by grind) (by grind) (by grind) _ _ _ (by rw [hc, wB_f h0 hk6 (fun z => by have z1 := z.2.1; rw [← en] at z1; exact absurd z1 (by assumption)), Int32.add_zero]) hI hL) ⟨rfl, rfl, rfl, rfl, rfl, rfl, rfl, rfl, rfl, trivial⟩
            | exact px_go (ih (k + 1) (by grind) (by grind) (by grind) _ _ _ (by rw [hc, wB_f h0 hk6 (fun z => absurd ((h121.2.trans (kFt_same hI _ _ _ _)).trans z.2.2) (by assumption)), Int32.add_zero]) (hI.trans h121.1.1) (hL.trans h121.1.2)) ⟨rfl, rfl, rfl, rfl, rfl, rfl, rfl, rfl, rfl, trivial⟩
            | exact px_go (ih (k + 1) (by grind) (by grind) (by grind) _ _ _ (by rw [hc, wB_t h0 hk6 ⟨by rw [← en]; assumption, by rw [← en]; assumption, by rw [← kFt_same hI, ← h121.2]; assumption⟩, Int32.add_assoc]) (hI.trans h121.1.1) (hL.trans h121.1.2)) ⟨rfl, rfl, rfl, rfl, rfl, rfl, rfl, rfl, rfl, trivial⟩

set_option maxRecDepth 100000 in
theorem lx_ways62 {n : Nat} {R : px_R} (hg : px_G n R) {Q : px_Q} (a f b t x : Int32) {I0 : px_I} (L0 : px_L) (hS : mS I0) {Z : Nat → zL} (hZ : mHas I0 Z) (hq : ∀ I2 L2, mXI I0 I2 → mXL L0 L2 → Q (some (.int (wA (kPr I0 Z a f b t x) 6))) n I2 L2 R) : ∀ i : Int32, i ≤ 6 → 0 ≤ i → ∀ (c : Int32) (I1 : px_I) (L1 : px_L), c = wA (kPr I0 Z a f b t x) i.toNatClampNeg → mXI I0 I1 → mXL L0 L1 → px M_X12_ways 0 0 62 [(0, .ref 103), (1, .int a), (2, .int f), (3, .int b), (4, .int t), (5, .int x), (6, .int c), (7, .int i)] [] n I1 L1 R Q := by
  refine px_up 6 (fun i ih hi => ?_)
  intro h0 c I1 L1 hc hI hL
  refine px_ige rfl q_X12_ways_62 hg rfl trivial (fun c66 => ?_) (fun c66 => ?_)
  · refine px_ri rfl q_X12_ways_149 rfl rfl rfl hg rfl trivial ?_
    have e6 : i = 6 := by grind
    subst e6
    have hc6 : c = wA (kPr I0 Z a f b t x) 6 := by rw [hc, show (6 : Int32).toNatClampNeg = 6 by decide]
    subst hc6
    exact hq _ _ hI hL
  · refine px_b rfl q_X12_ways_69 hg rfl trivial ?_
    have hi6 : i < 6 := by grind
    exact px_go (lx_ways72 hg a f b t x i ⟨h0, hi6⟩ L0 hS hZ (c0 := c) (fun I2 L2 h1 h2 => ih (i + 1) (by grind) (by grind) (by grind) _ I2 L2 (by rw [wA_s h0 hi6, ← hc]) h1 h2) 0 (by decide) (by decide) c I1 L1 (by rw [xz0]; exact (Int32.add_zero c).symm) hI hL) ⟨rfl, rfl, rfl, rfl, rfl, rfl, rfl, rfl, rfl, trivial⟩

set_option maxRecDepth 100000 in
theorem kx_ways {n : Nat} {I : px_I} {L : px_L} {R : px_R} (hg : px_G n R) (a f b t x : Int32) (hS : mS I) {Z : Nat → zL} (hZ : mHas I Z) : px_KS M_X12_ways [.ref 103, .int a, .int f, .int b, .int t, .int x] n I L R (fun r I2 L2 => (mXI I I2 ∧ mXL L L2) ∧ r = kWs I Z a f b t x) := by
  refine px_of (plainFor_of_name np_RX12) (fun _ _ _ => trivial) rfl ?_
  refine px_cSP rfl q_X12_ways_0 hg rfl trivial lk_12_167 nm_X12_in (k_inI hg _ (0) (15) (by decide) (by decide)) rfl rfl rfl ⟨rfl, rfl⟩ ?_
  intro x6 h6
  refine px_eq rfl q_X12_ways_9 hg rfl trivial (fun c9 => ?_) (fun c9 => ?_)
  · replace h6 := px_bf h6 c9
    refine px_riS rfl q_X12_ways_54 rfl rfl rfl hg rfl trivial ⟨⟨rfl, rfl⟩, ?_⟩
    exact ⟨⟨mXI.rfl', mXL.rfl'⟩, (jjN_f (fun z => by first | exact absurd z.1 (by assumption) | exact absurd z.2.1 (by assumption) | exact absurd z.2.2.1 (by assumption) | exact absurd z.2.2.2.1 (by assumption) | exact absurd z.2.2.2.2 (by assumption))).symm⟩
  · replace h6 := px_bt h6 c9
    refine px_cSP rfl q_X12_ways_12 hg rfl trivial lk_12_167 nm_X12_in (k_inI hg _ (0) (15) (by decide) (by decide)) rfl rfl rfl ⟨rfl, rfl⟩ ?_
    intro x18 h18
    refine px_eq rfl q_X12_ways_21 hg rfl trivial (fun c21 => ?_) (fun c21 => ?_)
    · replace h18 := px_bf h18 c21
      refine px_riS rfl q_X12_ways_54 rfl rfl rfl hg rfl trivial ⟨⟨rfl, rfl⟩, ?_⟩
      exact ⟨⟨mXI.rfl', mXL.rfl'⟩, (jjN_f (fun z => by first | exact absurd z.1 (by assumption) | exact absurd z.2.1 (by assumption) | exact absurd z.2.2.1 (by assumption) | exact absurd z.2.2.2.1 (by assumption) | exact absurd z.2.2.2.2 (by assumption))).symm⟩
    · replace h18 := px_bt h18 c21
      refine px_cVP (ci := 12) rfl q_X12_ways_24 hg rfl trivial lk_12_184 nm_X12_isStation (k_isStation hg _) rfl rfl (px_lit hg rfl) rfl rfl rfl ⟨rfl, rfl⟩ ?_
      intro x26 h26
      refine px_eq rfl q_X12_ways_29 hg rfl trivial (fun c29 => ?_) (fun c29 => ?_)
      · replace h26 := px_bf h26 c29
        refine px_riS rfl q_X12_ways_54 rfl rfl rfl hg rfl trivial ⟨⟨rfl, rfl⟩, ?_⟩
        exact ⟨⟨mXI.rfl', mXL.rfl'⟩, (jjN_f (fun z => by first | exact absurd z.1 (by assumption) | exact absurd z.2.1 (by assumption) | exact absurd z.2.2.1 (by assumption) | exact absurd z.2.2.2.1 (by assumption) | exact absurd z.2.2.2.2 (by assumption))).symm⟩
      · replace h26 := px_bt h26 c29
        refine px_cVP (ci := 12) rfl q_X12_ways_32 hg rfl trivial lk_12_184 nm_X12_isStation (k_isStation hg _) rfl rfl (px_lit hg rfl) rfl rfl rfl ⟨rfl, rfl⟩ ?_
        intro x35 h35
        refine px_eq rfl q_X12_ways_38 hg rfl trivial (fun c38 => ?_) (fun c38 => ?_)
        · replace h35 := px_bf h35 c38
          refine px_riS rfl q_X12_ways_54 rfl rfl rfl hg rfl trivial ⟨⟨rfl, rfl⟩, ?_⟩
          exact ⟨⟨mXI.rfl', mXL.rfl'⟩, (jjN_f (fun z => by first | exact absurd z.1 (by assumption) | exact absurd z.2.1 (by assumption) | exact absurd z.2.2.1 (by assumption) | exact absurd z.2.2.2.1 (by assumption) | exact absurd z.2.2.2.2 (by assumption))).symm⟩
        · replace h35 := px_bt h35 c38
          refine px_cSP rfl q_X12_ways_41 hg rfl trivial lk_12_167 nm_X12_in (k_inI hg _ (0) (2) (by decide) (by decide)) rfl rfl rfl ⟨rfl, rfl⟩ ?_
          intro x48 h48
          refine px_ne rfl q_X12_ways_51 hg rfl trivial (fun c51 => ?_) (fun c51 => ?_)
          · replace h48 := px_bt h48 c51
            refine px_b rfl q_X12_ways_56 hg rfl trivial ?_
            exact px_go (lx_ways62 hg a f b t x L hS hZ (fun I2 L2 h1 h2 => ⟨rfl, rfl, _, rfl, ⟨h1, h2⟩, (jjN_t ⟨by assumption, by assumption, by assumption, by assumption, by assumption⟩).symm⟩) 0 (by decide) (by decide) 0 I L (by rw [xz0]; rfl) mXI.rfl' mXL.rfl') ⟨rfl, rfl, rfl, rfl, rfl, rfl, rfl, rfl, trivial⟩
          · replace h48 := px_bf h48 c51
            refine px_riS rfl q_X12_ways_54 rfl rfl rfl hg rfl trivial ⟨⟨rfl, rfl⟩, ?_⟩
            exact ⟨⟨mXI.rfl', mXL.rfl'⟩, (jjN_f (fun z => by first | exact absurd z.1 (by assumption) | exact absurd z.2.1 (by assumption) | exact absurd z.2.2.1 (by assumption) | exact absurd z.2.2.2.1 (by assumption) | exact absurd z.2.2.2.2 (by assumption))).symm⟩
