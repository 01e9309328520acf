/-! an order of the class's, exactly -/
def cFl (k v a : Int32) (I : px_I) (L : px_L) (r : Int32) (I2 : px_I) (L2 : px_L) : Prop :=
  (0 ≤ k ∧ k ≤ 5 → r = a + 1 ∧ I2 86 2 = I 86 2 ∧ I2 87 = I 87 ∧ I2 88 = I 88 ∧ (I2 86 17 = 1 ↔ cNear L2) ∧ (0 ≤ I 86 16 → I 86 16 ≤ 1000000 → cV I2 L2 = rSt (cTl I) (k + 1) v (cV I L))) ∧
  (k = 6 → I 86 2 < 80 → r = a + 1 ∧ L2 = L ∧ I2 = px_u (px_u (px_u I 87 (I 86 2).toNatClampNeg (a + 1)) 88 (I 86 2).toNatClampNeg v) 86 2 (I 86 2 + 1)) ∧
  (k = 7 → 1 ≤ I 86 2 → L2 = L ∧ ((0 < I 88 (I 86 2 - 1).toNatClampNeg - 1 ∧ r = I 87 (I 86 2 - 1).toNatClampNeg ∧ I2 = px_u I 88 (I 86 2 - 1).toNatClampNeg (I 88 (I 86 2 - 1).toNatClampNeg - 1)) ∨ (¬ 0 < I 88 (I 86 2 - 1).toNatClampNeg - 1 ∧ r = a + 1 ∧ I2 = px_u (px_u I 88 (I 86 2 - 1).toNatClampNeg (I 88 (I 86 2 - 1).toNatClampNeg - 1)) 86 2 (I 86 2 - 1)))) ∧
  (k = 8 → I 86 2 < 80 → r = v ∧ L2 = L ∧ I2 = px_u (px_u (px_u I 87 (I 86 2).toNatClampNeg (a + 1)) 88 (I 86 2).toNatClampNeg 0) 86 2 (I 86 2 + 1)) ∧
  (k = 9 → 1 ≤ I 86 2 → L2 = L ∧ r = I 87 (I 86 2 - 1).toNatClampNeg ∧ I2 = px_u I 86 2 (I 86 2 - 1)) ∧
  (k = 10 → r = v ∧ L2 = L ∧ I2 = I)

set_option maxRecDepth 100000 in
theorem cs_push {n : Nat} {I : px_I} {L : px_L} {R : px_R} (hg : px_G n R) (p t : Int32) (h : cWk I) : px_KV M_X9_push [.ref 86, .int p, .int t] n I L R (fun I2 L2 => L2 = L ∧ cWk I2 ∧ cWI I I2 ∧ (I 86 2 < 80 → I2 = px_u (px_u (px_u I 87 (I 86 2).toNatClampNeg p) 88 (I 86 2).toNatClampNeg t) 86 2 (I 86 2 + 1))) := by
  refine px_of (plainFor_of_name np_RX9) (fun _ _ _ => trivial) rfl ?_
  have hk := h
  unfold cWk at h
  refine px_ige rfl q_X9_push_0 hg rfl trivial (fun c6 => ?_) (fun c6 => ?_)
  · refine px_rvW rfl q_X9_push_42 rfl rfl rfl hg rfl ⟨trivial, (by first | exact Or.inl rfl | (refine ⟨?_, ?_⟩ <;> grind))⟩ ⟨⟨rfl, rfl⟩, ?_⟩
    exact ⟨rfl, by unfold cWk; first | exact h | (simp [px_ur]; grind), (by repeat (first | exact cWI.rfl' | with_reducible assumption | refine cWI.a7 ?_ _ _ | refine cWI.a8 ?_ _ _ | refine cWI.f ?_ _ _ (by decide))), fun z => by first | exact absurd z (by assumption) | exact absurd (by assumption) (Int32.not_le.mpr z) | simp [px_ur]⟩
  · refine px_rvW rfl q_X9_push_9 rfl rfl rfl hg rfl ⟨⟨trivial, (by first | exact Or.inl rfl | (refine ⟨?_, ?_⟩ <;> grind))⟩, (by first | exact Or.inl rfl | (refine ⟨?_, ?_⟩ <;> grind))⟩ ⟨⟨rfl, rfl⟩, ?_⟩
    exact ⟨rfl, by unfold cWk; first | exact h | (simp [px_ur]; grind), (by repeat (first | exact cWI.rfl' | with_reducible assumption | refine cWI.a7 ?_ _ _ | refine cWI.a8 ?_ _ _ | refine cWI.f ?_ _ _ (by decide))), fun z => by first | exact absurd z (by assumption) | exact absurd (by assumption) (Int32.not_le.mpr z) | simp [px_ur]⟩

set_option maxRecDepth 100000 in
theorem cs_turnBack {n : Nat} {I : px_I} {L : px_L} {R : px_R} (hg : px_G n R) (a : Int32) (h : cWk I) : px_KS M_X9_turnBack [.ref 86, .int a] n I L R (fun r I2 L2 => L2 = L ∧ cWk I2 ∧ cWI I I2 ∧ (1 ≤ I 86 2 → (0 < I 88 (I 86 2 - 1).toNatClampNeg - 1 ∧ r = I 87 (I 86 2 - 1).toNatClampNeg ∧ I2 = px_u I 88 (I 86 2 - 1).toNatClampNeg (I 88 (I 86 2 - 1).toNatClampNeg - 1)) ∨ (¬ 0 < I 88 (I 86 2 - 1).toNatClampNeg - 1 ∧ r = a + 1 ∧ I2 = px_u (px_u I 88 (I 86 2 - 1).toNatClampNeg (I 88 (I 86 2 - 1).toNatClampNeg - 1)) 86 2 (I 86 2 - 1)))) := by
  refine px_of (plainFor_of_name np_RX9) (fun _ _ _ => trivial) rfl ?_
  have hk := h
  unfold cWk at h
  refine px_cSNP rfl q_X9_turnBack_0 hg rfl trivial lk_9_78 nm_X11_within (c_within hg _ _ _) rfl rfl rfl ⟨rfl, rfl⟩ ?_
  intro x11 h11
  refine px_ne rfl q_X9_turnBack_14 hg rfl trivial (fun c14 => ?_) (fun c14 => ?_)
  · replace h11 := px_bt h11 c14
    refine px_le rfl q_X9_turnBack_21 hg rfl ⟨⟨⟨trivial, (by first | with_reducible assumption | (refine ⟨?_, ?_⟩ <;> grind))⟩, (by first | with_reducible assumption | (refine ⟨?_, ?_⟩ <;> grind))⟩, (by first | with_reducible assumption | (refine ⟨?_, ?_⟩ <;> grind))⟩ (fun c37 => ?_) (fun c37 => ?_)
    · refine px_riS rfl q_X9_turnBack_47 rfl rfl rfl hg rfl trivial ⟨⟨rfl, rfl⟩, ?_⟩
      refine ⟨rfl, by unfold cWk; first | exact h | (simp [px_ur]; grind), (by repeat (first | exact cWI.rfl' | with_reducible assumption | refine cWI.a7 ?_ _ _ | refine cWI.a8 ?_ _ _ | refine cWI.f ?_ _ _ (by decide))), fun z => ?_⟩
      first | (exfalso; grind; done) | (refine Or.inl ⟨by first | assumption | (simp [px_ur] at *; grind), by first | rfl | simp [px_ur], by first | rfl | simp [px_ur]⟩; done) | (refine Or.inr ⟨by first | assumption | (simp [px_ur] at *; grind), by first | rfl | simp [px_ur], by first | rfl | simp [px_ur]⟩)
    · refine px_riS rfl q_X9_turnBack_40 rfl rfl rfl hg rfl ⟨trivial, (by first | with_reducible assumption | (refine ⟨?_, ?_⟩ <;> grind))⟩ ⟨⟨rfl, rfl⟩, ?_⟩
      refine ⟨rfl, by unfold cWk; first | exact h | (simp [px_ur]; grind), (by repeat (first | exact cWI.rfl' | with_reducible assumption | refine cWI.a7 ?_ _ _ | refine cWI.a8 ?_ _ _ | refine cWI.f ?_ _ _ (by decide))), fun z => ?_⟩
      first | (exfalso; grind; done) | (refine Or.inl ⟨by first | assumption | (simp [px_ur] at *; grind), by first | rfl | simp [px_ur], by first | rfl | simp [px_ur]⟩; done) | (refine Or.inr ⟨by first | assumption | (simp [px_ur] at *; grind), by first | rfl | simp [px_ur], by first | rfl | simp [px_ur]⟩)
  · replace h11 := px_bf h11 c14
    refine px_riS rfl q_X9_turnBack_17 rfl rfl rfl hg rfl trivial ⟨⟨rfl, rfl⟩, ?_⟩
    refine ⟨rfl, by unfold cWk; first | exact h | (simp [px_ur]; grind), (by repeat (first | exact cWI.rfl' | with_reducible assumption | refine cWI.a7 ?_ _ _ | refine cWI.a8 ?_ _ _ | refine cWI.f ?_ _ _ (by decide))), fun z => ?_⟩
    first | (exfalso; grind; done) | (refine Or.inl ⟨by first | assumption | (simp [px_ur] at *; grind), by first | rfl | simp [px_ur], by first | rfl | simp [px_ur]⟩; done) | (refine Or.inr ⟨by first | assumption | (simp [px_ur] at *; grind), by first | rfl | simp [px_ur], by first | rfl | simp [px_ur]⟩)

set_option maxRecDepth 100000 in
theorem cs_pop {n : Nat} {I : px_I} {L : px_L} {R : px_R} (hg : px_G n R) (a : Int32) (h : cWk I) : px_KS M_X9_pop [.ref 86, .int a] n I L R (fun r I2 L2 => L2 = L ∧ cWk I2 ∧ cWI I I2 ∧ (1 ≤ I 86 2 → r = I 87 (I 86 2 - 1).toNatClampNeg ∧ I2 = px_u I 86 2 (I 86 2 - 1))) := by
  refine px_of (plainFor_of_name np_RX9) (fun _ _ _ => trivial) rfl ?_
  have hk := h
  unfold cWk at h
  refine px_cSNP rfl q_X9_pop_0 hg rfl trivial lk_9_78 nm_X11_within (c_within hg _ _ _) rfl rfl rfl ⟨rfl, rfl⟩ ?_
  intro x11 h11
  refine px_ne rfl q_X9_pop_14 hg rfl trivial (fun c14 => ?_) (fun c14 => ?_)
  · replace h11 := px_bt h11 c14
    refine px_riS rfl q_X9_pop_21 rfl rfl rfl hg rfl ⟨trivial, (by first | with_reducible assumption | (refine ⟨?_, ?_⟩ <;> grind))⟩ ⟨⟨rfl, rfl⟩, ?_⟩
    refine ⟨rfl, by unfold cWk; first | exact h | (simp [px_ur]; grind), (by repeat (first | exact cWI.rfl' | with_reducible assumption | refine cWI.a7 ?_ _ _ | refine cWI.a8 ?_ _ _ | refine cWI.f ?_ _ _ (by decide))), fun z => ?_⟩
    first | (exfalso; grind; done) | exact ⟨by first | rfl | simp [px_ur], by first | rfl | simp [px_ur]⟩
  · replace h11 := px_bf h11 c14
    refine px_riS rfl q_X9_pop_17 rfl rfl rfl hg rfl trivial ⟨⟨rfl, rfl⟩, ?_⟩
    refine ⟨rfl, by unfold cWk; first | exact h | (simp [px_ur]; grind), (by repeat (first | exact cWI.rfl' | with_reducible assumption | refine cWI.a7 ?_ _ _ | refine cWI.a8 ?_ _ _ | refine cWI.f ?_ _ _ (by decide))), fun z => ?_⟩
    first | (exfalso; grind; done) | exact ⟨by first | rfl | simp [px_ur], by first | rfl | simp [px_ur]⟩

set_option maxRecDepth 100000 in
theorem cs_follow {n : Nat} {I : px_I} {L : px_L} {R : px_R} (hg : px_G n R) (k v a : Int32) (h : cWk I) (hv : 0 ≤ v ∧ v ≤ 1000000) : px_KS M_X9_follow [.ref 86, .int k, .int v, .int a] n I L R (fun r I2 L2 => cWk I2 ∧ cWI I I2 ∧ cWL L L2 ∧ cFl k v a I L r I2 L2) := by
  refine px_of (plainFor_of_name np_RX9) (fun _ _ _ => trivial) rfl ?_
  refine px_b rfl q_X9_follow_0 hg rfl trivial ?_
  by_cases s1_6 : k = 6
  · refine px_swI (tgt := 36) (off := 35) q_X9_follow_1S s1_6 (by decide) (by decide) (by decide) (by decide) ?_
    refine px_cVW (ci := 9) rfl q_X9_follow_36 hg rfl trivial lk_9_94 nm_X9_push (cs_push hg _ _ (by assumption)) rfl rfl (px_lit hg rfl) rfl rfl rfl ⟨rfl, rfl⟩ ?_
    intro I41 L41 h41
    refine px_riS rfl q_X9_follow_44 rfl rfl rfl hg rfl trivial ⟨⟨rfl, rfl⟩, ?_⟩
    obtain ⟨rfl, a1, a2, a3⟩ := h41
    exact ⟨a1, a2, cWL.rfl', by unfold cFl; exact ⟨fun z => by grind, fun _ _ => ⟨rfl, rfl, a3 (by assumption)⟩, fun z => by grind, fun z => by grind, fun z => by grind, fun z => by grind⟩⟩
  by_cases s1_7 : k = 7
  · refine px_swI (tgt := 48) (off := 47) q_X9_follow_1S s1_7 (by decide) (by decide) (by decide) (by decide) ?_
    refine px_cVS (ci := 9) rfl q_X9_follow_48 hg rfl trivial lk_9_98 nm_X9_turnBack (cs_turnBack hg _ (by assumption)) rfl rfl (px_lit hg rfl) rfl rfl rfl ⟨rfl, rfl⟩ ?_
    intro x50 I50 L50 h50
    refine px_riS rfl q_X9_follow_53 rfl rfl rfl hg rfl trivial ⟨⟨rfl, rfl⟩, ?_⟩
    obtain ⟨rfl, a1, a2, a3⟩ := h50
    exact ⟨a1, a2, cWL.rfl', by unfold cFl; exact ⟨fun z => by grind, fun z => by grind, fun _ z => ⟨rfl, a3 z⟩, fun z => by grind, fun z => by grind, fun z => by grind⟩⟩
  by_cases s1_8 : k = 8
  · refine px_swI (tgt := 54) (off := 53) q_X9_follow_1S s1_8 (by decide) (by decide) (by decide) (by decide) ?_
    refine px_cVW (ci := 9) rfl q_X9_follow_54 hg rfl trivial lk_9_94 nm_X9_push (cs_push hg _ _ (by assumption)) rfl rfl (px_lit hg rfl) rfl rfl rfl ⟨rfl, rfl⟩ ?_
    intro I59 L59 h59
    refine px_riS rfl q_X9_follow_62 rfl rfl rfl hg rfl trivial ⟨⟨rfl, rfl⟩, ?_⟩
    obtain ⟨rfl, a1, a2, a3⟩ := h59
    exact ⟨a1, a2, cWL.rfl', by unfold cFl; exact ⟨fun z => by grind, fun z => by grind, fun z => by grind, fun _ _ => ⟨rfl, rfl, a3 (by assumption)⟩, fun z => by grind, fun z => by grind⟩⟩
  by_cases s1_9 : k = 9
  · refine px_swI (tgt := 64) (off := 63) q_X9_follow_1S s1_9 (by decide) (by decide) (by decide) (by decide) ?_
    refine px_cVS (ci := 9) rfl q_X9_follow_64 hg rfl trivial lk_9_102 nm_X9_pop (cs_pop hg _ (by assumption)) rfl rfl (px_lit hg rfl) rfl rfl rfl ⟨rfl, rfl⟩ ?_
    intro x66 I66 L66 h66
    refine px_riS rfl q_X9_follow_69 rfl rfl rfl hg rfl trivial ⟨⟨rfl, rfl⟩, ?_⟩
    obtain ⟨rfl, a1, a2, a3⟩ := h66
    exact ⟨a1, a2, cWL.rfl', by unfold cFl; exact ⟨fun z => by grind, fun z => by grind, fun z => by grind, fun z => by grind, fun _ z => ⟨rfl, (a3 z).1, (a3 z).2⟩, fun z => by grind⟩⟩
  by_cases s1_10 : k = 10
  · refine px_swI (tgt := 70) (off := 69) q_X9_follow_1S s1_10 (by decide) (by decide) (by decide) (by decide) ?_
    refine px_riS rfl q_X9_follow_70 rfl rfl rfl hg rfl trivial ⟨⟨rfl, rfl⟩, ?_⟩
    exact ⟨h, cWI.rfl', cWL.rfl', by unfold cFl; refine ⟨fun z => by grind, fun z => by grind, fun z => by grind, fun z => by grind, fun z => by grind, fun _ => ⟨rfl, rfl, rfl⟩⟩⟩
  refine px_swO (tgt := 72) q_X9_follow_1S (px_out 6 10 (by decide) (fun k9 h8 h9 => ?_)) (by decide) ?_
  · match k9, h8, h9 with
    | 6, _, _ => exact s1_6
    | 7, _, _ => exact s1_7
    | 8, _, _ => exact s1_8
    | 9, _, _ => exact s1_9
    | 10, _, _ => exact s1_10
    | 0, h8, _ => exact absurd h8 (by decide)
    | 1, h8, _ => exact absurd h8 (by decide)
    | 2, h8, _ => exact absurd h8 (by decide)
    | 3, h8, _ => exact absurd h8 (by decide)
    | 4, h8, _ => exact absurd h8 (by decide)
    | 5, h8, _ => exact absurd h8 (by decide)
    | k9 + 11, _, h9 => exact absurd h9 (by omega)
  refine px_cVW (ci := 9) rfl q_X9_follow_72 hg rfl trivial lk_9_105 nm_X9_step (cs_step hg _ _ (by assumption) (by assumption)) rfl rfl (px_lit hg rfl) rfl rfl rfl ⟨rfl, rfl⟩ ?_
  intro I75 L75 h75
  refine px_riS rfl q_X9_follow_78 rfl rfl rfl hg rfl trivial ⟨⟨rfl, rfl⟩, ?_⟩
  obtain ⟨a1, a2, a3, a4, a5, a6, a7, a8⟩ := h75
  exact ⟨a1, a2, a3, by unfold cFl; exact ⟨fun z => ⟨rfl, a4, a5, a6, a7, a8 z⟩, fun z => by grind, fun z => by grind, fun z => by grind, fun z => by grind, fun z => by grind⟩⟩

set_option maxRecDepth 100000 in
theorem cx_one {n : Nat} {R : px_R} {w : Nat} (hg : px_G n R) (hw : cWay n w) {Q : px_Q} (s : Int32) {I : px_I} {L : px_L} (hk : cWk I) (hv : cWv I w) (h17 : I 86 17 = 1) (a i : Int32) (hi : i < 1000000) (ha : 0 ≤ a ∧ a < I w 2) (kk : ∀ r I2 L2, cWk I2 → cWI I I2 → cWL L L2 → cFl (I (w + 1) a.toNatClampNeg) (I (w + 2) a.toNatClampNeg) a I L r I2 L2 → px M_X9_go 0 0 29 [(0, .ref 86), (1, .ref w), (2, .int s), (3, .int (r)), (4, .int (i + 1))] [] n I2 L2 R Q) : px M_X9_go 0 0 29 [(0, .ref 86), (1, .ref w), (2, .int s), (3, .int (a)), (4, .int (i))] [] n I L R Q := by
  skip
  refine px_ige rfl q_X9_go_29 hg rfl trivial (fun c33 => ?_) (fun c33 => ?_)
  · refine px_rv rfl q_X9_go_89 rfl rfl rfl hg rfl trivial ?_
    exfalso
    have := hv.1
    have pz : px_app I [] w 2 = I w 2 := rfl
    grind
  · refine px_eq rfl q_X9_go_36 hg rfl trivial (fun c40 => ?_) (fun c40 => ?_)
    · refine px_rv rfl q_X9_go_89 rfl rfl rfl hg rfl trivial ?_
      exfalso
      have := hv.1
      have pz : px_app I [] w 2 = I w 2 := rfl
      grind
    · refine px_cSNP rfl q_X9_go_43 hg rfl ⟨trivial, (by first | exact hw.1 | exact hw.2.1 | exact hw.2.2 | with_reducible assumption)⟩ lk_9_78 nm_X11_within (c_within hg _ _ _) rfl rfl rfl ⟨rfl, rfl⟩ ?_
      intro x51 h51
      refine px_eq rfl q_X9_go_54 hg rfl trivial (fun c54 => ?_) (fun c54 => ?_)
      · replace h51 := px_bf h51 c54
        refine px_rv rfl q_X9_go_64 rfl rfl rfl hg rfl trivial ?_
        exfalso
        have := hv.1
        have pz : px_app I [] w 2 = I w 2 := rfl
        grind
      · replace h51 := px_bt h51 c54
        refine px_ilt rfl q_X9_go_57 hg rfl trivial (fun c61 => ?_) (fun c61 => ?_)
        · have ha9 : 0 ≤ a ∧ a < 200 := by have := hv.1; grind
          have hn := hv.2 a.toNatClampNeg
          refine px_cVS (ci := 9) rfl q_X9_go_65 hg rfl ⟨⟨⟨⟨⟨⟨trivial, (by first | exact hw.1 | exact hw.2.1 | exact hw.2.2 | with_reducible assumption)⟩, (by first | exact hw.1 | exact hw.2.1 | exact hw.2.2 | with_reducible assumption)⟩, (by first | exact hw.1 | exact hw.2.1 | exact hw.2.2 | with_reducible assumption)⟩, (by first | exact hw.1 | exact hw.2.1 | exact hw.2.2 | with_reducible assumption)⟩, (by first | exact hw.1 | exact hw.2.1 | exact hw.2.2 | with_reducible assumption)⟩, (by first | exact hw.1 | exact hw.2.1 | exact hw.2.2 | with_reducible assumption)⟩ lk_9_90 nm_X9_follow (cs_follow hg _ _ _ hk hn) rfl rfl (px_lit hg rfl) rfl rfl rfl ⟨rfl, rfl⟩ ?_
          intro x79 I79 L79 h79
          refine px_b rfl q_X9_go_82 hg rfl trivial ?_
          exact px_go (kk _ _ _ h79.1 h79.2.1 h79.2.2.1 h79.2.2.2) ⟨rfl, rfl, rfl, rfl, rfl, trivial⟩
        · refine px_rv rfl q_X9_go_64 rfl rfl rfl hg rfl trivial ?_
          exfalso
          have := hv.1
          have pz : px_app I [] w 2 = I w 2 := rfl
          grind

set_option maxRecDepth 100000 in
theorem cx_out {n : Nat} {R : px_R} {w : Nat} (hg : px_G n R) (hw : cWay n w) {Q : px_Q} (s : Int32) {I : px_I} {L : px_L} (hv : cWv I w) (a i : Int32) (ho : I 86 17 = 0 ∨ ¬ (0 ≤ a ∧ a < I w 2)) (hq : Q none n I L R) : px M_X9_go 0 0 29 [(0, .ref 86), (1, .ref w), (2, .int s), (3, .int (a)), (4, .int (i))] [] n I L R Q := by
  skip
  refine px_ige rfl q_X9_go_29 hg rfl trivial (fun c33 => ?_) (fun c33 => ?_)
  · refine px_rv rfl q_X9_go_89 rfl rfl rfl hg rfl trivial ?_
    exact hq
  · refine px_eq rfl q_X9_go_36 hg rfl trivial (fun c40 => ?_) (fun c40 => ?_)
    · refine px_rv rfl q_X9_go_89 rfl rfl rfl hg rfl trivial ?_
      exact hq
    · refine px_cSNP rfl q_X9_go_43 hg rfl ⟨trivial, (by first | exact hw.1 | exact hw.2.1 | exact hw.2.2 | with_reducible assumption)⟩ lk_9_78 nm_X11_within (c_within hg _ _ _) rfl rfl rfl ⟨rfl, rfl⟩ ?_
      intro x51 h51
      refine px_eq rfl q_X9_go_54 hg rfl trivial (fun c54 => ?_) (fun c54 => ?_)
      · replace h51 := px_bf h51 c54
        refine px_rv rfl q_X9_go_64 rfl rfl rfl hg rfl trivial ?_
        exact hq
      · exfalso; have pz : px_app I [] w 2 = I w 2 := rfl; rw [pz] at h51; have := hv.1; grind
