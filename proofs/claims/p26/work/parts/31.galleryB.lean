set_option maxRecDepth 100000 in
theorem c_hasPegB {n : Nat} {I : px_I} {L : px_L} {R : px_R} (hg : px_G n R) (p : Int32) : px_KP M_X1_hasPeg [.ref 55, .int p] n I L R (fun r => (r = 1 ∧ (0 ≤ p ∧ p < I 55 13)) ∨ (r = 0 ∧ ¬ (0 ≤ p ∧ p < I 55 13))) := by
  refine px_of (plainFor_of_name np_RX1) (fun _ _ _ => trivial) rfl ?_
  refine px_lt rfl q_X1_hasPeg_0 hg rfl trivial (fun c1 => ?_) (fun c1 => ?_)
  · refine px_rzP rfl q_X1_hasPeg_16 rfl rfl rfl hg rfl trivial ⟨⟨rfl, rfl, rfl, rfl⟩, (by first | exact Or.inl rfl | exact Or.inr rfl | grind), ?_⟩
    grind
  · refine px_ige rfl q_X1_hasPeg_4 hg rfl trivial (fun c9 => ?_) (fun c9 => ?_)
    · refine px_rzP rfl q_X1_hasPeg_16 rfl rfl rfl hg rfl trivial ⟨⟨rfl, rfl, rfl, rfl⟩, (by first | exact Or.inl rfl | exact Or.inr rfl | grind), ?_⟩
      grind
    · refine px_rzP rfl q_X1_hasPeg_12 rfl rfl rfl hg rfl trivial ⟨⟨rfl, rfl, rfl, rfl⟩, (by first | exact Or.inl rfl | exact Or.inr rfl | grind), ?_⟩
      grind

set_option maxRecDepth 100000 in
theorem c_hasReachB {n : Nat} {I : px_I} {L : px_L} {R : px_R} (hg : px_G n R) (p : Int32) : px_KP M_X1_hasReach [.ref 55, .int p] n I L R (fun r => (r = 1 ∧ (1 ≤ p ∧ p < I 55 13)) ∨ (r = 0 ∧ ¬ (1 ≤ p ∧ p < I 55 13))) := by
  refine px_of (plainFor_of_name np_RX1) (fun _ _ _ => trivial) rfl ?_
  refine px_ilt rfl q_X1_hasReach_0 hg rfl trivial (fun c2 => ?_) (fun c2 => ?_)
  · refine px_rzP rfl q_X1_hasReach_17 rfl rfl rfl hg rfl trivial ⟨⟨rfl, rfl, rfl, rfl⟩, (by first | exact Or.inl rfl | exact Or.inr rfl | grind), ?_⟩
    grind
  · refine px_ige rfl q_X1_hasReach_5 hg rfl trivial (fun c10 => ?_) (fun c10 => ?_)
    · refine px_rzP rfl q_X1_hasReach_17 rfl rfl rfl hg rfl trivial ⟨⟨rfl, rfl, rfl, rfl⟩, (by first | exact Or.inl rfl | exact Or.inr rfl | grind), ?_⟩
      grind
    · refine px_rzP rfl q_X1_hasReach_13 rfl rfl rfl hg rfl trivial ⟨⟨rfl, rfl, rfl, rfl⟩, (by first | exact Or.inl rfl | exact Or.inr rfl | grind), ?_⟩
      grind

set_option maxRecDepth 100000 in
theorem c_addPegB {n : Nat} {I : px_I} {L : px_L} {R : px_R} (hg : px_G n R) (st : Int32) (hp : 0 ≤ I 55 13 ∧ I 55 13 < 20) : px_KV M_X1_addPeg [.ref 55, .int st] n I L R (fun I2 L2 => L2 = L ∧ I2 = cPeg 55 I st) := by
  refine px_of (plainFor_of_name np_RX1) (fun _ _ _ => trivial) rfl ?_
  refine px_rvW rfl q_X1_addPeg_0 rfl rfl rfl hg rfl ⟨⟨⟨trivial, (by first | decide | (refine ⟨?_, ?_⟩ <;> grind) | grind)⟩, (by first | decide | (refine ⟨?_, ?_⟩ <;> grind) | grind)⟩, (by first | decide | (refine ⟨?_, ?_⟩ <;> grind) | grind)⟩ ⟨⟨rfl, rfl⟩, ?_⟩
  exact ⟨rfl, rfl⟩

set_option maxRecDepth 100000 in
theorem c_addReachB {n : Nat} {I : px_I} {L : px_L} {R : px_R} (hg : px_G n R) (lo hi sl fa w st : Int32) (hp : 0 ≤ I 55 13 ∧ I 55 13 ≤ 20) : px_KS M_X1_addReach [.ref 55, .int lo, .int hi, .int sl, .int fa, .int w, .int st] n I L R (fun r I2 L2 => L2 = L ∧ ((cReachOk 55 I lo hi sl fa w ∧ r = (if I 55 13 = 0 then 1 else I 55 13) ∧ I2 = cReach 55 I lo hi sl fa w st) ∨ (¬ cReachOk 55 I lo hi sl fa w ∧ r = -1 ∧ I2 = I))) := by
  refine px_of (plainFor_of_name np_RX1) (fun _ _ _ => trivial) rfl ?_
  refine px_cSNP rfl q_X1_addReach_0 hg rfl trivial lk_1_62 nm_X11_ordered (c_ordered hg _ _ _ _) rfl rfl rfl ⟨rfl, rfl⟩ ?_
  intro x5 h5
  refine px_eq rfl q_X1_addReach_8 hg rfl trivial (fun c8 => ?_) (fun c8 => ?_)
  · replace h5 := px_bf h5 c8
    refine px_riS rfl q_X1_addReach_24 rfl rfl rfl hg rfl trivial ⟨⟨rfl, rfl⟩, ?_⟩
    exact ⟨rfl, Or.inr ⟨fun hc => by unfold cReachOk at hc; grind, rfl, rfl⟩⟩
  · replace h5 := px_bt h5 c8
    refine px_cSNP rfl q_X1_addReach_11 hg rfl trivial lk_1_62 nm_X11_ordered (c_ordered hg _ _ _ _) rfl rfl rfl ⟨rfl, rfl⟩ ?_
    intro x18 h18
    refine px_ne rfl q_X1_addReach_21 hg rfl trivial (fun c21 => ?_) (fun c21 => ?_)
    · replace h18 := px_bt h18 c21
      refine px_cSNP rfl q_X1_addReach_26 hg rfl trivial lk_1_66 nm_X11_within (c_within hg _ _ _) rfl rfl rfl ⟨rfl, rfl⟩ ?_
      intro x33 h33
      refine px_eq rfl q_X1_addReach_36 hg rfl trivial (fun c36 => ?_) (fun c36 => ?_)
      · replace h33 := px_bf h33 c36
        refine px_riS rfl q_X1_addReach_48 rfl rfl rfl hg rfl trivial ⟨⟨rfl, rfl⟩, ?_⟩
        exact ⟨rfl, Or.inr ⟨fun hc => by unfold cReachOk at hc; grind, rfl, rfl⟩⟩
      · replace h33 := px_bt h33 c36
        refine px_ilt rfl q_X1_addReach_39 hg rfl trivial (fun c45 => ?_) (fun c45 => ?_)
        · have hp2 : 0 ≤ I 55 13 ∧ I 55 13 < 20 := ⟨hp.1, by assumption⟩
          have hok : cReachOk 55 I lo hi sl fa w := ⟨by assumption, by assumption, by assumption, by assumption⟩
          have z1 : ¬ fa = 0 := by unfold cReachOk at hok; grind
          have z2 : ¬ sl = 0 := by unfold cReachOk at hok; grind
          refine px_ne rfl q_X1_addReach_50 hg rfl trivial (fun c54 => ?_) (fun c54 => ?_)
          · refine px_cVW (ci := 1) rfl q_X1_addReach_62 hg rfl trivial lk_1_70 nm_X1_addPeg (c_addPegB hg _ (by assumption)) rfl rfl (px_lit hg rfl) rfl rfl rfl ⟨rfl, rfl⟩ ?_
            intro I71 L71 h71
            obtain ⟨rfl, h71⟩ := h71
            refine px_riS rfl q_X1_addReach_74 rfl rfl rfl hg rfl ⟨⟨⟨⟨⟨⟨⟨trivial, (by with_reducible assumption)⟩, (by with_reducible assumption)⟩, (by with_reducible assumption)⟩, (by with_reducible assumption)⟩, (by with_reducible assumption)⟩, (by with_reducible assumption)⟩, (by with_reducible assumption)⟩ ⟨⟨rfl, rfl⟩, ?_⟩
            exact ⟨rfl, Or.inl ⟨hok, by rw [if_neg (by assumption)], by unfold cReach cRch; rw [if_neg (by assumption), if_neg (by assumption), ← h71]⟩⟩
          · refine px_cVW (ci := 1) rfl q_X1_addReach_57 hg rfl trivial lk_1_70 nm_X1_addPeg (c_addPegB hg _ (by assumption)) rfl rfl (px_lit hg rfl) rfl rfl rfl ⟨rfl, rfl⟩ ?_
            intro I59 L59 h59
            obtain ⟨rfl, h59⟩ := h59
            have p59 : I59 55 13 = 1 := by rw [h59]; simp [cPeg, px_ur]; grind
            have hp2 : 0 ≤ I59 55 13 ∧ I59 55 13 < 20 := by rw [p59]; decide
            refine px_cVW (ci := 1) rfl q_X1_addReach_62 hg rfl trivial lk_1_70 nm_X1_addPeg (c_addPegB hg _ (by assumption)) rfl rfl (px_lit hg rfl) rfl rfl rfl ⟨rfl, rfl⟩ ?_
            intro I71 L71 h71
            obtain ⟨rfl, h71⟩ := h71
            refine px_riS rfl q_X1_addReach_74 rfl rfl rfl hg rfl ⟨⟨⟨⟨⟨⟨⟨trivial, (by with_reducible assumption)⟩, (by with_reducible assumption)⟩, (by with_reducible assumption)⟩, (by with_reducible assumption)⟩, (by with_reducible assumption)⟩, (by with_reducible assumption)⟩, (by with_reducible assumption)⟩ ⟨⟨rfl, rfl⟩, ?_⟩
            rw [h59] at h71
            exact ⟨rfl, Or.inl ⟨hok, by rw [if_pos (by assumption)]; exact p59, by unfold cReach cRch; rw [if_pos (by assumption), if_pos (by assumption), ← h71, p59]⟩⟩
        · refine px_riS rfl q_X1_addReach_48 rfl rfl rfl hg rfl trivial ⟨⟨rfl, rfl⟩, ?_⟩
          exact ⟨rfl, Or.inr ⟨fun hc => by unfold cReachOk at hc; grind, rfl, rfl⟩⟩
    · replace h18 := px_bf h18 c21
      refine px_riS rfl q_X1_addReach_24 rfl rfl rfl hg rfl trivial ⟨⟨rfl, rfl⟩, ?_⟩
      exact ⟨rfl, Or.inr ⟨fun hc => by unfold cReachOk at hc; grind, rfl, rfl⟩⟩

set_option maxRecDepth 100000 in
theorem c_openAtB {n : Nat} {I : px_I} {L : px_L} {R : px_R} (hg : px_G n R) (st : Int32) : px_KS M_X1_openAt [.ref 55, .int st] n I L R (fun r I2 L2 => L2 = L ∧ ((I 55 13 = 0 ∧ r = 0 ∧ I2 = I) ∨ (I 55 13 ≠ 0 ∧ r = 1 ∧ I2 = px_u I 56 0 st))) := by
  refine px_of (plainFor_of_name np_RX1) (fun _ _ _ => trivial) rfl ?_
  refine px_ne rfl q_X1_openAt_0 hg rfl trivial (fun c4 => ?_) (fun c4 => ?_)
  · refine px_rzS rfl q_X1_openAt_9 rfl rfl rfl hg rfl ⟨trivial, (by first | decide | (refine ⟨?_, ?_⟩ <;> grind) | grind)⟩ ⟨⟨rfl, rfl⟩, (by first | exact Or.inl rfl | exact Or.inr rfl | grind), ?_⟩
    first | exact ⟨rfl, Or.inl ⟨by assumption, rfl, rfl⟩⟩ | exact ⟨rfl, Or.inr ⟨by assumption, rfl, rfl⟩⟩
  · refine px_rzS rfl q_X1_openAt_7 rfl rfl rfl hg rfl trivial ⟨⟨rfl, rfl⟩, (by first | exact Or.inl rfl | exact Or.inr rfl | grind), ?_⟩
    first | exact ⟨rfl, Or.inl ⟨by assumption, rfl, rfl⟩⟩ | exact ⟨rfl, Or.inr ⟨by assumption, rfl, rfl⟩⟩

set_option maxRecDepth 100000 in
theorem c_addMarkB {n : Nat} {I : px_I} {L : px_L} {R : px_R} (hg : px_G n R) (p f t : Int32) (hp : I 55 13 ≤ 20) : px_KS M_X1_addMark [.ref 55, .int p, .int f, .int t] n I L R (fun r I2 L2 => L2 = L ∧ ((((0 ≤ p ∧ p < I 55 13) ∧ (0 ≤ f ∧ f ≤ t ∧ t ≤ 20000)) ∧ r = 1 ∧ I2 = cMark 55 I p f t) ∨ (¬ ((0 ≤ p ∧ p < I 55 13) ∧ (0 ≤ f ∧ f ≤ t ∧ t ≤ 20000)) ∧ r = 0 ∧ I2 = I))) := by
  refine px_of (plainFor_of_name np_RX1) (fun _ _ _ => trivial) rfl ?_
  refine px_cVP (ci := 1) rfl q_X1_addMark_0 hg rfl trivial lk_1_74 nm_X1_hasPeg (c_hasPegB hg _) rfl rfl (px_lit hg rfl) rfl rfl rfl ⟨rfl, rfl⟩ ?_
  intro x2 h2
  refine px_eq rfl q_X1_addMark_5 hg rfl trivial (fun c5 => ?_) (fun c5 => ?_)
  · replace h2 := px_bf h2 c5
    refine px_rzS rfl q_X1_addMark_20 rfl rfl rfl hg rfl trivial ⟨⟨rfl, rfl⟩, (by first | exact Or.inl rfl | exact Or.inr rfl | grind), ?_⟩
    exact ⟨rfl, Or.inr ⟨fun hc => by grind, rfl, rfl⟩⟩
  · replace h2 := px_bt h2 c5
    refine px_cSNP rfl q_X1_addMark_8 hg rfl trivial lk_1_62 nm_X11_ordered (c_ordered hg _ _ _ _) rfl rfl rfl ⟨rfl, rfl⟩ ?_
    intro x14 h14
    refine px_ne rfl q_X1_addMark_17 hg rfl trivial (fun c17 => ?_) (fun c17 => ?_)
    · replace h14 := px_bt h14 c17
      have hpp : 0 ≤ p ∧ p < 20 := by grind
      refine px_cSP rfl q_X1_addMark_22 hg rfl ⟨trivial, (by with_reducible assumption)⟩ lk_1_78 nm_J9_max_7cf53 (j_max hg _ _) rfl rfl rfl ⟨rfl, rfl⟩ ?_
      intro x34 h34
      refine px_cSP rfl q_X1_addMark_37 hg rfl ⟨⟨trivial, (by with_reducible assumption)⟩, (by with_reducible assumption)⟩ lk_1_84 nm_J9_min_7cf53 (j_min hg _ _) rfl rfl rfl ⟨rfl, rfl⟩ ?_
      intro x50 h50
      refine px_rzS rfl q_X1_addMark_53 rfl rfl rfl hg rfl ⟨trivial, (by with_reducible assumption)⟩ ⟨⟨rfl, rfl⟩, (by first | exact Or.inl rfl | exact Or.inr rfl | grind), ?_⟩
      exact ⟨rfl, Or.inl ⟨⟨by assumption, by assumption⟩, rfl, by rw [h34, h50]; simp [cMark, cMx, cMn, px_ur]⟩⟩
    · replace h14 := px_bf h14 c17
      refine px_rzS rfl q_X1_addMark_20 rfl rfl rfl hg rfl trivial ⟨⟨rfl, rfl⟩, (by first | exact Or.inl rfl | exact Or.inr rfl | grind), ?_⟩
      exact ⟨rfl, Or.inr ⟨fun hc => by grind, rfl, rfl⟩⟩

set_option maxRecDepth 100000 in
theorem l_dig145B {n : Nat} {R : px_R} (hg : px_G n R) {Q : px_Q} {I : px_I} {L : px_L} (hp : I 55 13 ≤ 20) (hq : ∀ r I2, (r = 0 ∨ r = 1) → cEI 55 I I2 → Q (some (.int r)) n I2 L R) : ∀ i : Int32, -1 ≤ i → i < 20 → ∀ I1, cEI 55 I I1 → px M_X1_dig 0 0 145 [(0, .ref 55), (1, .int i)] [] n I1 L R Q := by
  refine px_dn (-1) (fun i ih hk => ?_)
  intro h0 I1 h1
  have e13 : I1 55 13 = I 55 13 := by rw [h1 55 (by decide) (by decide)]
  refine px_le rfl q_X1_dig_145 hg rfl trivial (fun c146 => ?_) (fun c146 => ?_)
  · refine px_rz rfl q_X1_dig_219 rfl rfl rfl hg rfl trivial (by first | exact Or.inl rfl | exact Or.inr rfl | grind) ?_
    exact hq _ _ (Or.inr rfl) h1
  · have hi0 : 0 ≤ i ∧ i < 20 := by grind
    have hi1 : 0 ≤ i - 1 ∧ i - 1 < 20 := by grind
    refine px_cSP rfl q_X1_dig_149 hg rfl ⟨⟨⟨trivial, (by with_reducible assumption)⟩, (by with_reducible assumption)⟩, (by with_reducible assumption)⟩ lk_1_78 nm_J9_max_7cf53 (j_max hg _ _) rfl rfl rfl ⟨rfl, rfl⟩ ?_
    intro x177 h177
    refine px_cSP rfl q_X1_dig_180 hg rfl ⟨⟨⟨⟨trivial, (by with_reducible assumption)⟩, (by with_reducible assumption)⟩, (by with_reducible assumption)⟩, (by with_reducible assumption)⟩ lk_1_84 nm_J9_min_7cf53 (j_min hg _ _) rfl rfl rfl ⟨rfl, rfl⟩ ?_
    intro x209 h209
    refine px_b rfl q_X1_dig_212 hg rfl ⟨trivial, (by with_reducible assumption)⟩ ?_
    exact px_go (ih (i + -1) (by grind) (by grind) (by grind) _ (by repeat (first | exact h1 | refine cEI.u9 ?_ (Or.inl rfl) _ _ | refine cEI.u9 ?_ (Or.inr rfl) _ _))) ⟨rfl, rfl, trivial⟩

set_option maxRecDepth 100000 in
theorem l_dig2B {n : Nat} {R : px_R} (hg : px_G n R) {Q : px_Q} {I : px_I} {L : px_L} (hp : I 55 13 ≤ 20) (hq : ∀ r I2, (r = 0 ∨ r = 1) → cEI 55 I I2 → Q (some (.int r)) n I2 L R) (hp0 : 0 ≤ I 55 13) : ∀ i : Int32, i ≤ 20 → 0 ≤ i → ∀ I1, cEI 55 I I1 → px M_X1_dig 0 0 2 [(0, .ref 55), (1, .int i)] [] n I1 L R Q := by
  refine px_up 20 (fun i ih hk => ?_)
  intro h0 I1 h1
  have e13 : I1 55 13 = I 55 13 := by rw [h1 55 (by decide) (by decide)]
  refine px_ige rfl q_X1_dig_2 hg rfl trivial (fun c7 => ?_) (fun c7 => ?_)
  · refine px_b rfl q_X1_dig_138 hg rfl trivial ?_
    exact px_go (l_dig145B hg hp hq _ (by grind) (by grind) I1 h1) ⟨rfl, rfl, trivial⟩
  · have hi0 : 0 ≤ i ∧ i < 20 := by grind
    have hi1 : 0 < i → 0 ≤ i - 1 ∧ i - 1 < 20 := fun z => by grind
    refine px_le rfl q_X1_dig_10 hg rfl ⟨⟨⟨⟨trivial, (by with_reducible assumption)⟩, (by with_reducible assumption)⟩, (by with_reducible assumption)⟩, (by with_reducible assumption)⟩ (fun c35 => ?_) (fun c35 => ?_)
    · refine px_ile rfl q_X1_dig_115 hg rfl ⟨⟨trivial, (by with_reducible assumption)⟩, (by with_reducible assumption)⟩ (fun c127 => ?_) (fun c127 => ?_)
      · refine px_b rfl q_X1_dig_132 hg rfl trivial ?_
        exact px_go (ih (i + 1) (by grind) (by grind) (by grind) _ (by repeat (first | exact h1 | refine cEI.u9 ?_ (Or.inl rfl) _ _ | refine cEI.u9 ?_ (Or.inr rfl) _ _))) ⟨rfl, rfl, trivial⟩
      · refine px_rz rfl q_X1_dig_130 rfl rfl rfl hg rfl trivial (by first | exact Or.inl rfl | exact Or.inr rfl | grind) ?_
        exact hq _ _ (Or.inl rfl) (by repeat (first | exact h1 | refine cEI.u9 ?_ (Or.inl rfl) _ _ | refine cEI.u9 ?_ (Or.inr rfl) _ _))
    · replace hi1 := hi1 (Int32.not_le.mp (by assumption))
      refine px_ile rfl q_X1_dig_38 hg rfl ⟨⟨trivial, (by with_reducible assumption)⟩, (by with_reducible assumption)⟩ (fun c50 => ?_) (fun c50 => ?_)
      · refine px_cSP rfl q_X1_dig_55 hg rfl ⟨⟨⟨trivial, (by with_reducible assumption)⟩, (by with_reducible assumption)⟩, (by with_reducible assumption)⟩ lk_1_78 nm_J9_max_7cf53 (j_max hg _ _) rfl rfl rfl ⟨rfl, rfl⟩ ?_
        intro x81 h81
        refine px_cSP rfl q_X1_dig_84 hg rfl ⟨⟨⟨⟨trivial, (by with_reducible assumption)⟩, (by with_reducible assumption)⟩, (by with_reducible assumption)⟩, (by with_reducible assumption)⟩ lk_1_84 nm_J9_min_7cf53 (j_min hg _ _) rfl rfl rfl ⟨rfl, rfl⟩ ?_
        intro x111 h111
        refine px_ile rfl q_X1_dig_114 hg rfl ⟨⟨⟨trivial, (by with_reducible assumption)⟩, (by with_reducible assumption)⟩, (by with_reducible assumption)⟩ (fun c127 => ?_) (fun c127 => ?_)
        · refine px_b rfl q_X1_dig_132 hg rfl trivial ?_
          exact px_go (ih (i + 1) (by grind) (by grind) (by grind) _ (by repeat (first | exact h1 | refine cEI.u9 ?_ (Or.inl rfl) _ _ | refine cEI.u9 ?_ (Or.inr rfl) _ _))) ⟨rfl, rfl, trivial⟩
        · refine px_rz rfl q_X1_dig_130 rfl rfl rfl hg rfl trivial (by first | exact Or.inl rfl | exact Or.inr rfl | grind) ?_
          exact hq _ _ (Or.inl rfl) (by repeat (first | exact h1 | refine cEI.u9 ?_ (Or.inl rfl) _ _ | refine cEI.u9 ?_ (Or.inr rfl) _ _))
      · refine px_rz rfl q_X1_dig_53 rfl rfl rfl hg rfl trivial (by first | exact Or.inl rfl | exact Or.inr rfl | grind) ?_
        exact hq _ _ (Or.inl rfl) (by repeat (first | exact h1 | refine cEI.u9 ?_ (Or.inl rfl) _ _ | refine cEI.u9 ?_ (Or.inr rfl) _ _))

set_option maxRecDepth 100000 in
theorem c_digB {n : Nat} {I : px_I} {L : px_L} {R : px_R} (hg : px_G n R) (hp : 0 ≤ I 55 13 ∧ I 55 13 ≤ 20) : px_KS M_X1_dig [.ref 55] n I L R (fun r I2 L2 => (r = 0 ∨ r = 1) ∧ L2 = L ∧ cEI 55 I I2) := by
  refine px_of (plainFor_of_name np_RX1) (fun _ _ _ => trivial) rfl ?_
  refine px_b rfl q_X1_dig_0 hg rfl trivial ?_
  exact px_go (l_dig2B hg hp.2 (fun r I2 hr h => ⟨rfl, rfl, r, rfl, hr, rfl, h⟩) hp.1 0 (by decide) (by decide) I (fun _ _ _ => rfl)) ⟨rfl, rfl, trivial⟩

set_option maxRecDepth 100000 in
theorem c_dayOfB {n : Nat} {I : px_I} {L : px_L} {R : px_R} (hg : px_G n R) (p h : Int32) (hp : 0 ≤ I 55 13 ∧ I 55 13 ≤ 20) : px_KS M_X1_dayOf [.ref 55, .int p, .int h] n I L R (fun r I2 L2 => L2 = L ∧ cEI 55 I I2) := by
  refine px_of (plainFor_of_name np_RX1) (fun _ _ _ => trivial) rfl ?_
  refine px_cVP (ci := 1) rfl q_X1_dayOf_0 hg rfl trivial lk_1_74 nm_X1_hasPeg (c_hasPegB hg _) rfl rfl (px_lit hg rfl) rfl rfl rfl ⟨rfl, rfl⟩ ?_
  intro x2 h2
  refine px_eq rfl q_X1_dayOf_5 hg rfl trivial (fun c5 => ?_) (fun c5 => ?_)
  · replace h2 := px_bf h2 c5
    refine px_riS rfl q_X1_dayOf_15 rfl rfl rfl hg rfl trivial ⟨⟨rfl, rfl⟩, ?_⟩
    first | exact ⟨rfl, h9⟩ | exact ⟨rfl, fun _ _ _ => rfl⟩
  · replace h2 := px_bt h2 c5
    have hpp : 0 ≤ p ∧ p < 20 := by grind
    refine px_cVS (ci := 1) rfl q_X1_dayOf_8 hg rfl trivial lk_1_87 nm_X1_dig (c_digB hg (by assumption)) rfl rfl (px_lit hg rfl) rfl rfl rfl ⟨rfl, rfl⟩ ?_
    intro x9 I9 L9 h9
    obtain ⟨hr9, rfl, h9⟩ := h9
    refine px_ne rfl q_X1_dayOf_12 hg rfl trivial (fun c12 => ?_) (fun c12 => ?_)
    · refine px_eq rfl q_X1_dayOf_17 hg rfl trivial (fun c18 => ?_) (fun c18 => ?_)
      · refine px_riS rfl q_X1_dayOf_30 rfl rfl rfl hg rfl ⟨trivial, (by first | decide | (refine ⟨?_, ?_⟩ <;> grind) | grind)⟩ ⟨⟨rfl, rfl⟩, ?_⟩
        first | exact ⟨rfl, h9⟩ | exact ⟨rfl, fun _ _ _ => rfl⟩
      · refine px_riS rfl q_X1_dayOf_21 rfl rfl rfl hg rfl ⟨trivial, (by first | decide | (refine ⟨?_, ?_⟩ <;> grind) | grind)⟩ ⟨⟨rfl, rfl⟩, ?_⟩
        first | exact ⟨rfl, h9⟩ | exact ⟨rfl, fun _ _ _ => rfl⟩
    · refine px_riS rfl q_X1_dayOf_15 rfl rfl rfl hg rfl trivial ⟨⟨rfl, rfl⟩, ?_⟩
      first | exact ⟨rfl, h9⟩ | exact ⟨rfl, fun _ _ _ => rfl⟩

set_option maxRecDepth 100000 in
theorem l_daysFromB {n : Nat} {R : px_R} (hg : px_G n R) {Q : px_Q} (a b h : Int32) (ha : 0 ≤ a ∧ a < 20) (hb : 0 ≤ b ∧ b < 20) {I : px_I} {L : px_L} (hq : ∀ r, Q (some (.int r)) n I L R) : ∀ i : Int32, i ≤ 20 → 0 ≤ i → ∀ x y : Int32, px M_X1_daysFrom 0 0 41 [(0, .ref 55), (1, .int a), (2, .int b), (3, .int h), (4, .int x), (5, .int y), (6, .int i)] [] n I L R Q := by
  refine px_up 20 (fun i ih hk => ?_)
  intro h0 x y
  refine px_igt rfl q_X1_daysFrom_41 hg rfl trivial (fun c44 => ?_) (fun c44 => ?_)
  · refine px_eq rfl q_X1_daysFrom_77 hg rfl trivial (fun c78 => ?_) (fun c78 => ?_)
    · refine px_cSP rfl q_X1_daysFrom_100 hg rfl ⟨⟨trivial, (by with_reducible assumption)⟩, (by with_reducible assumption)⟩ lk_1_78 nm_J9_max_7cf53 (j_max hg _ _) rfl rfl rfl ⟨rfl, rfl⟩ ?_
      intro x115 h115
      refine px_ri rfl q_X1_daysFrom_118 rfl rfl rfl hg rfl trivial ?_
      exact hq _
    · refine px_cSP rfl q_X1_daysFrom_81 hg rfl ⟨⟨trivial, (by with_reducible assumption)⟩, (by with_reducible assumption)⟩ lk_1_84 nm_J9_min_7cf53 (j_min hg _ _) rfl rfl rfl ⟨rfl, rfl⟩ ?_
      intro x96 h96
      refine px_ri rfl q_X1_daysFrom_99 rfl rfl rfl hg rfl trivial ?_
      exact hq _
  · have hi0 : 0 ≤ i ∧ i < 20 := by grind
    refine px_b rfl q_X1_daysFrom_47 hg rfl ⟨⟨trivial, (by with_reducible assumption)⟩, (by with_reducible assumption)⟩ ?_
    exact px_go (ih (i + 1) (by grind) (by grind) (by grind) _ _) ⟨rfl, rfl, rfl, rfl, rfl, rfl, rfl, trivial⟩

set_option maxRecDepth 100000 in
theorem c_daysFromB {n : Nat} {I : px_I} {L : px_L} {R : px_R} (hg : px_G n R) (a b h : Int32) (hp : 0 ≤ I 55 13 ∧ I 55 13 ≤ 20) : px_KS M_X1_daysFrom [.ref 55, .int a, .int b, .int h] n I L R (fun r I2 L2 => L2 = L ∧ cEI 55 I I2) := by
  refine px_of (plainFor_of_name np_RX1) (fun _ _ _ => trivial) rfl ?_
  refine px_cVP (ci := 1) rfl q_X1_daysFrom_0 hg rfl trivial lk_1_74 nm_X1_hasPeg (c_hasPegB hg _) rfl rfl (px_lit hg rfl) rfl rfl rfl ⟨rfl, rfl⟩ ?_
  intro x2 h2
  refine px_eq rfl q_X1_daysFrom_5 hg rfl trivial (fun c5 => ?_) (fun c5 => ?_)
  · replace h2 := px_bf h2 c5
    refine px_riS rfl q_X1_daysFrom_28 rfl rfl rfl hg rfl trivial ⟨⟨rfl, rfl⟩, ?_⟩
    first | exact ⟨rfl, h22⟩ | exact ⟨rfl, fun _ _ _ => rfl⟩
  · replace h2 := px_bt h2 c5
    refine px_cVP (ci := 1) rfl q_X1_daysFrom_8 hg rfl trivial lk_1_74 nm_X1_hasPeg (c_hasPegB hg _) rfl rfl (px_lit hg rfl) rfl rfl rfl ⟨rfl, rfl⟩ ?_
    intro x10 h10
    refine px_eq rfl q_X1_daysFrom_13 hg rfl trivial (fun c13 => ?_) (fun c13 => ?_)
    · replace h10 := px_bf h10 c13
      refine px_riS rfl q_X1_daysFrom_28 rfl rfl rfl hg rfl trivial ⟨⟨rfl, rfl⟩, ?_⟩
      first | exact ⟨rfl, h22⟩ | exact ⟨rfl, fun _ _ _ => rfl⟩
    · replace h10 := px_bt h10 c13
      refine px_ige rfl q_X1_daysFrom_16 hg rfl trivial (fun c18 => ?_) (fun c18 => ?_)
      · refine px_riS rfl q_X1_daysFrom_28 rfl rfl rfl hg rfl trivial ⟨⟨rfl, rfl⟩, ?_⟩
        first | exact ⟨rfl, h22⟩ | exact ⟨rfl, fun _ _ _ => rfl⟩
      · refine px_cVS (ci := 1) rfl q_X1_daysFrom_21 hg rfl trivial lk_1_87 nm_X1_dig (c_digB hg (by assumption)) rfl rfl (px_lit hg rfl) rfl rfl rfl ⟨rfl, rfl⟩ ?_
        intro x22 I22 L22 h22
        obtain ⟨hr22, rfl, h22⟩ := h22
        refine px_ne rfl q_X1_daysFrom_25 hg rfl trivial (fun c25 => ?_) (fun c25 => ?_)
        · refine px_b rfl q_X1_daysFrom_30 hg rfl trivial ?_
          exact px_go (l_daysFromB hg a b h (by grind) (by grind) (fun r => ⟨rfl, rfl, r, rfl, rfl, h22⟩) (a + 1) (by grind) (by grind) 0 0) ⟨rfl, rfl, rfl, rfl, rfl, rfl, rfl, trivial⟩
        · refine px_riS rfl q_X1_daysFrom_28 rfl rfl rfl hg rfl trivial ⟨⟨rfl, rfl⟩, ?_⟩
          first | exact ⟨rfl, h22⟩ | exact ⟨rfl, fun _ _ _ => rfl⟩

set_option maxRecDepth 100000 in
theorem c_holesAgreeB {n : Nat} {I : px_I} {L : px_L} {R : px_R} (hg : px_G n R) (p h a z : Int32) (hp : I 55 13 ≤ 20) (hh : h ≤ 9999) : px_KP M_X1_holesAgree [.ref 55, .int p, .int h, .int a, .int z] n I L R (fun r => (r = 1 ∧ (cHo 55 I p h a z)) ∨ (r = 0 ∧ ¬ (cHo 55 I p h a z))) := by
  refine px_of (plainFor_of_name np_RX1) (fun _ _ _ => trivial) rfl ?_
  refine px_cVP (ci := 1) rfl q_X1_holesAgree_0 hg rfl trivial lk_1_91 nm_X1_hasReach (c_hasReachB hg _) rfl rfl (px_lit hg rfl) rfl rfl rfl ⟨rfl, rfl⟩ ?_
  intro x2 h2
  refine px_eq rfl q_X1_holesAgree_5 hg rfl trivial (fun c5 => ?_) (fun c5 => ?_)
  · replace h2 := px_bf h2 c5
    refine px_rzP rfl q_X1_holesAgree_12 rfl rfl rfl hg rfl trivial ⟨⟨rfl, rfl, rfl, rfl⟩, (by first | exact Or.inl rfl | exact Or.inr rfl | grind), ?_⟩
    unfold cHo cMx cMn
    grind
  · replace h2 := px_bt h2 c5
    refine px_ge rfl q_X1_holesAgree_8 hg rfl trivial (fun c9 => ?_) (fun c9 => ?_)
    · refine px_cSP rfl q_X1_holesAgree_14 hg rfl ⟨⟨trivial, (by first | (refine ⟨?_, ?_⟩ <;> grind) | grind)⟩, (by first | (refine ⟨?_, ?_⟩ <;> grind) | grind)⟩ lk_1_78 nm_J9_max_7cf53 (j_max hg _ _) rfl rfl rfl ⟨rfl, rfl⟩ ?_
      intro x27 h27
      refine px_ne rfl q_X1_holesAgree_30 hg rfl trivial (fun c33 => ?_) (fun c33 => ?_)
      · refine px_cSP rfl q_X1_holesAgree_41 hg rfl ⟨⟨trivial, (by first | (refine ⟨?_, ?_⟩ <;> grind) | grind)⟩, (by first | (refine ⟨?_, ?_⟩ <;> grind) | grind)⟩ lk_1_84 nm_J9_min_7cf53 (j_min hg _ _) rfl rfl rfl ⟨rfl, rfl⟩ ?_
        intro x51 h51
        refine px_igt rfl q_X1_holesAgree_54 hg rfl trivial (fun c60 => ?_) (fun c60 => ?_)
        · refine px_rzP rfl q_X1_holesAgree_67 rfl rfl rfl hg rfl trivial ⟨⟨rfl, rfl, rfl, rfl⟩, (by first | exact Or.inl rfl | exact Or.inr rfl | grind), ?_⟩
          unfold cHo cMx cMn
          grind
        · refine px_rzP rfl q_X1_holesAgree_63 rfl rfl rfl hg rfl trivial ⟨⟨rfl, rfl, rfl, rfl⟩, (by first | exact Or.inl rfl | exact Or.inr rfl | grind), ?_⟩
          unfold cHo cMx cMn
          grind
      · refine px_igt rfl q_X1_holesAgree_36 hg rfl trivial (fun c60 => ?_) (fun c60 => ?_)
        · refine px_rzP rfl q_X1_holesAgree_67 rfl rfl rfl hg rfl trivial ⟨⟨rfl, rfl, rfl, rfl⟩, (by first | exact Or.inl rfl | exact Or.inr rfl | grind), ?_⟩
          unfold cHo cMx cMn
          grind
        · refine px_rzP rfl q_X1_holesAgree_63 rfl rfl rfl hg rfl trivial ⟨⟨rfl, rfl, rfl, rfl⟩, (by first | exact Or.inl rfl | exact Or.inr rfl | grind), ?_⟩
          unfold cHo cMx cMn
          grind
    · refine px_rzP rfl q_X1_holesAgree_12 rfl rfl rfl hg rfl trivial ⟨⟨rfl, rfl, rfl, rfl⟩, (by first | exact Or.inl rfl | exact Or.inr rfl | grind), ?_⟩
      unfold cHo cMx cMn
      grind

set_option maxRecDepth 100000 in
theorem c_addRepairB {n : Nat} {I : px_I} {L : px_L} {R : px_R} (hg : px_G n R) (p y d : Int32) (hr : 0 ≤ I 55 15) : px_KS M_X1_addRepair [.ref 55, .int p, .int y, .int d] n I L R (fun r I2 L2 => L2 = L ∧ ((((1 ≤ p ∧ p < I 55 13) ∧ (0 ≤ y ∧ y ≤ 5000) ∧ I 55 15 < 30) ∧ r = 1 ∧ I2 = cRep 55 I p y d) ∨ (¬ ((1 ≤ p ∧ p < I 55 13) ∧ (0 ≤ y ∧ y ≤ 5000) ∧ I 55 15 < 30) ∧ r = 0 ∧ I2 = I))) := by
  refine px_of (plainFor_of_name np_RX1) (fun _ _ _ => trivial) rfl ?_
  refine px_cVP (ci := 1) rfl q_X1_addRepair_0 hg rfl trivial lk_1_91 nm_X1_hasReach (c_hasReachB hg _) rfl rfl (px_lit hg rfl) rfl rfl rfl ⟨rfl, rfl⟩ ?_
  intro x2 h2
  refine px_eq rfl q_X1_addRepair_5 hg rfl trivial (fun c5 => ?_) (fun c5 => ?_)
  · replace h2 := px_bf h2 c5
    refine px_rzS rfl q_X1_addRepair_28 rfl rfl rfl hg rfl trivial ⟨⟨rfl, rfl⟩, (by first | exact Or.inl rfl | exact Or.inr rfl | grind), ?_⟩
    first | exact ⟨rfl, Or.inl ⟨⟨by assumption, by assumption, by assumption⟩, rfl, rfl⟩⟩ | exact ⟨rfl, Or.inr ⟨fun hc => by grind, rfl, rfl⟩⟩
  · replace h2 := px_bt h2 c5
    refine px_cSNP rfl q_X1_addRepair_8 hg rfl trivial lk_1_66 nm_X11_within (c_within hg _ _ _) rfl rfl rfl ⟨rfl, rfl⟩ ?_
    intro x13 h13
    refine px_eq rfl q_X1_addRepair_16 hg rfl trivial (fun c16 => ?_) (fun c16 => ?_)
    · replace h13 := px_bf h13 c16
      refine px_rzS rfl q_X1_addRepair_28 rfl rfl rfl hg rfl trivial ⟨⟨rfl, rfl⟩, (by first | exact Or.inl rfl | exact Or.inr rfl | grind), ?_⟩
      first | exact ⟨rfl, Or.inl ⟨⟨by assumption, by assumption, by assumption⟩, rfl, rfl⟩⟩ | exact ⟨rfl, Or.inr ⟨fun hc => by grind, rfl, rfl⟩⟩
    · replace h13 := px_bt h13 c16
      refine px_ilt rfl q_X1_addRepair_19 hg rfl trivial (fun c25 => ?_) (fun c25 => ?_)
      · refine px_rzS rfl q_X1_addRepair_30 rfl rfl rfl hg rfl ⟨⟨⟨trivial, (by first | decide | (refine ⟨?_, ?_⟩ <;> grind) | grind)⟩, (by first | decide | (refine ⟨?_, ?_⟩ <;> grind) | grind)⟩, (by first | decide | (refine ⟨?_, ?_⟩ <;> grind) | grind)⟩ ⟨⟨rfl, rfl⟩, (by first | exact Or.inl rfl | exact Or.inr rfl | grind), ?_⟩
        first | exact ⟨rfl, Or.inl ⟨⟨by assumption, by assumption, by assumption⟩, rfl, rfl⟩⟩ | exact ⟨rfl, Or.inr ⟨fun hc => by grind, rfl, rfl⟩⟩
      · refine px_rzS rfl q_X1_addRepair_28 rfl rfl rfl hg rfl trivial ⟨⟨rfl, rfl⟩, (by first | exact Or.inl rfl | exact Or.inr rfl | grind), ?_⟩
        first | exact ⟨rfl, Or.inl ⟨⟨by assumption, by assumption, by assumption⟩, rfl, rfl⟩⟩ | exact ⟨rfl, Or.inr ⟨fun hc => by grind, rfl, rfl⟩⟩

set_option maxRecDepth 100000 in
theorem l_limeYearsB {n : Nat} {R : px_R} (hg : px_G n R) {Q : px_Q} (p y k : Int32) {I : px_I} {L : px_L} (hr : I 55 15 ≤ 30) (hq : ∀ r, Q (some (.int r)) n I L R) : ∀ i : Int32, i ≤ 30 → 0 ≤ i → ∀ f : Int32, px M_X1_limeYears 0 0 6 [(0, .ref 55), (1, .int p), (2, .int y), (3, .int k), (4, .int f), (5, .int i)] [] n I L R Q := by
  refine px_up 30 (fun i ih hk => ?_)
  intro h0 f
  refine px_ige rfl q_X1_limeYears_6 hg rfl trivial (fun c12 => ?_) (fun c12 => ?_)
  · refine px_ri rfl q_X1_limeYears_68 rfl rfl rfl hg rfl trivial ?_
    exact hq _
  · refine px_ine rfl q_X1_limeYears_15 hg rfl ⟨trivial, (by first | with_reducible assumption | (refine ⟨?_, ?_⟩ <;> grind))⟩ (fun c23 => ?_) (fun c23 => ?_)
    · refine px_b rfl q_X1_limeYears_62 hg rfl trivial ?_
      exact px_go (ih (i + 1) (by grind) (by grind) (by grind) _) ⟨rfl, rfl, rfl, rfl, rfl, rfl, trivial⟩
    · refine px_igt rfl q_X1_limeYears_26 hg rfl ⟨trivial, (by first | with_reducible assumption | (refine ⟨?_, ?_⟩ <;> grind))⟩ (fun c34 => ?_) (fun c34 => ?_)
      · refine px_b rfl q_X1_limeYears_62 hg rfl trivial ?_
        exact px_go (ih (i + 1) (by grind) (by grind) (by grind) _) ⟨rfl, rfl, rfl, rfl, rfl, rfl, trivial⟩
      · refine px_igt rfl q_X1_limeYears_37 hg rfl ⟨trivial, (by first | with_reducible assumption | (refine ⟨?_, ?_⟩ <;> grind))⟩ (fun c45 => ?_) (fun c45 => ?_)
        · refine px_b rfl q_X1_limeYears_62 hg rfl trivial ?_
          exact px_go (ih (i + 1) (by grind) (by grind) (by grind) _) ⟨rfl, rfl, rfl, rfl, rfl, rfl, trivial⟩
        · refine px_cSP rfl q_X1_limeYears_48 hg rfl ⟨trivial, (by first | with_reducible assumption | (refine ⟨?_, ?_⟩ <;> grind))⟩ lk_1_78 nm_J9_max_7cf53 (j_max hg _ _) rfl rfl rfl ⟨rfl, rfl⟩ ?_
          intro x57 h57
          refine px_b rfl q_X1_limeYears_60 hg rfl trivial ?_
          exact px_go (ih (i + 1) (by grind) (by grind) (by grind) _) ⟨rfl, rfl, rfl, rfl, rfl, rfl, trivial⟩

set_option maxRecDepth 100000 in
theorem c_limeYearsB {n : Nat} {I : px_I} {L : px_L} {R : px_R} (hg : px_G n R) (p y k : Int32) (hr : I 55 15 ≤ 30) : px_KP M_X1_limeYears [.ref 55, .int p, .int y, .int k] n I L R (fun r => True) := by
  refine px_of (plainFor_of_name np_RX1) (fun _ _ _ => trivial) rfl ?_
  refine px_b rfl q_X1_limeYears_0 hg rfl trivial ?_
  exact px_go (l_limeYearsB hg p y k hr (fun r => ⟨rfl, rfl, r, rfl, rfl, rfl, trivial⟩) 0 (by decide) (by decide) 0) ⟨rfl, rfl, rfl, rfl, rfl, rfl, trivial⟩
