theorem mD_70 (I : px_I) (v a k w : Int32) : mD (px_u I 103 70 v) a k w = mD I a k w := rfl
theorem mGd_70 (I : px_I) (v a k w : Int32) : mGd (px_u I 103 70 v) a k w = mGd I a k w := rfl
theorem mD_I {I I2 : px_I} (h : mDI I I2) (a k w : Int32) : mD I2 a k w = mD I a k w := by
  have e : ∀ b, b ≠ 103 → I2 b = I b := fun b hb => funext fun j => h b j (fun q => hb q.1)
  unfold mD
  rw [e 104 (by decide), e 105 (by decide), e 106 (by decide), e 107 (by decide), e 108 (by decide), e 109 (by decide), h 103 2 (by decide), h 103 1 (by decide)]
theorem mGd_I {I I2 : px_I} (h : mDI I I2) (a k w : Int32) : mGd I2 a k w = mGd I a k w := by
  unfold mGd
  rw [mD_I h, h 103 1 (by decide)]

set_option maxRecDepth 100000 in
theorem ls_isClosed {n : Nat} {R : px_R} (hg : px_G n R) {Q : px_Q} (a k w : Int32) {I : px_I} (L : px_L) (hS : mS I) (hI1 : I 103 70 = I 103 1) (hq : ∀ r L2, mDL L L2 → feq (L2 143) (mD I a k w) → ((r = 1 ∧ mGd I a k w) ∨ (r = 0 ∧ ¬ mGd I a k w)) → Q (some (.int r)) n I L2 R) : ∀ i : Int32, i ≤ I 103 2 → 0 ≤ i → ∀ L1, mDL L L1 → feq (L1 143) (gS (sAc (I 104) (I 109) a k w) (sNt (I 105)) (sNt (I 106)) (sPl (I 108)) (sMi (I 107)) i.toNatClampNeg) → px M_X12_isClosed 0 0 11 [(0, .ref 103), (1, .int a), (2, .int k), (3, .int w), (4, .int i)] [] n I L1 R Q := by
  refine px_up _ (fun i ih hk => ?_)
  intro h0 L1 h1 hF1
  obtain ⟨hS1, hS2, hS3⟩ := id hS
  have hn : (I 103 1).toNatClampNeg ≤ 24 := by have := px_nat (x := I 103 1) (by grind); have := Int32.le_iff_toInt_le.mp hS1.2; rw [px_lit24] at this; omega
  refine px_ige rfl q_X12_isClosed_11 hg rfl trivial (fun c17 => ?_) (fun c17 => ?_)
  · refine px_cVS (ci := 12) rfl q_X12_isClosed_107 hg rfl trivial lk_12_207 nm_X12_closes (ks_closes hg (by grind)) rfl rfl (px_lit hg rfl) rfl rfl rfl ⟨rfl, rfl⟩ ?_
    intro x108 I108 L108 h108
    obtain ⟨rfl, h108a, h108b, h108c⟩ := h108
    refine px_rz rfl q_X12_isClosed_111 rfl rfl rfl hg rfl trivial (by first | exact Or.inl rfl | exact Or.inr rfl | grind) ?_
    have e9 : i = I108 103 2 := (by grind)
    rw [e9] at hF1
    rw [hI1] at h108b h108c
    have hD : feq (L108 143) (mD I108 a k w) := (by rw [h108b]; exact hF1.All hn _ (Nat.le_refl _))
    exact hq _ _ (fun b hb => (h108a b hb).trans (h1 b hb)) hD (h108c.imp (fun q => ⟨q.1, (hD.good hn).mp q.2⟩) (fun q => ⟨q.1, fun z => q.2 ((hD.good hn).mpr z)⟩))
  · have hS4 := hS3 i h0 (by grind)
    refine px_ine rfl q_X12_isClosed_20 hg rfl ⟨trivial, (by first | decide | (refine ⟨?_, ?_⟩ <;> grind) | grind)⟩ (fun c28 => ?_) (fun c28 => ?_)
    · refine px_b rfl q_X12_isClosed_101 hg rfl trivial ?_
      first
        | exact px_go (ih (i + 1) (by grind) (by grind) (by grind) _ h1 (gS_stay h0 (by grind) hF1 (fun q => c28 q.1))) ⟨rfl, rfl, rfl, rfl, rfl, trivial⟩
        | exact px_go (ih (i + 1) (by grind) (by grind) (by grind) _ h1 (gS_stay h0 (by grind) hF1 (fun q => absurd q.2.1 (by grind)))) ⟨rfl, rfl, rfl, rfl, rfl, trivial⟩
        | exact px_go (ih (i + 1) (by grind) (by grind) (by grind) _ h1 (gS_stay h0 (by grind) hF1 (fun q => q.2.2 c45))) ⟨rfl, rfl, rfl, rfl, rfl, trivial⟩
        | exact px_go (ih (i + 1) (by grind) (by grind) (by grind) _ (fun b hb => ((h98.1 b hb).trans (h71.1 b hb)).trans (h1 b hb)) (gS_go h0 (by grind) hF1 ⟨by grind, by grind, c45⟩ hS4.1 hS4.2 h71.2 h98.2)) ⟨rfl, rfl, rfl, rfl, rfl, trivial⟩
    · refine px_igt rfl q_X12_isClosed_31 hg rfl ⟨trivial, (by first | decide | (refine ⟨?_, ?_⟩ <;> grind) | grind)⟩ (fun c39 => ?_) (fun c39 => ?_)
      · refine px_b rfl q_X12_isClosed_101 hg rfl trivial ?_
        first
          | exact px_go (ih (i + 1) (by grind) (by grind) (by grind) _ h1 (gS_stay h0 (by grind) hF1 (fun q => c28 q.1))) ⟨rfl, rfl, rfl, rfl, rfl, trivial⟩
          | exact px_go (ih (i + 1) (by grind) (by grind) (by grind) _ h1 (gS_stay h0 (by grind) hF1 (fun q => absurd q.2.1 (by grind)))) ⟨rfl, rfl, rfl, rfl, rfl, trivial⟩
          | exact px_go (ih (i + 1) (by grind) (by grind) (by grind) _ h1 (gS_stay h0 (by grind) hF1 (fun q => q.2.2 c45))) ⟨rfl, rfl, rfl, rfl, rfl, trivial⟩
          | exact px_go (ih (i + 1) (by grind) (by grind) (by grind) _ (fun b hb => ((h98.1 b hb).trans (h71.1 b hb)).trans (h1 b hb)) (gS_go h0 (by grind) hF1 ⟨by grind, by grind, c45⟩ hS4.1 hS4.2 h71.2 h98.2)) ⟨rfl, rfl, rfl, rfl, rfl, trivial⟩
      · refine px_ieq rfl q_X12_isClosed_42 hg rfl trivial (fun c45 => ?_) (fun c45 => ?_)
        · refine px_b rfl q_X12_isClosed_101 hg rfl trivial ?_
          first
            | exact px_go (ih (i + 1) (by grind) (by grind) (by grind) _ h1 (gS_stay h0 (by grind) hF1 (fun q => c28 q.1))) ⟨rfl, rfl, rfl, rfl, rfl, trivial⟩
            | exact px_go (ih (i + 1) (by grind) (by grind) (by grind) _ h1 (gS_stay h0 (by grind) hF1 (fun q => absurd q.2.1 (by grind)))) ⟨rfl, rfl, rfl, rfl, rfl, trivial⟩
            | exact px_go (ih (i + 1) (by grind) (by grind) (by grind) _ h1 (gS_stay h0 (by grind) hF1 (fun q => q.2.2 c45))) ⟨rfl, rfl, rfl, rfl, rfl, trivial⟩
            | exact px_go (ih (i + 1) (by grind) (by grind) (by grind) _ (fun b hb => ((h98.1 b hb).trans (h71.1 b hb)).trans (h1 b hb)) (gS_go h0 (by grind) hF1 ⟨by grind, by grind, c45⟩ hS4.1 hS4.2 h71.2 h98.2)) ⟨rfl, rfl, rfl, rfl, rfl, trivial⟩
        · refine px_cVW (ci := 12) rfl q_X12_isClosed_48 hg rfl ⟨⟨⟨trivial, (by first | decide | (refine ⟨?_, ?_⟩ <;> grind) | grind)⟩, (by first | decide | (refine ⟨?_, ?_⟩ <;> grind) | grind)⟩, (by first | decide | (refine ⟨?_, ?_⟩ <;> grind) | grind)⟩ lk_12_199 nm_X12_bounds (ks_bounds hg _ _ _ (by grind)) rfl rfl (px_lit hg rfl) rfl rfl rfl ⟨rfl, rfl⟩ ?_
          intro I71 L71 h71
          obtain ⟨rfl, h71⟩ := h71
          refine px_cVW (ci := 12) rfl q_X12_isClosed_74 hg rfl ⟨⟨⟨trivial, (by first | decide | (refine ⟨?_, ?_⟩ <;> grind) | grind)⟩, (by first | decide | (refine ⟨?_, ?_⟩ <;> grind) | grind)⟩, (by first | decide | (refine ⟨?_, ?_⟩ <;> grind) | grind)⟩ lk_12_199 nm_X12_bounds (ks_bounds hg _ _ _ (by grind)) rfl rfl (px_lit hg rfl) rfl rfl rfl ⟨rfl, rfl⟩ ?_
          intro I98 L98 h98
          obtain ⟨rfl, h98⟩ := h98
          refine px_b rfl q_X12_isClosed_101 hg rfl trivial ?_
          first
            | exact px_go (ih (i + 1) (by grind) (by grind) (by grind) _ h1 (gS_stay h0 (by grind) hF1 (fun q => c28 q.1))) ⟨rfl, rfl, rfl, rfl, rfl, trivial⟩
            | exact px_go (ih (i + 1) (by grind) (by grind) (by grind) _ h1 (gS_stay h0 (by grind) hF1 (fun q => absurd q.2.1 (by grind)))) ⟨rfl, rfl, rfl, rfl, rfl, trivial⟩
            | exact px_go (ih (i + 1) (by grind) (by grind) (by grind) _ h1 (gS_stay h0 (by grind) hF1 (fun q => q.2.2 c45))) ⟨rfl, rfl, rfl, rfl, rfl, trivial⟩
            | exact px_go (ih (i + 1) (by grind) (by grind) (by grind) _ (fun b hb => ((h98.1 b hb).trans (h71.1 b hb)).trans (h1 b hb)) (gS_go h0 (by grind) hF1 ⟨by grind, by grind, c45⟩ hS4.1 hS4.2 h71.2 h98.2)) ⟨rfl, rfl, rfl, rfl, rfl, trivial⟩

set_option maxRecDepth 100000 in
theorem ks_isClosed {n : Nat} {I : px_I} {L : px_L} {R : px_R} (hg : px_G n R) (a k w : Int32) (hS : mS I) : px_KS M_X12_isClosed [.ref 103, .int a, .int k, .int w] n I L R (fun r I2 L2 => I2 = px_u I 103 70 (I 103 1) ∧ mDL L L2 ∧ feq (L2 143) (mD I a k w) ∧ ((r = 1 ∧ mGd I a k w) ∨ (r = 0 ∧ ¬ mGd I a k w))) := by
  refine px_of (plainFor_of_name np_RX12) (fun _ _ _ => trivial) rfl ?_
  refine px_cVW (ci := 12) rfl q_X12_isClosed_0 hg rfl trivial lk_12_203 nm_X12_begins (ks_begins hg _) rfl rfl (px_lit hg rfl) rfl rfl rfl ⟨rfl, rfl⟩ ?_
  intro I5 L5 h5
  obtain ⟨rfl, h5, h5f⟩ := h5
  refine px_b rfl q_X12_isClosed_8 hg rfl trivial ?_
  exact px_go (ls_isClosed hg a k w (I := px_u I 103 70 (I 103 1)) L (by unfold mS at *; simpa [px_ur] using hS) (by simp [px_ur]) (fun r L2 h hD hr => ⟨rfl, rfl, r, rfl, rfl, h, hD, hr⟩) 0 (by unfold mS at hS; simp [px_ur]; grind) (by decide) _ h5 (by rw [px_z0]; exact h5f)) ⟨rfl, rfl, rfl, rfl, rfl, trivial⟩

set_option maxRecDepth 100000 in
theorem ks_closed {n : Nat} {I : px_I} {L : px_L} {R : px_R} (hg : px_G n R) (a k : Int32) (hS : mS I) : px_KS M_X12_closed [.ref 103, .int a, .int k] n I L R (fun r I2 L2 => (mDI I I2 ∧ mDL L L2) ∧ qClosed (mGd I a k (-1)) a k r) := by
  refine px_of (plainFor_of_name np_RX12) (fun _ _ _ => trivial) rfl ?_
  refine px_cSP rfl q_X12_closed_0 hg rfl trivial lk_12_180 nm_X12_isAxis (k_isAxis hg _) rfl rfl rfl ⟨rfl, rfl⟩ ?_
  intro x1 h1
  refine px_eq rfl q_X12_closed_4 hg rfl trivial (fun c4 => ?_) (fun c4 => ?_)
  · replace h1 := px_bf h1 c4
    refine px_riS rfl q_X12_closed_14 rfl rfl rfl hg rfl trivial ⟨⟨rfl, rfl⟩, ?_⟩
    exact ⟨⟨fun _ _ _ => rfl, fun _ _ => rfl⟩, Or.inr ⟨by unfold qOk; grind, rfl⟩⟩
  · replace h1 := px_bt h1 c4
    refine px_cSP rfl q_X12_closed_7 hg rfl trivial lk_12_211 nm_X12_isKnown (k_isKnown hg _) rfl rfl rfl ⟨rfl, rfl⟩ ?_
    intro x8 h8
    refine px_ne rfl q_X12_closed_11 hg rfl trivial (fun c11 => ?_) (fun c11 => ?_)
    · replace h8 := px_bt h8 c11
      refine px_cVS (ci := 12) rfl q_X12_closed_18 hg rfl trivial lk_12_214 nm_X12_isClosed (ks_isClosed hg _ _ _ ‹_›) rfl rfl (px_lit hg rfl) rfl rfl rfl ⟨rfl, rfl⟩ ?_
      intro x22 I22 L22 h22
      obtain ⟨rfl, h22a, h22b, h22c⟩ := h22
      refine px_eq rfl q_X12_closed_25 hg rfl trivial (fun c25 => ?_) (fun c25 => ?_)
      · refine px_riS rfl q_X12_closed_32 rfl rfl rfl hg rfl trivial ⟨⟨rfl, rfl⟩, ?_⟩
        exact ⟨⟨fun b j h => by simp [px_ur]; grind, h22a⟩, Or.inl ⟨⟨h1, h8⟩, h22c.imp (fun q => absurd (q.1.symm.trans c25) (by decide)) (fun q => ⟨rfl, q.2⟩)⟩⟩
      · refine px_riS rfl q_X12_closed_28 rfl rfl rfl hg rfl trivial ⟨⟨rfl, rfl⟩, ?_⟩
        exact ⟨⟨fun b j h => by simp [px_ur]; grind, h22a⟩, Or.inl ⟨⟨h1, h8⟩, h22c.imp (fun q => ⟨rfl, q.2⟩) (fun q => absurd q.1 c25)⟩⟩
    · replace h8 := px_bf h8 c11
      refine px_riS rfl q_X12_closed_14 rfl rfl rfl hg rfl trivial ⟨⟨rfl, rfl⟩, ?_⟩
      exact ⟨⟨fun _ _ _ => rfl, fun _ _ => rfl⟩, Or.inr ⟨by unfold qOk; grind, rfl⟩⟩

set_option maxRecDepth 100000 in
theorem ks_gap {n : Nat} {I : px_I} {L : px_L} {R : px_R} (hg : px_G n R) (a f t k h : Int32) (hS : mS I) : px_KS M_X12_gap [.ref 103, .int a, .int f, .int t, .int k, .int h] n I L R (fun r I2 L2 => (mDI I I2 ∧ mDL L L2) ∧ qGap (mGd I a k (-1)) (mD I a k (-1)) (I 103 1) a f t k h r) := by
  refine px_of (plainFor_of_name np_RX12) (fun _ _ _ => trivial) rfl ?_
  refine px_cSP rfl q_X12_gap_0 hg rfl trivial lk_12_180 nm_X12_isAxis (k_isAxis hg _) rfl rfl rfl ⟨rfl, rfl⟩ ?_
  intro x1 h1
  refine px_eq rfl q_X12_gap_4 hg rfl trivial (fun c4 => ?_) (fun c4 => ?_)
  · replace h1 := px_bf h1 c4
    refine px_riS rfl q_X12_gap_42 rfl rfl rfl hg rfl trivial ⟨⟨rfl, rfl⟩, ?_⟩
    first
      | exact ⟨⟨fun b j h => by simp [px_ur]; grind, h36a⟩, Or.inl ⟨hok, Or.inr ⟨h36c.elim (fun q => absurd q.1 (by grind)) (fun q => q.2), rfl⟩⟩⟩
      | exact ⟨⟨fun _ _ _ => rfl, fun _ _ => rfl⟩, Or.inr ⟨by unfold qOk; grind, rfl⟩⟩
  · replace h1 := px_bt h1 c4
    refine px_cVP (ci := 12) rfl q_X12_gap_7 hg rfl trivial lk_12_184 nm_X12_isStation (k_isStation hg _) rfl rfl (px_lit hg rfl) rfl rfl rfl ⟨rfl, rfl⟩ ?_
    intro x9 h9
    refine px_eq rfl q_X12_gap_12 hg rfl trivial (fun c12 => ?_) (fun c12 => ?_)
    · replace h9 := px_bf h9 c12
      refine px_riS rfl q_X12_gap_42 rfl rfl rfl hg rfl trivial ⟨⟨rfl, rfl⟩, ?_⟩
      first
        | exact ⟨⟨fun b j h => by simp [px_ur]; grind, h36a⟩, Or.inl ⟨hok, Or.inr ⟨h36c.elim (fun q => absurd q.1 (by grind)) (fun q => q.2), rfl⟩⟩⟩
        | exact ⟨⟨fun _ _ _ => rfl, fun _ _ => rfl⟩, Or.inr ⟨by unfold qOk; grind, rfl⟩⟩
    · replace h9 := px_bt h9 c12
      refine px_cVP (ci := 12) rfl q_X12_gap_15 hg rfl trivial lk_12_184 nm_X12_isStation (k_isStation hg _) rfl rfl (px_lit hg rfl) rfl rfl rfl ⟨rfl, rfl⟩ ?_
      intro x17 h17
      refine px_eq rfl q_X12_gap_20 hg rfl trivial (fun c20 => ?_) (fun c20 => ?_)
      · replace h17 := px_bf h17 c20
        refine px_riS rfl q_X12_gap_42 rfl rfl rfl hg rfl trivial ⟨⟨rfl, rfl⟩, ?_⟩
        first
          | exact ⟨⟨fun b j h => by simp [px_ur]; grind, h36a⟩, Or.inl ⟨hok, Or.inr ⟨h36c.elim (fun q => absurd q.1 (by grind)) (fun q => q.2), rfl⟩⟩⟩
          | exact ⟨⟨fun _ _ _ => rfl, fun _ _ => rfl⟩, Or.inr ⟨by unfold qOk; grind, rfl⟩⟩
      · replace h17 := px_bt h17 c20
        refine px_cSP rfl q_X12_gap_23 hg rfl trivial lk_12_211 nm_X12_isKnown (k_isKnown hg _) rfl rfl rfl ⟨rfl, rfl⟩ ?_
        intro x25 h25
        refine px_eq rfl q_X12_gap_28 hg rfl trivial (fun c28 => ?_) (fun c28 => ?_)
        · replace h25 := px_bf h25 c28
          refine px_riS rfl q_X12_gap_42 rfl rfl rfl hg rfl trivial ⟨⟨rfl, rfl⟩, ?_⟩
          first
            | exact ⟨⟨fun b j h => by simp [px_ur]; grind, h36a⟩, Or.inl ⟨hok, Or.inr ⟨h36c.elim (fun q => absurd q.1 (by grind)) (fun q => q.2), rfl⟩⟩⟩
            | exact ⟨⟨fun _ _ _ => rfl, fun _ _ => rfl⟩, Or.inr ⟨by unfold qOk; grind, rfl⟩⟩
        · replace h25 := px_bt h25 c28
          refine px_cVS (ci := 12) rfl q_X12_gap_31 hg rfl trivial lk_12_214 nm_X12_isClosed (ks_isClosed hg _ _ _ ‹_›) rfl rfl (px_lit hg rfl) rfl rfl rfl ⟨rfl, rfl⟩ ?_
          intro x36 I36 L36 h36
          obtain ⟨rfl, h36a, h36b, h36c⟩ := h36
          obtain ⟨hS1, hS2, hS3⟩ := id hS
          have hok : qOk a k ∧ (0 ≤ f ∧ f < I 103 1) ∧ (0 ≤ t ∧ t < I 103 1) := ⟨⟨h1, h25⟩, ⟨h9.1, by grind⟩, h17.1, by grind⟩
          refine px_ne rfl q_X12_gap_39 hg rfl trivial (fun c39 => ?_) (fun c39 => ?_)
          · refine px_cVP (ci := 12) rfl q_X12_gap_47 hg rfl trivial lk_12_219 nm_X12_gapOf (k_gapOf hg _ _ _ (by grind) (by grind)) rfl rfl (px_lit hg rfl) rfl rfl rfl ⟨rfl, rfl⟩ ?_
            intro x52 h52
            refine px_riS rfl q_X12_gap_55 rfl rfl rfl hg rfl trivial ⟨⟨rfl, rfl⟩, ?_⟩
            refine ⟨⟨fun b j h => by simp [px_ur]; grind, h36a⟩, Or.inl ⟨hok, Or.inl ⟨h36c.elim (fun q => q.2) (fun q => absurd q.1 c39), ?_⟩⟩⟩
            rw [h52]
            exact mGp_eq ⟨by grind, by grind⟩ ⟨by grind, by grind⟩ h36b
          · refine px_riS rfl q_X12_gap_42 rfl rfl rfl hg rfl trivial ⟨⟨rfl, rfl⟩, ?_⟩
            first
              | exact ⟨⟨fun b j h => by simp [px_ur]; grind, h36a⟩, Or.inl ⟨hok, Or.inr ⟨h36c.elim (fun q => absurd q.1 (by grind)) (fun q => q.2), rfl⟩⟩⟩
              | exact ⟨⟨fun _ _ _ => rfl, fun _ _ => rfl⟩, Or.inr ⟨by unfold qOk; grind, rfl⟩⟩

set_option maxRecDepth 100000 in
theorem ks_span {n : Nat} {I : px_I} {L : px_L} {R : px_R} (hg : px_G n R) (a t k h : Int32) (hS : mS I) : px_KS M_X12_span [.ref 103, .int a, .int t, .int k, .int h] n I L R (fun r I2 L2 => (mDI I I2 ∧ mDL L L2) ∧ qGap (mGd I a k (-1)) (mD I a k (-1)) (I 103 1) a 0 t k h r) := by
  refine px_of (plainFor_of_name np_RX12) (fun _ _ _ => trivial) rfl ?_
  refine px_cVS (ci := 12) rfl q_X12_span_0 hg rfl trivial lk_12_223 nm_X12_gap (ks_gap hg _ _ _ _ _ ‹_›) rfl rfl (px_lit hg rfl) rfl rfl rfl ⟨rfl, rfl⟩ ?_
  intro x7 I7 L7 h7
  refine px_riS rfl q_X12_span_10 rfl rfl rfl hg rfl trivial ⟨⟨rfl, rfl⟩, ?_⟩
  assumption
