/-! the reference: sights, galleries, counts, the tape -/
def mGap (L : px_L) (f t h : Int32) : Int32 := if ¬ h = 0 then (if 1000000000000 ≤ L 143 (24 * f + t).toNatClampNeg then -2000000000 else (L 143 (24 * f + t).toNatClampNeg).toInt32) else (if 1000000000000 ≤ L 143 (24 * t + f).toNatClampNeg then -2000000000 else (-(L 143 (24 * t + f).toNatClampNeg)).toInt32)
def mG (I : px_I) : Prop := ∀ g : Int32, 0 ≤ g → g ≤ 1 → (0 ≤ I 110 g.toNatClampNeg ∧ I 110 g.toNatClampNeg ≤ 20) ∧ ∀ p : Int32, 1 ≤ p → p < I 110 g.toNatClampNeg → 1 ≤ I 111 (20 * g + p).toNatClampNeg ∧ 1 ≤ I 112 (20 * g + p).toNatClampNeg ∧ 1 ≤ I 113 (20 * g + p).toNatClampNeg ∧ 1 ≤ I 114 (20 * g + p).toNatClampNeg
def mT (I : px_I) : Prop := ∀ k : Int32, 0 ≤ k → k < 40 → -1 ≤ I 116 k.toNatClampNeg ∧ I 116 k.toNatClampNeg < 24
def mM (I : px_I) : Prop := (0 ≤ I 103 16 ∧ I 103 16 ≤ 40) ∧ ∀ k : Int32, 0 ≤ k → k < I 103 16 → (0 ≤ I 117 k.toNatClampNeg ∧ I 117 k.toNatClampNeg ≤ 1) ∧ 0 ≤ I 118 k.toNatClampNeg ∧ I 118 k.toNatClampNeg < I 110 (I 117 k.toNatClampNeg).toNatClampNeg

theorem q_X12_closed_0 : px_bk 12 3 cX12_closed 0 [(.iload_n 1, (0, 0, 0, 0, 0), 0, 0)] = some 1 ∧ px_tS cX12_closed 1 180 = true := by decide +kernel
theorem q_X12_closed_4 : px_bk 12 3 cX12_closed 4 [] = some 4 ∧ px_t1 cX12_closed 4 .eq 14 = true := by decide +kernel
theorem q_X12_closed_14 : px_bk 12 3 cX12_closed 14 [(.iconst (-1), (0, 0, 0, 0, 0), -1, 0), (.goto 18, (0, 0, 0, 0, 0), 0, 0)] = some 33 ∧ px_tr cX12_closed 33 .ireturn = true := by decide +kernel
theorem q_X12_closed_7 : px_bk 12 3 cX12_closed 7 [(.iload_n 2, (0, 0, 0, 0, 0), 0, 0)] = some 8 ∧ px_tS cX12_closed 8 211 = true := by decide +kernel
theorem q_X12_closed_11 : px_bk 12 3 cX12_closed 11 [] = some 11 ∧ px_t1 cX12_closed 11 .ne 18 = true := by decide +kernel
theorem q_X12_closed_18 : px_bk 12 3 cX12_closed 18 [(.aload_n 0, (0, 0, 0, 0, 0), 0, 0), (.iload_n 1, (0, 0, 0, 0, 0), 0, 0), (.iload_n 2, (0, 0, 0, 0, 0), 0, 0), (.iconst (-1), (0, 0, 0, 0, 0), -1, 0)] = some 22 ∧ px_tv cX12_closed 22 214 = true := by decide +kernel
theorem q_X12_closed_25 : px_bk 12 3 cX12_closed 25 [] = some 25 ∧ px_t1 cX12_closed 25 .eq 32 = true := by decide +kernel
theorem q_X12_closed_32 : px_bk 12 3 cX12_closed 32 [(.iconst 0, (0, 0, 0, 0, 0), 0, 0)] = some 33 ∧ px_tr cX12_closed 33 .ireturn = true := by decide +kernel
theorem q_X12_closed_28 : px_bk 12 3 cX12_closed 28 [(.iconst 1, (0, 0, 0, 0, 0), 1, 0), (.goto 4, (0, 0, 0, 0, 0), 0, 0)] = some 33 ∧ px_tr cX12_closed 33 .ireturn = true := by decide +kernel
set_option maxRecDepth 100000 in
theorem k_closed {n : Nat} {I : px_I} {L : px_L} {R : px_R} (hg : px_G n R) (a k : Int32) (hS : mS I) : px_KS M_X12_closed [.ref 103, .int a, .int k] n I L R (fun r I2 L2 => mDI I I2 ∧ mDL L L2) := by
  refine px_of (plainFor_of_name np_RX12) (fun _ _ _ => trivial) rfl ?_
  refine px_cSP rfl q_X12_closed_0 hg rfl trivial lk_12_180 nm_X12_isAxis (k_isAxis hg _) rfl rfl rfl ⟨rfl, rfl⟩ ?_
  intro x1 h1
  refine px_eq rfl q_X12_closed_4 hg rfl trivial (fun c4 => ?_) (fun c4 => ?_)
  · replace h1 := px_bf h1 c4
    refine px_riS rfl q_X12_closed_14 rfl rfl rfl hg rfl trivial ⟨⟨rfl, rfl⟩, ?_⟩
    first | exact ⟨fun _ _ _ => rfl, fun _ _ => rfl⟩ | exact ⟨fun b j h => by simp [px_ur]; grind, by assumption⟩
  · replace h1 := px_bt h1 c4
    refine px_cSP rfl q_X12_closed_7 hg rfl trivial lk_12_211 nm_X12_isKnown (k_isKnown hg _) rfl rfl rfl ⟨rfl, rfl⟩ ?_
    intro x8 h8
    refine px_ne rfl q_X12_closed_11 hg rfl trivial (fun c11 => ?_) (fun c11 => ?_)
    · replace h8 := px_bt h8 c11
      refine px_cVS (ci := 12) rfl q_X12_closed_18 hg rfl trivial lk_12_214 nm_X12_isClosed (k_isClosed hg _ _ _ ‹_›) rfl rfl (px_lit hg rfl) rfl rfl rfl ⟨rfl, rfl⟩ ?_
      intro x22 I22 L22 h22
      obtain ⟨hr, rfl, h22⟩ := h22
      refine px_eq rfl q_X12_closed_25 hg rfl trivial (fun c25 => ?_) (fun c25 => ?_)
      · refine px_riS rfl q_X12_closed_32 rfl rfl rfl hg rfl trivial ⟨⟨rfl, rfl⟩, ?_⟩
        first | exact ⟨fun _ _ _ => rfl, fun _ _ => rfl⟩ | exact ⟨fun b j h => by simp [px_ur]; grind, by assumption⟩
      · refine px_riS rfl q_X12_closed_28 rfl rfl rfl hg rfl trivial ⟨⟨rfl, rfl⟩, ?_⟩
        first | exact ⟨fun _ _ _ => rfl, fun _ _ => rfl⟩ | exact ⟨fun b j h => by simp [px_ur]; grind, by assumption⟩
    · replace h8 := px_bf h8 c11
      refine px_riS rfl q_X12_closed_14 rfl rfl rfl hg rfl trivial ⟨⟨rfl, rfl⟩, ?_⟩
      first | exact ⟨fun _ _ _ => rfl, fun _ _ => rfl⟩ | exact ⟨fun b j h => by simp [px_ur]; grind, by assumption⟩

theorem q_X12_gapOf_0 : px_bk 12 6 cX12_gapOf 0 [(.iload_n 3, (0, 0, 0, 0, 0), 0, 0)] = some 1 ∧ px_t1 cX12_gapOf 1 .eq 18 = true := by decide +kernel
theorem q_X12_gapOf_18 : px_bk 12 6 cX12_gapOf 18 [(.aload_n 0, (0, 0, 0, 0, 0), 0, 0), (.getfield 155, (12, 69, 3, 143, 0), 0, 0), (.bipush 24, (0, 0, 0, 0, 0), 24, 0), (.iload_n 2, (0, 0, 0, 0, 0), 0, 0), (.imul, (0, 0, 0, 0, 0), 0, 0), (.iload_n 1, (0, 0, 0, 0, 0), 0, 0), (.iadd, (0, 0, 0, 0, 0), 0, 0), (.laload, (0, 0, 0, 0, 0), 0, 0), (.lstore 4, (0, 0, 0, 0, 0), 0, 0), (.lload 4, (0, 0, 0, 0, 0), 0, 0), (.ldc2_w 197, (0, 0, 0, 0, 0), 0, 1000000000000), (.lcmp, (0, 0, 0, 0, 0), 0, 0)] = some 37 ∧ px_t1 cX12_gapOf 37 .lt 45 = true := by decide +kernel
theorem q_X12_gapOf_45 : px_bk 12 6 cX12_gapOf 45 [(.iload_n 3, (0, 0, 0, 0, 0), 0, 0)] = some 46 ∧ px_t1 cX12_gapOf 46 .eq 54 = true := by decide +kernel
theorem q_X12_gapOf_54 : px_bk 12 6 cX12_gapOf 54 [(.lload 4, (0, 0, 0, 0, 0), 0, 0), (.lneg, (0, 0, 0, 0, 0), 0, 0), (.l2i, (0, 0, 0, 0, 0), 0, 0)] = some 58 ∧ px_tr cX12_gapOf 58 .ireturn = true := by decide +kernel
theorem q_X12_gapOf_49 : px_bk 12 6 cX12_gapOf 49 [(.lload 4, (0, 0, 0, 0, 0), 0, 0), (.goto 6, (0, 0, 0, 0, 0), 0, 0), (.l2i, (0, 0, 0, 0, 0), 0, 0)] = some 58 ∧ px_tr cX12_gapOf 58 .ireturn = true := by decide +kernel
theorem q_X12_gapOf_40 : px_bk 12 6 cX12_gapOf 40 [(.ldc 218, (0, 0, 0, 0, 0), -2000000000, 0), (.goto 16, (0, 0, 0, 0, 0), 0, 0)] = some 58 ∧ px_tr cX12_gapOf 58 .ireturn = true := by decide +kernel
theorem q_X12_gapOf_4 : px_bk 12 6 cX12_gapOf 4 [(.aload_n 0, (0, 0, 0, 0, 0), 0, 0), (.getfield 155, (12, 69, 3, 143, 0), 0, 0), (.bipush 24, (0, 0, 0, 0, 0), 24, 0), (.iload_n 1, (0, 0, 0, 0, 0), 0, 0), (.imul, (0, 0, 0, 0, 0), 0, 0), (.iload_n 2, (0, 0, 0, 0, 0), 0, 0), (.iadd, (0, 0, 0, 0, 0), 0, 0), (.laload, (0, 0, 0, 0, 0), 0, 0), (.goto 14, (0, 0, 0, 0, 0), 0, 0), (.lstore 4, (0, 0, 0, 0, 0), 0, 0), (.lload 4, (0, 0, 0, 0, 0), 0, 0), (.ldc2_w 197, (0, 0, 0, 0, 0), 0, 1000000000000), (.lcmp, (0, 0, 0, 0, 0), 0, 0)] = some 37 ∧ px_t1 cX12_gapOf 37 .lt 45 = true := by decide +kernel
set_option maxRecDepth 100000 in
theorem k_gapOf {n : Nat} {I : px_I} {L : px_L} {R : px_R} (hg : px_G n R) (f t h : Int32) (hf : 0 ≤ f ∧ f < 24) (ht : 0 ≤ t ∧ t < 24) : px_KP M_X12_gapOf [.ref 103, .int f, .int t, .int h] n I L R (fun r => r = mGap L f t h) := by
  refine px_of (plainFor_of_name np_RX12) (fun _ _ _ => trivial) rfl ?_
  refine px_eq rfl q_X12_gapOf_0 hg rfl trivial (fun c1 => ?_) (fun c1 => ?_)
  · refine px_llt rfl q_X12_gapOf_18 hg rfl ⟨trivial, (by first | decide | (refine ⟨?_, ?_⟩ <;> grind) | grind)⟩ (fun c37 => ?_) (fun c37 => ?_)
    · refine px_eq rfl q_X12_gapOf_45 hg rfl trivial (fun c46 => ?_) (fun c46 => ?_)
      · refine px_riP rfl q_X12_gapOf_54 rfl rfl rfl hg rfl trivial ⟨⟨rfl, rfl, rfl, rfl⟩, ?_⟩
        unfold mGap; grind
      · refine px_riP rfl q_X12_gapOf_49 rfl rfl rfl hg rfl trivial ⟨⟨rfl, rfl, rfl, rfl⟩, ?_⟩
        unfold mGap; grind
    · refine px_riP rfl q_X12_gapOf_40 rfl rfl rfl hg rfl trivial ⟨⟨rfl, rfl, rfl, rfl⟩, ?_⟩
      unfold mGap; grind
  · refine px_llt rfl q_X12_gapOf_4 hg rfl ⟨trivial, (by first | decide | (refine ⟨?_, ?_⟩ <;> grind) | grind)⟩ (fun c37 => ?_) (fun c37 => ?_)
    · refine px_eq rfl q_X12_gapOf_45 hg rfl trivial (fun c46 => ?_) (fun c46 => ?_)
      · refine px_riP rfl q_X12_gapOf_54 rfl rfl rfl hg rfl trivial ⟨⟨rfl, rfl, rfl, rfl⟩, ?_⟩
        unfold mGap; grind
      · refine px_riP rfl q_X12_gapOf_49 rfl rfl rfl hg rfl trivial ⟨⟨rfl, rfl, rfl, rfl⟩, ?_⟩
        unfold mGap; grind
    · refine px_riP rfl q_X12_gapOf_40 rfl rfl rfl hg rfl trivial ⟨⟨rfl, rfl, rfl, rfl⟩, ?_⟩
      unfold mGap; grind

theorem q_X12_gap_0 : px_bk 12 6 cX12_gap 0 [(.iload_n 1, (0, 0, 0, 0, 0), 0, 0)] = some 1 ∧ px_tS cX12_gap 1 180 = true := by decide +kernel
theorem q_X12_gap_4 : px_bk 12 6 cX12_gap 4 [] = some 4 ∧ px_t1 cX12_gap 4 .eq 42 = true := by decide +kernel
theorem q_X12_gap_42 : px_bk 12 6 cX12_gap 42 [(.ldc 218, (0, 0, 0, 0, 0), -2000000000, 0), (.goto 11, (0, 0, 0, 0, 0), 0, 0)] = some 55 ∧ px_tr cX12_gap 55 .ireturn = true := by decide +kernel
theorem q_X12_gap_7 : px_bk 12 6 cX12_gap 7 [(.aload_n 0, (0, 0, 0, 0, 0), 0, 0), (.iload_n 2, (0, 0, 0, 0, 0), 0, 0)] = some 9 ∧ px_tv cX12_gap 9 184 = true := by decide +kernel
theorem q_X12_gap_12 : px_bk 12 6 cX12_gap 12 [] = some 12 ∧ px_t1 cX12_gap 12 .eq 42 = true := by decide +kernel
theorem q_X12_gap_15 : px_bk 12 6 cX12_gap 15 [(.aload_n 0, (0, 0, 0, 0, 0), 0, 0), (.iload_n 3, (0, 0, 0, 0, 0), 0, 0)] = some 17 ∧ px_tv cX12_gap 17 184 = true := by decide +kernel
theorem q_X12_gap_20 : px_bk 12 6 cX12_gap 20 [] = some 20 ∧ px_t1 cX12_gap 20 .eq 42 = true := by decide +kernel
theorem q_X12_gap_23 : px_bk 12 6 cX12_gap 23 [(.iload 4, (0, 0, 0, 0, 0), 0, 0)] = some 25 ∧ px_tS cX12_gap 25 211 = true := by decide +kernel
theorem q_X12_gap_28 : px_bk 12 6 cX12_gap 28 [] = some 28 ∧ px_t1 cX12_gap 28 .eq 42 = true := by decide +kernel
theorem q_X12_gap_31 : px_bk 12 6 cX12_gap 31 [(.aload_n 0, (0, 0, 0, 0, 0), 0, 0), (.iload_n 1, (0, 0, 0, 0, 0), 0, 0), (.iload 4, (0, 0, 0, 0, 0), 0, 0), (.iconst (-1), (0, 0, 0, 0, 0), -1, 0)] = some 36 ∧ px_tv cX12_gap 36 214 = true := by decide +kernel
theorem q_X12_gap_39 : px_bk 12 6 cX12_gap 39 [] = some 39 ∧ px_t1 cX12_gap 39 .ne 47 = true := by decide +kernel
theorem q_X12_gap_47 : px_bk 12 6 cX12_gap 47 [(.aload_n 0, (0, 0, 0, 0, 0), 0, 0), (.iload_n 2, (0, 0, 0, 0, 0), 0, 0), (.iload_n 3, (0, 0, 0, 0, 0), 0, 0), (.iload 5, (0, 0, 0, 0, 0), 0, 0)] = some 52 ∧ px_tv cX12_gap 52 219 = true := by decide +kernel
theorem q_X12_gap_55 : px_bk 12 6 cX12_gap 55 [] = some 55 ∧ px_tr cX12_gap 55 .ireturn = true := by decide +kernel
set_option maxRecDepth 100000 in
theorem k_gap {n : Nat} {I : px_I} {L : px_L} {R : px_R} (hg : px_G n R) (a f t k h : Int32) (hS : mS I) : px_KS M_X12_gap [.ref 103, .int a, .int f, .int t, .int k, .int h] n I L R (fun r I2 L2 => mDI I I2 ∧ mDL L L2) := by
  refine px_of (plainFor_of_name np_RX12) (fun _ _ _ => trivial) rfl ?_
  refine px_cSP rfl q_X12_gap_0 hg rfl trivial lk_12_180 nm_X12_isAxis (k_isAxis hg _) rfl rfl rfl ⟨rfl, rfl⟩ ?_
  intro x1 h1
  refine px_eq rfl q_X12_gap_4 hg rfl trivial (fun c4 => ?_) (fun c4 => ?_)
  · replace h1 := px_bf h1 c4
    refine px_riS rfl q_X12_gap_42 rfl rfl rfl hg rfl trivial ⟨⟨rfl, rfl⟩, ?_⟩
    first | exact ⟨fun _ _ _ => rfl, fun _ _ => rfl⟩ | exact ⟨fun b j h => by simp [px_ur]; grind, by assumption⟩
  · replace h1 := px_bt h1 c4
    refine px_cVP (ci := 12) rfl q_X12_gap_7 hg rfl trivial lk_12_184 nm_X12_isStation (k_isStation hg _) rfl rfl (px_lit hg rfl) rfl rfl rfl ⟨rfl, rfl⟩ ?_
    intro x9 h9
    refine px_eq rfl q_X12_gap_12 hg rfl trivial (fun c12 => ?_) (fun c12 => ?_)
    · replace h9 := px_bf h9 c12
      refine px_riS rfl q_X12_gap_42 rfl rfl rfl hg rfl trivial ⟨⟨rfl, rfl⟩, ?_⟩
      first | exact ⟨fun _ _ _ => rfl, fun _ _ => rfl⟩ | exact ⟨fun b j h => by simp [px_ur]; grind, by assumption⟩
    · replace h9 := px_bt h9 c12
      refine px_cVP (ci := 12) rfl q_X12_gap_15 hg rfl trivial lk_12_184 nm_X12_isStation (k_isStation hg _) rfl rfl (px_lit hg rfl) rfl rfl rfl ⟨rfl, rfl⟩ ?_
      intro x17 h17
      refine px_eq rfl q_X12_gap_20 hg rfl trivial (fun c20 => ?_) (fun c20 => ?_)
      · replace h17 := px_bf h17 c20
        refine px_riS rfl q_X12_gap_42 rfl rfl rfl hg rfl trivial ⟨⟨rfl, rfl⟩, ?_⟩
        first | exact ⟨fun _ _ _ => rfl, fun _ _ => rfl⟩ | exact ⟨fun b j h => by simp [px_ur]; grind, by assumption⟩
      · replace h17 := px_bt h17 c20
        refine px_cSP rfl q_X12_gap_23 hg rfl trivial lk_12_211 nm_X12_isKnown (k_isKnown hg _) rfl rfl rfl ⟨rfl, rfl⟩ ?_
        intro x25 h25
        refine px_eq rfl q_X12_gap_28 hg rfl trivial (fun c28 => ?_) (fun c28 => ?_)
        · replace h25 := px_bf h25 c28
          refine px_riS rfl q_X12_gap_42 rfl rfl rfl hg rfl trivial ⟨⟨rfl, rfl⟩, ?_⟩
          first | exact ⟨fun _ _ _ => rfl, fun _ _ => rfl⟩ | exact ⟨fun b j h => by simp [px_ur]; grind, by assumption⟩
        · replace h25 := px_bt h25 c28
          refine px_cVS (ci := 12) rfl q_X12_gap_31 hg rfl trivial lk_12_214 nm_X12_isClosed (k_isClosed hg _ _ _ ‹_›) rfl rfl (px_lit hg rfl) rfl rfl rfl ⟨rfl, rfl⟩ ?_
          intro x36 I36 L36 h36
          obtain ⟨hr, rfl, h36⟩ := h36
          obtain ⟨hS1, hS2, hS3⟩ := id hS
          refine px_ne rfl q_X12_gap_39 hg rfl trivial (fun c39 => ?_) (fun c39 => ?_)
          · refine px_cVP (ci := 12) rfl q_X12_gap_47 hg rfl trivial lk_12_219 nm_X12_gapOf (k_gapOf hg _ _ _ (by grind) (by grind)) rfl rfl (px_lit hg rfl) rfl rfl rfl ⟨rfl, rfl⟩ ?_
            intro x52 h52
            refine px_riS rfl q_X12_gap_55 rfl rfl rfl hg rfl trivial ⟨⟨rfl, rfl⟩, ?_⟩
            first | exact ⟨fun _ _ _ => rfl, fun _ _ => rfl⟩ | exact ⟨fun b j h => by simp [px_ur]; grind, by assumption⟩
          · refine px_riS rfl q_X12_gap_42 rfl rfl rfl hg rfl trivial ⟨⟨rfl, rfl⟩, ?_⟩
            first | exact ⟨fun _ _ _ => rfl, fun _ _ => rfl⟩ | exact ⟨fun b j h => by simp [px_ur]; grind, by assumption⟩

theorem q_X12_span_0 : px_bk 12 5 cX12_span 0 [(.aload_n 0, (0, 0, 0, 0, 0), 0, 0), (.iload_n 1, (0, 0, 0, 0, 0), 0, 0), (.iconst 0, (0, 0, 0, 0, 0), 0, 0), (.iload_n 2, (0, 0, 0, 0, 0), 0, 0), (.iload_n 3, (0, 0, 0, 0, 0), 0, 0), (.iload 4, (0, 0, 0, 0, 0), 0, 0)] = some 7 ∧ px_tv cX12_span 7 223 = true := by decide +kernel
theorem q_X12_span_10 : px_bk 12 5 cX12_span 10 [] = some 10 ∧ px_tr cX12_span 10 .ireturn = true := by decide +kernel
set_option maxRecDepth 100000 in
theorem k_span {n : Nat} {I : px_I} {L : px_L} {R : px_R} (hg : px_G n R) (a t k h : Int32) (hS : mS I) : px_KS M_X12_span [.ref 103, .int a, .int t, .int k, .int h] n I L R (fun r I2 L2 => mDI I I2 ∧ mDL L L2) := by
  refine px_of (plainFor_of_name np_RX12) (fun _ _ _ => trivial) rfl ?_
  refine px_cVS (ci := 12) rfl q_X12_span_0 hg rfl trivial lk_12_223 nm_X12_gap (k_gap hg _ _ _ _ _ ‹_›) rfl rfl (px_lit hg rfl) rfl rfl rfl ⟨rfl, rfl⟩ ?_
  intro x7 I7 L7 h7
  refine px_riS rfl q_X12_span_10 rfl rfl rfl hg rfl trivial ⟨⟨rfl, rfl⟩, ?_⟩
  assumption

theorem q_X12_blamed_36 : px_bk 12 6 cX12_blamed 36 [(.iload 5, (0, 0, 0, 0, 0), 0, 0), (.aload_n 0, (0, 0, 0, 0, 0), 0, 0), (.getfield 191, (12, 2, 0, 0, 0), 0, 0)] = some 42 ∧ px_t2 cX12_blamed 42 .ge 95 = true := by decide +kernel
theorem q_X12_blamed_95 : px_bk 12 6 cX12_blamed 95 [(.iconst (-1), (0, 0, 0, 0, 0), -1, 0)] = some 96 ∧ px_tr cX12_blamed 96 .ireturn = true := by decide +kernel
theorem q_X12_blamed_45 : px_bk 12 6 cX12_blamed 45 [(.aload_n 0, (0, 0, 0, 0, 0), 0, 0), (.getfield 13, (12, 3, 3, 104, 0), 0, 0), (.iload 5, (0, 0, 0, 0, 0), 0, 0), (.iaload, (0, 0, 0, 0, 0), 0, 0), (.iload_n 1, (0, 0, 0, 0, 0), 0, 0)] = some 53 ∧ px_t2 cX12_blamed 53 .ne 89 = true := by decide +kernel
theorem q_X12_blamed_89 : px_bk 12 6 cX12_blamed 89 [(.iinc 5 1, (0, 0, 0, 0, 0), 1, 0), (.goto (-56), (0, 0, 0, 0, 0), 0, 0)] = some 36 := by decide +kernel
theorem q_X12_blamed_56 : px_bk 12 6 cX12_blamed 56 [(.aload_n 0, (0, 0, 0, 0, 0), 0, 0), (.getfield 29, (12, 8, 3, 109, 0), 0, 0), (.iload 5, (0, 0, 0, 0, 0), 0, 0), (.iaload, (0, 0, 0, 0, 0), 0, 0), (.iload_n 2, (0, 0, 0, 0, 0), 0, 0)] = some 64 ∧ px_t2 cX12_blamed 64 .gt 89 = true := by decide +kernel
theorem q_X12_blamed_67 : px_bk 12 6 cX12_blamed 67 [(.aload_n 0, (0, 0, 0, 0, 0), 0, 0), (.iload_n 1, (0, 0, 0, 0, 0), 0, 0), (.iload_n 2, (0, 0, 0, 0, 0), 0, 0), (.iload 5, (0, 0, 0, 0, 0), 0, 0)] = some 72 ∧ px_tv cX12_blamed 72 214 = true := by decide +kernel
theorem q_X12_blamed_75 : px_bk 12 6 cX12_blamed 75 [] = some 75 ∧ px_t1 cX12_blamed 75 .eq 89 = true := by decide +kernel
theorem q_X12_blamed_78 : px_bk 12 6 cX12_blamed 78 [(.iload 4, (0, 0, 0, 0, 0), 0, 0)] = some 80 ∧ px_t1 cX12_blamed 80 .ne 86 = true := by decide +kernel
theorem q_X12_blamed_86 : px_bk 12 6 cX12_blamed 86 [(.iinc 4 (-1), (0, 0, 0, 0, 0), -1, 0), (.iinc 5 1, (0, 0, 0, 0, 0), 1, 0), (.goto (-56), (0, 0, 0, 0, 0), 0, 0)] = some 36 := by decide +kernel
theorem q_X12_blamed_83 : px_bk 12 6 cX12_blamed 83 [(.iload 5, (0, 0, 0, 0, 0), 0, 0)] = some 85 ∧ px_tr cX12_blamed 85 .ireturn = true := by decide +kernel
set_option maxRecDepth 100000 in
theorem l_blamed {n : Nat} {R : px_R} (hg : px_G n R) {Q : px_Q} (a k i0 : Int32) {I0 : px_I} (L : px_L) (hS : mS I0) (hq : ∀ r I2 L2, mDI I0 I2 → mDL L L2 → Q (some (.int r)) n I2 L2 R) : ∀ i : Int32, i ≤ I0 103 2 → 0 ≤ i → ∀ (j : Int32) (I1 : px_I) (L1 : px_L), mS I1 → mDI I0 I1 → mDL L L1 → px M_X12_blamed 0 0 36 [(0, .ref 103), (1, .int a), (2, .int k), (3, .int i0), (4, .int j), (5, .int i)] [] n I1 L1 R Q := by
  refine px_up _ (fun i ih hk => ?_)
  intro h0 j I1 L1 hS1 hI1 hL1
  have he : I1 103 2 = I0 103 2 := hI1 103 2 (by decide)
  obtain ⟨hSa, hSb, hSc⟩ := id hS1
  refine px_ige rfl q_X12_blamed_36 hg rfl trivial (fun c42 => ?_) (fun c42 => ?_)
  · refine px_ri rfl q_X12_blamed_95 rfl rfl rfl hg rfl trivial ?_
    exact hq _ _ _ (by assumption) (by assumption)
  · refine px_ine rfl q_X12_blamed_45 hg rfl ⟨trivial, (by first | decide | (refine ⟨?_, ?_⟩ <;> grind) | grind)⟩ (fun c53 => ?_) (fun c53 => ?_)
    · refine px_b rfl q_X12_blamed_89 hg rfl trivial ?_
      exact px_go (ih (i + 1) (by grind) (by grind) (by grind) _ _ _ (by assumption) (by assumption) (by assumption)) ⟨rfl, rfl, rfl, rfl, rfl, rfl, trivial⟩
    · refine px_igt rfl q_X12_blamed_56 hg rfl ⟨trivial, (by first | decide | (refine ⟨?_, ?_⟩ <;> grind) | grind)⟩ (fun c64 => ?_) (fun c64 => ?_)
      · refine px_b rfl q_X12_blamed_89 hg rfl trivial ?_
        exact px_go (ih (i + 1) (by grind) (by grind) (by grind) _ _ _ (by assumption) (by assumption) (by assumption)) ⟨rfl, rfl, rfl, rfl, rfl, rfl, trivial⟩
      · refine px_cVS (ci := 12) rfl q_X12_blamed_67 hg rfl trivial lk_12_214 nm_X12_isClosed (k_isClosed hg _ _ _ ‹_›) rfl rfl (px_lit hg rfl) rfl rfl rfl ⟨rfl, rfl⟩ ?_
        intro x72 I72 L72 h72
        obtain ⟨hr, rfl, h72⟩ := h72
        have hS2 : mS (px_u I1 103 70 (I1 103 1)) := by unfold mS at *; simpa [px_ur] using hS1
        have hI2 : mDI I0 (px_u I1 103 70 (I1 103 1)) := fun b j h => by rw [← hI1 b j h]; simp [px_ur]; grind
        have hL2 : mDL L L72 := fun b h => (h72 b h).trans (hL1 b h)
        refine px_eq rfl q_X12_blamed_75 hg rfl trivial (fun c75 => ?_) (fun c75 => ?_)
        · refine px_b rfl q_X12_blamed_89 hg rfl trivial ?_
          exact px_go (ih (i + 1) (by grind) (by grind) (by grind) _ _ _ (by assumption) (by assumption) (by assumption)) ⟨rfl, rfl, rfl, rfl, rfl, rfl, trivial⟩
        · refine px_ne rfl q_X12_blamed_78 hg rfl trivial (fun c80 => ?_) (fun c80 => ?_)
          · refine px_b rfl q_X12_blamed_86 hg rfl trivial ?_
            exact px_go (ih (i + 1) (by grind) (by grind) (by grind) _ _ _ (by assumption) (by assumption) (by assumption)) ⟨rfl, rfl, rfl, rfl, rfl, rfl, trivial⟩
          · refine px_ri rfl q_X12_blamed_83 rfl rfl rfl hg rfl trivial ?_
            exact hq _ _ _ (by assumption) (by assumption)

theorem q_X12_blamed_0 : px_bk 12 6 cX12_blamed 0 [(.iload_n 1, (0, 0, 0, 0, 0), 0, 0)] = some 1 ∧ px_tS cX12_blamed 1 180 = true := by decide +kernel
theorem q_X12_blamed_4 : px_bk 12 6 cX12_blamed 4 [] = some 4 ∧ px_t1 cX12_blamed 4 .eq 28 = true := by decide +kernel
theorem q_X12_blamed_28 : px_bk 12 6 cX12_blamed 28 [(.iconst (-1), (0, 0, 0, 0, 0), -1, 0)] = some 29 ∧ px_tr cX12_blamed 29 .ireturn = true := by decide +kernel
theorem q_X12_blamed_7 : px_bk 12 6 cX12_blamed 7 [(.iload_n 2, (0, 0, 0, 0, 0), 0, 0)] = some 8 ∧ px_tS cX12_blamed 8 211 = true := by decide +kernel
theorem q_X12_blamed_11 : px_bk 12 6 cX12_blamed 11 [] = some 11 ∧ px_t1 cX12_blamed 11 .eq 28 = true := by decide +kernel
theorem q_X12_blamed_14 : px_bk 12 6 cX12_blamed 14 [(.iload_n 3, (0, 0, 0, 0, 0), 0, 0)] = some 15 ∧ px_t1 cX12_blamed 15 .lt 28 = true := by decide +kernel
theorem q_X12_blamed_18 : px_bk 12 6 cX12_blamed 18 [(.aload_n 0, (0, 0, 0, 0, 0), 0, 0), (.iload_n 1, (0, 0, 0, 0, 0), 0, 0), (.iload_n 2, (0, 0, 0, 0, 0), 0, 0), (.iconst (-1), (0, 0, 0, 0, 0), -1, 0)] = some 22 ∧ px_tv cX12_blamed 22 214 = true := by decide +kernel
theorem q_X12_blamed_25 : px_bk 12 6 cX12_blamed 25 [] = some 25 ∧ px_t1 cX12_blamed 25 .eq 30 = true := by decide +kernel
theorem q_X12_blamed_30 : px_bk 12 6 cX12_blamed 30 [(.iload_n 3, (0, 0, 0, 0, 0), 0, 0), (.istore 4, (0, 0, 0, 0, 0), 0, 0), (.iconst 0, (0, 0, 0, 0, 0), 0, 0), (.istore 5, (0, 0, 0, 0, 0), 0, 0)] = some 36 := by decide +kernel
set_option maxRecDepth 100000 in
theorem k_blamed {n : Nat} {I : px_I} {L : px_L} {R : px_R} (hg : px_G n R) (a k i : Int32) (hS : mS I) : px_KS M_X12_blamed [.ref 103, .int a, .int k, .int i] n I L R (fun r I2 L2 => mDI I I2 ∧ mDL L L2) := by
  refine px_of (plainFor_of_name np_RX12) (fun _ _ _ => trivial) rfl ?_
  refine px_cSP rfl q_X12_blamed_0 hg rfl trivial lk_12_180 nm_X12_isAxis (k_isAxis hg _) rfl rfl rfl ⟨rfl, rfl⟩ ?_
  intro x1 h1
  refine px_eq rfl q_X12_blamed_4 hg rfl trivial (fun c4 => ?_) (fun c4 => ?_)
  · replace h1 := px_bf h1 c4
    refine px_riS rfl q_X12_blamed_28 rfl rfl rfl hg rfl trivial ⟨⟨rfl, rfl⟩, ?_⟩
    first | exact ⟨fun _ _ _ => rfl, fun _ _ => rfl⟩ | exact ⟨fun b j h => by simp [px_ur]; grind, by assumption⟩
  · replace h1 := px_bt h1 c4
    refine px_cSP rfl q_X12_blamed_7 hg rfl trivial lk_12_211 nm_X12_isKnown (k_isKnown hg _) rfl rfl rfl ⟨rfl, rfl⟩ ?_
    intro x8 h8
    refine px_eq rfl q_X12_blamed_11 hg rfl trivial (fun c11 => ?_) (fun c11 => ?_)
    · replace h8 := px_bf h8 c11
      refine px_riS rfl q_X12_blamed_28 rfl rfl rfl hg rfl trivial ⟨⟨rfl, rfl⟩, ?_⟩
      first | exact ⟨fun _ _ _ => rfl, fun _ _ => rfl⟩ | exact ⟨fun b j h => by simp [px_ur]; grind, by assumption⟩
    · replace h8 := px_bt h8 c11
      refine px_lt rfl q_X12_blamed_14 hg rfl trivial (fun c15 => ?_) (fun c15 => ?_)
      · refine px_riS rfl q_X12_blamed_28 rfl rfl rfl hg rfl trivial ⟨⟨rfl, rfl⟩, ?_⟩
        first | exact ⟨fun _ _ _ => rfl, fun _ _ => rfl⟩ | exact ⟨fun b j h => by simp [px_ur]; grind, by assumption⟩
      · refine px_cVS (ci := 12) rfl q_X12_blamed_18 hg rfl trivial lk_12_214 nm_X12_isClosed (k_isClosed hg _ _ _ ‹_›) rfl rfl (px_lit hg rfl) rfl rfl rfl ⟨rfl, rfl⟩ ?_
        intro x22 I22 L22 h22
        obtain ⟨hr, rfl, h22⟩ := h22
        refine px_eq rfl q_X12_blamed_25 hg rfl trivial (fun c25 => ?_) (fun c25 => ?_)
        · refine px_b rfl q_X12_blamed_30 hg rfl trivial ?_
          exact px_go (l_blamed hg a k i L (I0 := px_u I 103 70 (I 103 1)) (by unfold mS at *; simpa [px_ur] using hS) (fun r I2 L2 h1 h2 => ⟨rfl, rfl, r, rfl, fun b j h => by rw [h1 b j h]; simp [px_ur]; grind, h2⟩) 0 (by unfold mS at hS; simp [px_ur]; grind) (by decide) i _ _ (by unfold mS at *; simpa [px_ur] using hS) (fun _ _ _ => rfl) h22) ⟨rfl, rfl, rfl, rfl, rfl, rfl, trivial⟩
        · refine px_riS rfl q_X12_blamed_28 rfl rfl rfl hg rfl trivial ⟨⟨rfl, rfl⟩, ?_⟩
          first | exact ⟨fun _ _ _ => rfl, fun _ _ => rfl⟩ | exact ⟨fun b j h => by simp [px_ur]; grind, by assumption⟩

theorem q_X12_isDug_129 : px_bk 12 7 cX12_isDug 129 [(.iload_n 3, (0, 0, 0, 0, 0), 0, 0), (.aload_n 0, (0, 0, 0, 0, 0), 0, 0), (.getfield 239, (12, 16, 0, 0, 0), 0, 0)] = some 134 ∧ px_t2 cX12_isDug 134 .ge 190 = true := by decide +kernel
theorem q_X12_isDug_190 : px_bk 12 7 cX12_isDug 190 [(.aload_n 0, (0, 0, 0, 0, 0), 0, 0)] = some 191 ∧ px_tv cX12_isDug 191 207 = true := by decide +kernel
theorem q_X12_isDug_194 : px_bk 12 7 cX12_isDug 194 [] = some 194 ∧ px_tr cX12_isDug 194 .ireturn = true := by decide +kernel
theorem q_X12_isDug_137 : px_bk 12 7 cX12_isDug 137 [(.aload_n 0, (0, 0, 0, 0, 0), 0, 0), (.getfield 53, (12, 17, 3, 117, 0), 0, 0), (.iload_n 3, (0, 0, 0, 0, 0), 0, 0), (.iaload, (0, 0, 0, 0, 0), 0, 0), (.iload_n 1, (0, 0, 0, 0, 0), 0, 0)] = some 144 ∧ px_t2 cX12_isDug 144 .ne 184 = true := by decide +kernel
theorem q_X12_isDug_184 : px_bk 12 7 cX12_isDug 184 [(.iinc 3 1, (0, 0, 0, 0, 0), 1, 0), (.goto (-58), (0, 0, 0, 0, 0), 0, 0)] = some 129 := by decide +kernel
theorem q_X12_isDug_147 : px_bk 12 7 cX12_isDug 147 [(.aload_n 0, (0, 0, 0, 0, 0), 0, 0), (.iload_n 2, (0, 0, 0, 0, 0), 0, 0), (.aload_n 0, (0, 0, 0, 0, 0), 0, 0), (.getfield 56, (12, 18, 3, 118, 0), 0, 0), (.iload_n 3, (0, 0, 0, 0, 0), 0, 0), (.iaload, (0, 0, 0, 0, 0), 0, 0), (.aload_n 0, (0, 0, 0, 0, 0), 0, 0), (.getfield 62, (12, 20, 3, 120, 0), 0, 0), (.iload_n 3, (0, 0, 0, 0, 0), 0, 0), (.iaload, (0, 0, 0, 0, 0), 0, 0), (.i2l, (0, 0, 0, 0, 0), 0, 0)] = some 162 ∧ px_tv cX12_isDug 162 199 = true := by decide +kernel
theorem q_X12_isDug_165 : px_bk 12 7 cX12_isDug 165 [(.aload_n 0, (0, 0, 0, 0, 0), 0, 0), (.aload_n 0, (0, 0, 0, 0, 0), 0, 0), (.getfield 56, (12, 18, 3, 118, 0), 0, 0), (.iload_n 3, (0, 0, 0, 0, 0), 0, 0), (.iaload, (0, 0, 0, 0, 0), 0, 0), (.iload_n 2, (0, 0, 0, 0, 0), 0, 0), (.aload_n 0, (0, 0, 0, 0, 0), 0, 0), (.getfield 59, (12, 19, 3, 119, 0), 0, 0), (.iload_n 3, (0, 0, 0, 0, 0), 0, 0), (.iaload, (0, 0, 0, 0, 0), 0, 0), (.ineg, (0, 0, 0, 0, 0), 0, 0), (.i2l, (0, 0, 0, 0, 0), 0, 0)] = some 181 ∧ px_tv cX12_isDug 181 199 = true := by decide +kernel
set_option maxRecDepth 100000 in
theorem l_isDug129 {n : Nat} {R : px_R} (hg : px_G n R) {Q : px_Q} (g z : Int32) {I : px_I} (L : px_L) (hM : mM I) (hz : z = I 110 g.toNatClampNeg ∧ 0 ≤ z ∧ z ≤ 20) (hs : I 103 70 = z + 1) (hg1 : 0 ≤ g ∧ g ≤ 1) (hq : ∀ r L2, (r = 0 ∨ r = 1) → mDL L L2 → Q (some (.int r)) n I L2 R) : ∀ i : Int32, i ≤ I 103 16 → 0 ≤ i → ∀ L1, mDL L L1 → px M_X12_isDug 0 0 129 [(0, .ref 103), (1, .int g), (2, .int z), (3, .int i)] [] n I L1 R Q := by
  refine px_up _ (fun i ih hk => ?_)
  intro h0 L1 h1
  obtain ⟨hM1, hM2⟩ := id hM
  refine px_ige rfl q_X12_isDug_129 hg rfl trivial (fun c134 => ?_) (fun c134 => ?_)
  · refine px_cVS (ci := 12) rfl q_X12_isDug_190 hg rfl trivial lk_12_207 nm_X12_closes (k_closes hg (by grind)) rfl rfl (px_lit hg rfl) rfl rfl rfl ⟨rfl, rfl⟩ ?_
    intro x191 I191 L191 h191
    obtain ⟨hr, rfl, h191⟩ := h191
    refine px_rz rfl q_X12_isDug_194 rfl rfl rfl hg rfl trivial (by first | exact Or.inl rfl | exact Or.inr rfl | grind) ?_
    exact hq _ _ hr (fun b hb => (h191 b hb).trans (h1 b hb))
  · have hM3 := hM2 i h0 (by grind)
    refine px_ine rfl q_X12_isDug_137 hg rfl ⟨trivial, (by first | decide | (refine ⟨?_, ?_⟩ <;> grind) | grind)⟩ (fun c144 => ?_) (fun c144 => ?_)
    · refine px_b rfl q_X12_isDug_184 hg rfl trivial ?_
      exact px_go (ih (i + 1) (by grind) (by grind) (by grind) _ (by first | assumption | (unfold mDL at *; grind))) ⟨rfl, rfl, rfl, rfl, trivial⟩
    · refine px_cVW (ci := 12) rfl q_X12_isDug_147 hg rfl ⟨⟨trivial, (by first | decide | (refine ⟨?_, ?_⟩ <;> grind) | grind)⟩, (by first | decide | (refine ⟨?_, ?_⟩ <;> grind) | grind)⟩ lk_12_199 nm_X12_bounds (k_bounds hg _ _ _ (by grind)) rfl rfl (px_lit hg rfl) rfl rfl rfl ⟨rfl, rfl⟩ ?_
      intro I162 L162 h162
      obtain ⟨rfl, h162⟩ := h162
      refine px_cVW (ci := 12) rfl q_X12_isDug_165 hg rfl ⟨⟨trivial, (by first | decide | (refine ⟨?_, ?_⟩ <;> grind) | grind)⟩, (by first | decide | (refine ⟨?_, ?_⟩ <;> grind) | grind)⟩ lk_12_199 nm_X12_bounds (k_bounds hg _ _ _ (by grind)) rfl rfl (px_lit hg rfl) rfl rfl rfl ⟨rfl, rfl⟩ ?_
      intro I181 L181 h181
      obtain ⟨rfl, h181⟩ := h181
      refine px_b rfl q_X12_isDug_184 hg rfl trivial ?_
      exact px_go (ih (i + 1) (by grind) (by grind) (by grind) _ (by first | assumption | (unfold mDL at *; grind))) ⟨rfl, rfl, rfl, rfl, trivial⟩

theorem q_X12_isDug_16 : px_bk 12 7 cX12_isDug 16 [(.iload_n 3, (0, 0, 0, 0, 0), 0, 0), (.aload_n 0, (0, 0, 0, 0, 0), 0, 0), (.getfield 32, (12, 9, 3, 110, 0), 0, 0), (.iload_n 1, (0, 0, 0, 0, 0), 0, 0), (.iaload, (0, 0, 0, 0, 0), 0, 0)] = some 23 ∧ px_t2 cX12_isDug 23 .ge 127 = true := by decide +kernel
theorem q_X12_isDug_127 : px_bk 12 7 cX12_isDug 127 [(.iconst 0, (0, 0, 0, 0, 0), 0, 0), (.istore_n 3, (0, 0, 0, 0, 0), 0, 0)] = some 129 := by decide +kernel
theorem q_X12_isDug_26 : px_bk 12 7 cX12_isDug 26 [(.aload_n 0, (0, 0, 0, 0, 0), 0, 0), (.iload_n 2, (0, 0, 0, 0, 0), 0, 0), (.iload_n 3, (0, 0, 0, 0, 0), 0, 0), (.ldc2_w 237, (0, 0, 0, 0, 0), 0, 20000)] = some 32 ∧ px_tv cX12_isDug 32 199 = true := by decide +kernel
theorem q_X12_isDug_35 : px_bk 12 7 cX12_isDug 35 [(.aload_n 0, (0, 0, 0, 0, 0), 0, 0), (.iload_n 3, (0, 0, 0, 0, 0), 0, 0), (.iload_n 2, (0, 0, 0, 0, 0), 0, 0), (.lconst 0, (0, 0, 0, 0, 0), 0, 0)] = some 39 ∧ px_tv cX12_isDug 39 199 = true := by decide +kernel
theorem q_X12_isDug_42 : px_bk 12 7 cX12_isDug 42 [(.iload_n 3, (0, 0, 0, 0, 0), 0, 0)] = some 43 ∧ px_t1 cX12_isDug 43 .le 121 = true := by decide +kernel
theorem q_X12_isDug_121 : px_bk 12 7 cX12_isDug 121 [(.iinc 3 1, (0, 0, 0, 0, 0), 1, 0), (.goto (-108), (0, 0, 0, 0, 0), 0, 0)] = some 16 := by decide +kernel
theorem q_X12_isDug_46 : px_bk 12 7 cX12_isDug 46 [(.bipush 20, (0, 0, 0, 0, 0), 20, 0), (.iload_n 1, (0, 0, 0, 0, 0), 0, 0), (.imul, (0, 0, 0, 0, 0), 0, 0), (.iload_n 3, (0, 0, 0, 0, 0), 0, 0), (.iadd, (0, 0, 0, 0, 0), 0, 0), (.istore 4, (0, 0, 0, 0, 0), 0, 0), (.aload_n 0, (0, 0, 0, 0, 0), 0, 0), (.getfield 35, (12, 10, 3, 111, 0), 0, 0), (.iload 4, (0, 0, 0, 0, 0), 0, 0), (.iaload, (0, 0, 0, 0, 0), 0, 0), (.aload_n 0, (0, 0, 0, 0, 0), 0, 0), (.getfield 44, (12, 13, 3, 114, 0), 0, 0), (.iload 4, (0, 0, 0, 0, 0), 0, 0), (.iaload, (0, 0, 0, 0, 0), 0, 0), (.iadd, (0, 0, 0, 0, 0), 0, 0), (.iconst 1, (0, 0, 0, 0, 0), 1, 0), (.isub, (0, 0, 0, 0, 0), 0, 0), (.aload_n 0, (0, 0, 0, 0, 0), 0, 0), (.getfield 44, (12, 13, 3, 114, 0), 0, 0), (.iload 4, (0, 0, 0, 0, 0), 0, 0), (.iaload, (0, 0, 0, 0, 0), 0, 0), (.idiv, (0, 0, 0, 0, 0), 0, 0), (.istore 5, (0, 0, 0, 0, 0), 0, 0), (.aload_n 0, (0, 0, 0, 0, 0), 0, 0), (.getfield 38, (12, 11, 3, 112, 0), 0, 0), (.iload 4, (0, 0, 0, 0, 0), 0, 0), (.iaload, (0, 0, 0, 0, 0), 0, 0), (.aload_n 0, (0, 0, 0, 0, 0), 0, 0), (.getfield 41, (12, 12, 3, 113, 0), 0, 0), (.iload 4, (0, 0, 0, 0, 0), 0, 0), (.iaload, (0, 0, 0, 0, 0), 0, 0), (.idiv, (0, 0, 0, 0, 0), 0, 0), (.istore 6, (0, 0, 0, 0, 0), 0, 0), (.aload_n 0, (0, 0, 0, 0, 0), 0, 0), (.iload_n 3, (0, 0, 0, 0, 0), 0, 0), (.iconst 1, (0, 0, 0, 0, 0), 1, 0), (.isub, (0, 0, 0, 0, 0), 0, 0), (.iload_n 3, (0, 0, 0, 0, 0), 0, 0), (.iload 6, (0, 0, 0, 0, 0), 0, 0), (.i2l, (0, 0, 0, 0, 0), 0, 0)] = some 106 ∧ px_tv cX12_isDug 106 199 = true := by decide +kernel
theorem q_X12_isDug_109 : px_bk 12 7 cX12_isDug 109 [(.aload_n 0, (0, 0, 0, 0, 0), 0, 0), (.iload_n 3, (0, 0, 0, 0, 0), 0, 0), (.iload_n 3, (0, 0, 0, 0, 0), 0, 0), (.iconst 1, (0, 0, 0, 0, 0), 1, 0), (.isub, (0, 0, 0, 0, 0), 0, 0), (.iload 5, (0, 0, 0, 0, 0), 0, 0), (.ineg, (0, 0, 0, 0, 0), 0, 0), (.i2l, (0, 0, 0, 0, 0), 0, 0)] = some 118 ∧ px_tv cX12_isDug 118 199 = true := by decide +kernel
set_option maxRecDepth 100000 in
theorem l_isDug16 {n : Nat} {R : px_R} (hg : px_G n R) {Q : px_Q} (g z : Int32) {I : px_I} (L : px_L) (hM : mM I) (hG : mG I) (hz : z = I 110 g.toNatClampNeg ∧ 0 ≤ z ∧ z ≤ 20) (hs : I 103 70 = z + 1) (hg1 : 0 ≤ g ∧ g ≤ 1) (hq : ∀ r L2, (r = 0 ∨ r = 1) → mDL L L2 → Q (some (.int r)) n I L2 R) : ∀ i : Int32, i ≤ z → 0 ≤ i → ∀ L1, mDL L L1 → px M_X12_isDug 0 0 16 [(0, .ref 103), (1, .int g), (2, .int z), (3, .int i)] [] n I L1 R Q := by
  refine px_up _ (fun i ih hk => ?_)
  intro h0 L1 h1
  obtain ⟨hG1, hG2⟩ := hG g hg1.1 hg1.2
  refine px_ige rfl q_X12_isDug_16 hg rfl ⟨trivial, (by first | decide | (refine ⟨?_, ?_⟩ <;> grind) | grind)⟩ (fun c23 => ?_) (fun c23 => ?_)
  · refine px_b rfl q_X12_isDug_127 hg rfl trivial ?_
    exact px_go (l_isDug129 hg g z L hM hz hs hg1 hq 0 (by unfold mM at hM; grind) (by decide) _ h1) ⟨rfl, rfl, rfl, rfl, trivial⟩
  · refine px_cVW (ci := 12) rfl q_X12_isDug_26 hg rfl trivial lk_12_199 nm_X12_bounds (k_bounds hg _ _ _ (by grind)) rfl rfl (px_lit hg rfl) rfl rfl rfl ⟨rfl, rfl⟩ ?_
    intro I32 L32 h32
    obtain ⟨rfl, h32⟩ := h32
    refine px_cVW (ci := 12) rfl q_X12_isDug_35 hg rfl trivial lk_12_199 nm_X12_bounds (k_bounds hg _ _ _ (by grind)) rfl rfl (px_lit hg rfl) rfl rfl rfl ⟨rfl, rfl⟩ ?_
    intro I39 L39 h39
    obtain ⟨rfl, h39⟩ := h39
    refine px_le rfl q_X12_isDug_42 hg rfl trivial (fun c43 => ?_) (fun c43 => ?_)
    · refine px_b rfl q_X12_isDug_121 hg rfl trivial ?_
      exact px_go (ih (i + 1) (by grind) (by grind) (by grind) _ (by first | assumption | (unfold mDL at *; grind))) ⟨rfl, rfl, rfl, rfl, trivial⟩
    · have hG3 := hG2 i (by grind) (by grind)
      refine px_cVW (ci := 12) rfl q_X12_isDug_46 hg rfl ⟨⟨⟨⟨⟨⟨⟨trivial, (by first | decide | (refine ⟨?_, ?_⟩ <;> grind) | grind)⟩, (by first | decide | (refine ⟨?_, ?_⟩ <;> grind) | grind)⟩, (by first | decide | (refine ⟨?_, ?_⟩ <;> grind) | grind)⟩, (by first | decide | (refine ⟨?_, ?_⟩ <;> grind) | grind)⟩, (by first | decide | (refine ⟨?_, ?_⟩ <;> grind) | grind)⟩, (by first | decide | (refine ⟨?_, ?_⟩ <;> grind) | grind)⟩, (by first | decide | (refine ⟨?_, ?_⟩ <;> grind) | grind)⟩ lk_12_199 nm_X12_bounds (k_bounds hg _ _ _ (by grind)) rfl rfl (px_lit hg rfl) rfl rfl rfl ⟨rfl, rfl⟩ ?_
      intro I106 L106 h106
      obtain ⟨rfl, h106⟩ := h106
      refine px_cVW (ci := 12) rfl q_X12_isDug_109 hg rfl trivial lk_12_199 nm_X12_bounds (k_bounds hg _ _ _ (by grind)) rfl rfl (px_lit hg rfl) rfl rfl rfl ⟨rfl, rfl⟩ ?_
      intro I118 L118 h118
      obtain ⟨rfl, h118⟩ := h118
      refine px_b rfl q_X12_isDug_121 hg rfl trivial ?_
      exact px_go (ih (i + 1) (by grind) (by grind) (by grind) _ (by first | assumption | (unfold mDL at *; grind))) ⟨rfl, rfl, rfl, rfl, trivial⟩

theorem q_X12_isDug_0 : px_bk 12 7 cX12_isDug 0 [(.aload_n 0, (0, 0, 0, 0, 0), 0, 0), (.getfield 32, (12, 9, 3, 110, 0), 0, 0), (.iload_n 1, (0, 0, 0, 0, 0), 0, 0), (.iaload, (0, 0, 0, 0, 0), 0, 0), (.istore_n 2, (0, 0, 0, 0, 0), 0, 0), (.aload_n 0, (0, 0, 0, 0, 0), 0, 0), (.iload_n 2, (0, 0, 0, 0, 0), 0, 0), (.iconst 1, (0, 0, 0, 0, 0), 1, 0), (.iadd, (0, 0, 0, 0, 0), 0, 0)] = some 11 ∧ px_tv cX12_isDug 11 203 = true := by decide +kernel
theorem q_X12_isDug_14 : px_bk 12 7 cX12_isDug 14 [(.iconst 0, (0, 0, 0, 0, 0), 0, 0), (.istore_n 3, (0, 0, 0, 0, 0), 0, 0)] = some 16 := by decide +kernel
set_option maxRecDepth 100000 in
theorem k_isDug {n : Nat} {I : px_I} {L : px_L} {R : px_R} (hg : px_G n R) (g : Int32) (hg1 : 0 ≤ g ∧ g ≤ 1) (hM : mM I) (hG : mG I) : px_KS M_X12_isDug [.ref 103, .int g] n I L R (fun r I2 L2 => (r = 0 ∨ r = 1) ∧ I2 = px_u I 103 70 (I 110 g.toNatClampNeg + 1) ∧ mDL L L2) := by
  refine px_of (plainFor_of_name np_RX12) (fun _ _ _ => trivial) rfl ?_
  obtain ⟨hG1, hG2⟩ := hG g hg1.1 hg1.2
  refine px_cVW (ci := 12) rfl q_X12_isDug_0 hg rfl ⟨trivial, (by first | decide | (refine ⟨?_, ?_⟩ <;> grind) | grind)⟩ lk_12_203 nm_X12_begins (k_begins hg _) rfl rfl (px_lit hg rfl) rfl rfl rfl ⟨rfl, rfl⟩ ?_
  intro I11 L11 h11
  obtain ⟨rfl, h11⟩ := h11
  refine px_b rfl q_X12_isDug_14 hg rfl trivial ?_
  exact px_go (l_isDug16 hg g _ L (by unfold mM at *; simpa [px_ur] using hM) (by unfold mG at *; simpa [px_ur] using hG) ⟨by simp [px_ur], hG1⟩ (by simp [px_ur]) hg1 (fun r L2 hr h => ⟨rfl, rfl, r, rfl, hr, rfl, h⟩) 0 hG1.1 (by decide) _ h11) ⟨rfl, rfl, rfl, rfl, trivial⟩

theorem q_X12_when_0 : px_bk 12 4 cX12_when 0 [(.aload_n 0, (0, 0, 0, 0, 0), 0, 0), (.iload_n 1, (0, 0, 0, 0, 0), 0, 0), (.iload_n 2, (0, 0, 0, 0, 0), 0, 0)] = some 3 ∧ px_tv cX12_when 3 233 = true := by decide +kernel
theorem q_X12_when_6 : px_bk 12 4 cX12_when 6 [] = some 6 ∧ px_t1 cX12_when 6 .eq 17 = true := by decide +kernel
theorem q_X12_when_17 : px_bk 12 4 cX12_when 17 [(.iconst (-1), (0, 0, 0, 0, 0), -1, 0), (.goto 15, (0, 0, 0, 0, 0), 0, 0)] = some 33 ∧ px_tr cX12_when 33 .ireturn = true := by decide +kernel
theorem q_X12_when_9 : px_bk 12 4 cX12_when 9 [(.aload_n 0, (0, 0, 0, 0, 0), 0, 0), (.iload_n 1, (0, 0, 0, 0, 0), 0, 0)] = some 11 ∧ px_tv cX12_when 11 242 = true := by decide +kernel
theorem q_X12_when_14 : px_bk 12 4 cX12_when 14 [] = some 14 ∧ px_t1 cX12_when 14 .ne 21 = true := by decide +kernel
theorem q_X12_when_21 : px_bk 12 4 cX12_when 21 [(.aload_n 0, (0, 0, 0, 0, 0), 0, 0), (.aload_n 0, (0, 0, 0, 0, 0), 0, 0), (.getfield 32, (12, 9, 3, 110, 0), 0, 0), (.iload_n 1, (0, 0, 0, 0, 0), 0, 0), (.iaload, (0, 0, 0, 0, 0), 0, 0), (.iload_n 2, (0, 0, 0, 0, 0), 0, 0), (.iload_n 3, (0, 0, 0, 0, 0), 0, 0)] = some 30 ∧ px_tv cX12_when 30 219 = true := by decide +kernel
theorem q_X12_when_33 : px_bk 12 4 cX12_when 33 [] = some 33 ∧ px_tr cX12_when 33 .ireturn = true := by decide +kernel
set_option maxRecDepth 100000 in
theorem k_when {n : Nat} {I : px_I} {L : px_L} {R : px_R} (hg : px_G n R) (g p h : Int32) (hM : mM I) (hG : mG I) : px_KS M_X12_when [.ref 103, .int g, .int p, .int h] n I L R (fun r I2 L2 => mDI I I2 ∧ mDL L L2) := by
  refine px_of (plainFor_of_name np_RX12) (fun _ _ _ => trivial) rfl ?_
  refine px_cVP (ci := 12) rfl q_X12_when_0 hg rfl trivial lk_12_233 nm_X12_isPeg (k_isPeg hg _ _) rfl rfl (px_lit hg rfl) rfl rfl rfl ⟨rfl, rfl⟩ ?_
  intro x3 h3
  refine px_eq rfl q_X12_when_6 hg rfl trivial (fun c6 => ?_) (fun c6 => ?_)
  · replace h3 := px_bf h3 c6
    refine px_riS rfl q_X12_when_17 rfl rfl rfl hg rfl trivial ⟨⟨rfl, rfl⟩, ?_⟩
    first | exact ⟨fun _ _ _ => rfl, fun _ _ => rfl⟩ | exact ⟨fun b j h => by simp [px_ur]; grind, by assumption⟩
  · replace h3 := px_bt h3 c6
    refine px_cVS (ci := 12) rfl q_X12_when_9 hg rfl trivial lk_12_242 nm_X12_isDug (k_isDug hg _ (by grind) ‹_› ‹_›) rfl rfl (px_lit hg rfl) rfl rfl rfl ⟨rfl, rfl⟩ ?_
    intro x11 I11 L11 h11
    obtain ⟨hr, rfl, h11⟩ := h11
    obtain ⟨hG1, hG2⟩ := hG g (by grind) (by grind)
    refine px_ne rfl q_X12_when_14 hg rfl trivial (fun c14 => ?_) (fun c14 => ?_)
    · refine px_cVP (ci := 12) rfl q_X12_when_21 hg rfl ⟨trivial, (by first | decide | (refine ⟨?_, ?_⟩ <;> grind) | grind)⟩ lk_12_219 nm_X12_gapOf (k_gapOf hg _ _ _ (by simp [px_ur]; grind) (by grind)) rfl rfl (px_lit hg rfl) rfl rfl rfl ⟨rfl, rfl⟩ ?_
      intro x30 h30
      refine px_riS rfl q_X12_when_33 rfl rfl rfl hg rfl trivial ⟨⟨rfl, rfl⟩, ?_⟩
      first | exact ⟨fun _ _ _ => rfl, fun _ _ => rfl⟩ | exact ⟨fun b j h => by simp [px_ur]; grind, by assumption⟩
    · refine px_riS rfl q_X12_when_17 rfl rfl rfl hg rfl trivial ⟨⟨rfl, rfl⟩, ?_⟩
      first | exact ⟨fun _ _ _ => rfl, fun _ _ => rfl⟩ | exact ⟨fun b j h => by simp [px_ur]; grind, by assumption⟩

theorem q_X12_between_0 : px_bk 12 5 cX12_between 0 [(.aload_n 0, (0, 0, 0, 0, 0), 0, 0), (.iload_n 1, (0, 0, 0, 0, 0), 0, 0), (.iload_n 2, (0, 0, 0, 0, 0), 0, 0)] = some 3 ∧ px_tv cX12_between 3 233 = true := by decide +kernel
theorem q_X12_between_6 : px_bk 12 5 cX12_between 6 [] = some 6 ∧ px_t1 cX12_between 6 .eq 31 = true := by decide +kernel
theorem q_X12_between_31 : px_bk 12 5 cX12_between 31 [(.iconst (-1), (0, 0, 0, 0, 0), -1, 0), (.goto 11, (0, 0, 0, 0, 0), 0, 0)] = some 43 ∧ px_tr cX12_between 43 .ireturn = true := by decide +kernel
theorem q_X12_between_9 : px_bk 12 5 cX12_between 9 [(.aload_n 0, (0, 0, 0, 0, 0), 0, 0), (.iload_n 1, (0, 0, 0, 0, 0), 0, 0), (.iload_n 3, (0, 0, 0, 0, 0), 0, 0)] = some 12 ∧ px_tv cX12_between 12 233 = true := by decide +kernel
theorem q_X12_between_15 : px_bk 12 5 cX12_between 15 [] = some 15 ∧ px_t1 cX12_between 15 .eq 31 = true := by decide +kernel
theorem q_X12_between_18 : px_bk 12 5 cX12_between 18 [(.iload_n 2, (0, 0, 0, 0, 0), 0, 0), (.iload_n 3, (0, 0, 0, 0, 0), 0, 0)] = some 20 ∧ px_t2 cX12_between 20 .ge 31 = true := by decide +kernel
theorem q_X12_between_23 : px_bk 12 5 cX12_between 23 [(.aload_n 0, (0, 0, 0, 0, 0), 0, 0), (.iload_n 1, (0, 0, 0, 0, 0), 0, 0)] = some 25 ∧ px_tv cX12_between 25 242 = true := by decide +kernel
theorem q_X12_between_28 : px_bk 12 5 cX12_between 28 [] = some 28 ∧ px_t1 cX12_between 28 .ne 35 = true := by decide +kernel
theorem q_X12_between_35 : px_bk 12 5 cX12_between 35 [(.aload_n 0, (0, 0, 0, 0, 0), 0, 0), (.iload_n 2, (0, 0, 0, 0, 0), 0, 0), (.iload_n 3, (0, 0, 0, 0, 0), 0, 0), (.iload 4, (0, 0, 0, 0, 0), 0, 0)] = some 40 ∧ px_tv cX12_between 40 219 = true := by decide +kernel
theorem q_X12_between_43 : px_bk 12 5 cX12_between 43 [] = some 43 ∧ px_tr cX12_between 43 .ireturn = true := by decide +kernel
set_option maxRecDepth 100000 in
theorem k_between {n : Nat} {I : px_I} {L : px_L} {R : px_R} (hg : px_G n R) (g p t h : Int32) (hM : mM I) (hG : mG I) : px_KS M_X12_between [.ref 103, .int g, .int p, .int t, .int h] n I L R (fun r I2 L2 => mDI I I2 ∧ mDL L L2) := by
  refine px_of (plainFor_of_name np_RX12) (fun _ _ _ => trivial) rfl ?_
  refine px_cVP (ci := 12) rfl q_X12_between_0 hg rfl trivial lk_12_233 nm_X12_isPeg (k_isPeg hg _ _) rfl rfl (px_lit hg rfl) rfl rfl rfl ⟨rfl, rfl⟩ ?_
  intro x3 h3
  refine px_eq rfl q_X12_between_6 hg rfl trivial (fun c6 => ?_) (fun c6 => ?_)
  · replace h3 := px_bf h3 c6
    refine px_riS rfl q_X12_between_31 rfl rfl rfl hg rfl trivial ⟨⟨rfl, rfl⟩, ?_⟩
    first | exact ⟨fun _ _ _ => rfl, fun _ _ => rfl⟩ | exact ⟨fun b j h => by simp [px_ur]; grind, by assumption⟩
  · replace h3 := px_bt h3 c6
    refine px_cVP (ci := 12) rfl q_X12_between_9 hg rfl trivial lk_12_233 nm_X12_isPeg (k_isPeg hg _ _) rfl rfl (px_lit hg rfl) rfl rfl rfl ⟨rfl, rfl⟩ ?_
    intro x12 h12
    refine px_eq rfl q_X12_between_15 hg rfl trivial (fun c15 => ?_) (fun c15 => ?_)
    · replace h12 := px_bf h12 c15
      refine px_riS rfl q_X12_between_31 rfl rfl rfl hg rfl trivial ⟨⟨rfl, rfl⟩, ?_⟩
      first | exact ⟨fun _ _ _ => rfl, fun _ _ => rfl⟩ | exact ⟨fun b j h => by simp [px_ur]; grind, by assumption⟩
    · replace h12 := px_bt h12 c15
      refine px_ige rfl q_X12_between_18 hg rfl trivial (fun c20 => ?_) (fun c20 => ?_)
      · refine px_riS rfl q_X12_between_31 rfl rfl rfl hg rfl trivial ⟨⟨rfl, rfl⟩, ?_⟩
        first | exact ⟨fun _ _ _ => rfl, fun _ _ => rfl⟩ | exact ⟨fun b j h => by simp [px_ur]; grind, by assumption⟩
      · refine px_cVS (ci := 12) rfl q_X12_between_23 hg rfl trivial lk_12_242 nm_X12_isDug (k_isDug hg _ (by grind) ‹_› ‹_›) rfl rfl (px_lit hg rfl) rfl rfl rfl ⟨rfl, rfl⟩ ?_
        intro x25 I25 L25 h25
        obtain ⟨hr, rfl, h25⟩ := h25
        obtain ⟨hG1, hG2⟩ := hG g (by grind) (by grind)
        refine px_ne rfl q_X12_between_28 hg rfl trivial (fun c28 => ?_) (fun c28 => ?_)
        · refine px_cVP (ci := 12) rfl q_X12_between_35 hg rfl trivial lk_12_219 nm_X12_gapOf (k_gapOf hg _ _ _ (by grind) (by grind)) rfl rfl (px_lit hg rfl) rfl rfl rfl ⟨rfl, rfl⟩ ?_
          intro x40 h40
          refine px_riS rfl q_X12_between_43 rfl rfl rfl hg rfl trivial ⟨⟨rfl, rfl⟩, ?_⟩
          first | exact ⟨fun _ _ _ => rfl, fun _ _ => rfl⟩ | exact ⟨fun b j h => by simp [px_ur]; grind, by assumption⟩
        · refine px_riS rfl q_X12_between_31 rfl rfl rfl hg rfl trivial ⟨⟨rfl, rfl⟩, ?_⟩
          first | exact ⟨fun _ _ _ => rfl, fun _ _ => rfl⟩ | exact ⟨fun b j h => by simp [px_ur]; grind, by assumption⟩
