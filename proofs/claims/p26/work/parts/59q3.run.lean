/-- what a run leaves: done or not, and the nine numbers -/
def rOut (T : Nat → Int32) (zs : List (Int32 × Int32)) (h r : Int32) (L2 : px_L) : Prop := ∃ W : Nat → Int64, (∀ k, k < 9 → W k = V0 h k) ∧ ((r = 0 ∧ fD T zs W = none) ∨ (r = 1 ∧ fD T zs W = some (L2 132)))
theorem V0_ok {h : Int32} {W : Nat → Int64} (hW : ∀ k, k < 9 → W k = V0 h k) (hh : 0 ≤ h ∧ h ≤ 15) : ¬ rBy W := by
  have z : ∀ k, k < 9 → k ≠ 7 → W k = 0 := fun k h1 h2 => (hW k h1).trans (if_neg h2)
  unfold rBy
  simp only [rByN, rBy1, z 0 (by decide) (by decide), z 1 (by decide) (by decide), z 2 (by decide) (by decide), z 3 (by decide) (by decide), z 4 (by decide) (by decide), z 5 (by decide) (by decide), z 6 (by decide) (by decide), z 8 (by decide) (by decide)]
  decide

set_option maxRecDepth 100000 in
theorem lx_runs2 {n : Nat} {R : px_R} (hg : px_G n R) {Q : px_Q} (w h : Int32) (hw : 0 ≤ w ∧ w ≤ 5) (hh : 0 ≤ h ∧ h ≤ 15) {I : px_I} {zs : List (Int32 × Int32)} (ho : mOx I w zs) (L : px_L) (hq : ∀ r I2 L2, (r = 0 ∨ r = 1) → mRI I I2 → mRL L L2 → rOut (tR I) zs h r L2 → Q (some (.int r)) n I2 L2 R) : ∀ k : Int32, k ≤ 9 → 0 ≤ k → ∀ L1, mRL L L1 → (∀ q : Nat, q < k.toNatClampNeg → L1 132 q = V0 h q) → px M_X12_runs 0 0 2 [(0, .ref 103), (1, .int w), (2, .int h), (3, .int k)] [] n I L1 R Q := by
  refine px_up 9 (fun k ih hk => ?_)
  intro h0 L1 h1 hV
  have kn := (px_tnS h0 (by grind)).1
  refine px_ige rfl q_X12_runs_2 hg rfl trivial (fun c5 => ?_) (fun c5 => ?_)
  · refine px_b rfl q_X12_runs_32 hg rfl trivial ?_
    obtain ⟨X, s, e, hX, hR, hs, he, hE⟩ := ho
    obtain ⟨hs0, hsem⟩ := mRx_sem hw hX hR
    have hk9 : 0 ≤ 220 * w + e ∧ 220 * w + e < 1320 := by have := hX e he; grind
    have e0 : 220 * w + 0 = 220 * w := by grind
    have k9 : k = 9 := by grind
    have hW : ∀ q, q < 9 → L1 132 q = V0 h q := fun q hq9 => hV q (by rw [k9]; exact hq9)
    have hz := hsem hs hg h L 0 (px_u I 103 53 0) L1 (mRI.ur (fun _ _ _ _ _ => rfl) _) h1 (by rw [px_u_at]) (by decide) (by decide) (by grind) (V0_ok hW hh) (fun hn I2 L2 hI2 hL2 => hq 0 I2 L2 (Or.inl rfl) hI2 hL2 ⟨L1 132, hW, Or.inl ⟨rfl, hn⟩⟩) (fun V hV2 I2 L2 hI2 hL2 hV3 hd2 _ => sx_end hg w h _ hk9 ((hI2.at0 _).trans hE) (hq 1 I2 L2 (Or.inr rfl) hI2 hL2 ⟨L1 132, hW, Or.inr ⟨rfl, by rw [hV3]; exact hV2⟩⟩))
    rw [e0] at hz
    exact px_go hz ⟨rfl, rfl, rfl, rfl, trivial⟩
  · refine px_ine rfl q_X12_runs_8 hg rfl trivial (fun c16 => ?_) (fun c16 => ?_)
    · refine px_b rfl q_X12_runs_24 hg rfl ⟨trivial, (by first | decide | (refine ⟨?_, ?_⟩ <;> grind) | grind)⟩ ?_
      exact px_go (ih (k + 1) (by grind) (by grind) (by grind) _ (h1.u _ _) (fun q hq9 => by
        by_cases e : q = k.toNatClampNeg
        · rw [e, px_u_at]
          unfold V0
          have k7 : k = 7 ↔ k.toNatClampNeg = 7 := by
            have := xnat h0
            rw [← Int32.toInt_inj, show (7 : Int32).toInt = 7 by decide]; omega
          first
            | (rw [if_pos (k7.mp (by assumption))]; done)
            | (rw [if_pos (k7.mp (by assumption))])
            | (rw [if_neg (fun z => absurd (k7.mpr z) (by assumption))])
        · rw [px_u_at_ne e]; exact hV q (by omega))) ⟨rfl, rfl, rfl, rfl, trivial⟩
    · refine px_b rfl q_X12_runs_19 hg rfl ⟨trivial, (by first | decide | (refine ⟨?_, ?_⟩ <;> grind) | grind)⟩ ?_
      exact px_go (ih (k + 1) (by grind) (by grind) (by grind) _ (h1.u _ _) (fun q hq9 => by
        by_cases e : q = k.toNatClampNeg
        · rw [e, px_u_at]
          unfold V0
          have k7 : k = 7 ↔ k.toNatClampNeg = 7 := by
            have := xnat h0
            rw [← Int32.toInt_inj, show (7 : Int32).toInt = 7 by decide]; omega
          first
            | (rw [if_pos (k7.mp (by assumption))]; done)
            | (rw [if_pos (k7.mp (by assumption))])
            | (rw [if_neg (fun z => absurd (k7.mpr z) (by assumption))])
        · rw [px_u_at_ne e]; exact hV q (by omega))) ⟨rfl, rfl, rfl, rfl, trivial⟩

set_option maxRecDepth 100000 in
theorem kx_runs {n : Nat} {I : px_I} {L : px_L} {R : px_R} (hg : px_G n R) (w h : Int32) (hw : 0 ≤ w ∧ w ≤ 5) (hh : 0 ≤ h ∧ h ≤ 15) {zs : List (Int32 × Int32)} (ho : mOx I w zs) : px_KS M_X12_runs [.ref 103, .int w, .int h] n I L R (fun r I2 L2 => (r = 0 ∨ r = 1) ∧ mRI I I2 ∧ mRL L L2 ∧ rOut (tR I) zs h r L2) := by
  refine px_of (plainFor_of_name np_RX12) (fun _ _ _ => trivial) rfl ?_
  refine px_b rfl q_X12_runs_0 hg rfl trivial ?_
  exact px_go (lx_runs2 hg w h hw hh ho L (fun r I2 L2 hr h1 h2 h3 => ⟨rfl, rfl, r, rfl, hr, h1, h2, h3⟩) 0 (by decide) (by decide) L (fun _ _ => rfl) (fun q hq9 => absurd hq9 (by rw [xz0]; omega))) ⟨rfl, rfl, rfl, rfl, trivial⟩
