/-! the reference's gallery: its table out of pegs and marks -/
def jxN (I : px_I) (g : Int32) : Nat := (I 110 g.toNatClampNeg).toNatClampNeg
def jFw (I : px_I) (g : Int32) (p : Nat) : Int32 := (I 111 (20 * g + Int32.ofNat p).toNatClampNeg + I 114 (20 * g + Int32.ofNat p).toNatClampNeg - 1) / I 114 (20 * g + Int32.ofNat p).toNatClampNeg
def jMo (I : px_I) (g : Int32) (p : Nat) : Int32 := I 112 (20 * g + Int32.ofNat p).toNatClampNeg / I 113 (20 * g + Int32.ofNat p).toNatClampNeg
def jxA (I : px_I) (g : Int32) (k : Nat) : Bool := if k < 2 * jxN I g then !(k == 1) else decide (I 117 (k - 2 * jxN I g) = g)
def jxf (I : px_I) (g : Int32) (k : Nat) : Nat := if k < 2 * jxN I g then (if k % 2 = 0 then jxN I g else k / 2 - 1) else jxN I g
def jxt (I : px_I) (g : Int32) (k : Nat) : Nat := if k < 2 * jxN I g then k / 2 else (I 118 (k - 2 * jxN I g)).toNatClampNeg
def jxp (I : px_I) (g : Int32) (k : Nat) : Int64 := if k < 2 * jxN I g then (if k % 2 = 0 then 20000 else (jMo I g (k / 2)).toInt64) else (I 120 (k - 2 * jxN I g)).toInt64
def jxq (I : px_I) (g : Int32) (k : Nat) : Int64 := if k < 2 * jxN I g then (if k % 2 = 0 then 0 else (0 - jFw I g (k / 2)).toInt64) else (0 - I 119 (k - 2 * jxN I g)).toInt64
abbrev jxS (I : px_I) (g : Int32) : Nat → Nat → Int64 := gS (jxA I g) (jxf I g) (jxt I g) (jxp I g) (jxq I g)
def jxM (I : px_I) : Nat := (I 103 16).toNatClampNeg
def jxD (I : px_I) (g : Int32) : Nat → Int64 := gD (jxA I g) (jxf I g) (jxt I g) (jxp I g) (jxq I g) (2 * jxN I g + jxM I) (jxN I g + 1)
def jGd (I : px_I) (g : Int32) : Prop := fGood (jxD I g) (jxN I g + 1)
theorem jxS_even {I : px_I} {g : Int32} {p : Nat} (hp : p < jxN I g) : jxS I g (2 * p + 1) = fU1 (fU1 (jxS I g (2 * p)) (24 * jxN I g + p) 20000) (24 * p + jxN I g) 0 := by
  have a : jxA I g (2 * p) = true := by unfold jxA; rw [if_pos (by omega)]; simp; omega
  unfold jxS
  rw [gS_yes a]
  unfold jxf jxt jxp jxq
  rw [if_pos (by omega), if_pos (by omega), if_pos (by omega), if_pos (by omega), if_pos (by omega), if_pos (by omega), if_pos (by omega), show 2 * p / 2 = p by omega]
theorem jxS_odd0 {I : px_I} {g : Int32} (hp : 0 < jxN I g) : jxS I g 2 = jxS I g 1 := by
  have a : jxA I g 1 = false := by unfold jxA; rw [if_pos (by omega)]; rfl
  exact gS_no a
theorem jxS_odd {I : px_I} {g : Int32} {p : Nat} (h0 : 0 < p) (hp : p < jxN I g) : jxS I g (2 * p + 2) = fU1 (fU1 (jxS I g (2 * p + 1)) (24 * (p - 1) + p) (jMo I g p).toInt64) (24 * p + (p - 1)) (0 - jFw I g p).toInt64 := by
  have a : jxA I g (2 * p + 1) = true := by unfold jxA; rw [if_pos (by omega)]; simp; omega
  unfold jxS
  rw [gS_yes a]
  unfold jxf jxt jxp jxq
  rw [if_pos (by omega), if_neg (by omega), if_pos (by omega), if_pos (by omega), if_neg (by omega), if_pos (by omega), if_neg (by omega), show (2 * p + 1) / 2 = p by omega]
theorem jxS_mark {I : px_I} {g : Int32} {k : Nat} (h : I 117 k = g) : jxS I g (2 * jxN I g + k + 1) = fU1 (fU1 (jxS I g (2 * jxN I g + k)) (24 * jxN I g + (I 118 k).toNatClampNeg) (I 120 k).toInt64) (24 * (I 118 k).toNatClampNeg + jxN I g) (0 - I 119 k).toInt64 := by
  have e : 2 * jxN I g + k - 2 * jxN I g = k := by omega
  have a : jxA I g (2 * jxN I g + k) = true := by unfold jxA; rw [if_neg (by omega), e]; simp [h]
  unfold jxS
  rw [gS_yes a]
  unfold jxf jxt jxp jxq
  rw [if_neg (by omega), if_neg (by omega), if_neg (by omega), if_neg (by omega), e]
theorem jxS_nomark {I : px_I} {g : Int32} {k : Nat} (h : ¬ I 117 k = g) : jxS I g (2 * jxN I g + k + 1) = jxS I g (2 * jxN I g + k) := by
  have e : 2 * jxN I g + k - 2 * jxN I g = k := by omega
  have a : jxA I g (2 * jxN I g + k) = false := by unfold jxA; rw [if_neg (by omega), e]; simp [h]
  exact gS_no a
theorem px_24n {f s : Int32} {m k : Nat} (hf : 0 ≤ f ∧ f < 24) (hs : 0 ≤ s ∧ s < 24) (em : f.toNatClampNeg = m) (ek : s.toNatClampNeg = k) : (24 * f + s).toNatClampNeg = 24 * m + k ∧ m < 24 ∧ k < 24 := by
  have h := px_24 hf hs
  rw [em, ek] at h
  exact h
theorem jD_70 (I : px_I) (v g : Int32) : jxD (px_u I 103 70 v) g = jxD I g := rfl
theorem jGd_70 (I : px_I) (v g : Int32) : jGd (px_u I 103 70 v) g = jGd I g := rfl

set_option maxRecDepth 100000 in
theorem ls_isDug129 {n : Nat} {R : px_R} (hg : px_G n R) {Q : px_Q} (g z : Int32) {I : px_I} (L : px_L) (hM : mM I) (hz : z = I 110 g.toNatClampNeg ∧ 0 ≤ z ∧ z ≤ 20) (hs : I 103 70 = z + 1) (hg1 : 0 ≤ g ∧ g ≤ 1) (hq : ∀ r L2, mDL L L2 → feq (L2 143) (jxD I g) → ((r = 1 ∧ jGd I g) ∨ (r = 0 ∧ ¬ jGd I g)) → Q (some (.int r)) n I L2 R) : ∀ i : Int32, i ≤ I 103 16 → 0 ≤ i → ∀ L1, mDL L L1 → feq (L1 143) (jxS I g (2 * jxN I g + i.toNatClampNeg)) → px M_X12_isDug 0 0 129 [(0, .ref 103), (1, .int g), (2, .int z), (3, .int i)] [] n I L1 R Q := by
  refine px_up _ (fun i ih hk => ?_)
  intro h0 L1 h1 hF1
  obtain ⟨hM1, hM2⟩ := id hM
  have z24 : 0 ≤ z ∧ z < 24 := by grind
  have zN : z.toNatClampNeg = jxN I g := by rw [hz.1]; rfl
  refine px_ige rfl q_X12_isDug_129 hg rfl trivial (fun c134 => ?_) (fun c134 => ?_)
  · refine px_cVS (ci := 12) rfl q_X12_isDug_190 hg rfl trivial lk_12_207 nm_X12_closes (ks_closes hg (by grind)) rfl rfl (px_lit hg rfl) rfl rfl rfl ⟨rfl, rfl⟩ ?_
    intro x191 I191 L191 h191
    obtain ⟨e191, h191a, h191b, h191c⟩ := h191
    replace e191 := e191.symm
    subst e191
    refine px_rz rfl q_X12_isDug_194 rfl rfl rfl hg rfl trivial (by first | exact Or.inl rfl | exact Or.inr rfl | grind) ?_
    have e9 : i = I 103 16 := (by grind)
    rw [e9] at hF1
    have s1 : (I 103 70).toNatClampNeg = jxN I g + 1 := by rw [hs, (px_tnS hz.2.1 (by grind)).1, zN]
    have n24 : jxN I g + 1 ≤ 24 := by have := px_nat hz.2.1; have := Int32.le_iff_toInt_le.mp hz.2.2; rw [show (20 : Int32).toInt = 20 by decide] at this; omega
    rw [s1] at h191b h191c
    have hD : feq (L191 143) (jxD I g) := (by rw [h191b]; exact hF1.All n24 _ (Nat.le_refl _))
    exact hq _ _ (fun b hb => (h191a b hb).trans (h1 b hb)) hD (h191c.imp (fun q => ⟨q.1, (hD.good n24).mp q.2⟩) (fun q => ⟨q.1, fun w => q.2 ((hD.good n24).mpr w)⟩))
  · have hM3 := hM2 i h0 (by grind)
    refine px_ine rfl q_X12_isDug_137 hg rfl ⟨trivial, (by first | decide | (refine ⟨?_, ?_⟩ <;> grind) | grind)⟩ (fun c144 => ?_) (fun c144 => ?_)
    · refine px_b rfl q_X12_isDug_184 hg rfl trivial ?_
      first
        | exact px_go (ih (i + 1) (by grind) (by grind) (by grind) _ (fun b hb => ((h181.1 b hb).trans (h162.1 b hb)).trans (h1 b hb)) (by
            have w := px_24n z24 ⟨hM3.2.1, by grind⟩ zN rfl
            have w2 := px_24n (s := z) ⟨hM3.2.1, by grind⟩ z24 rfl zN
            rw [(px_tnS h0 (by grind)).1, ← Nat.add_assoc, jxS_mark (by first | exact c144 | exact Classical.not_not.mp c144), h181.2, h162.2, w.1, w2.1]
            exact (hF1.U (by omega)).U (by omega))) ⟨rfl, rfl, rfl, rfl, trivial⟩
        | exact px_go (ih (i + 1) (by grind) (by grind) (by grind) _ h1 (by rw [(px_tnS h0 (by grind)).1, ← Nat.add_assoc, jxS_nomark c144]; exact hF1)) ⟨rfl, rfl, rfl, rfl, trivial⟩
    · refine px_cVW (ci := 12) rfl q_X12_isDug_147 hg rfl ⟨⟨trivial, (by first | decide | (refine ⟨?_, ?_⟩ <;> grind) | grind)⟩, (by first | decide | (refine ⟨?_, ?_⟩ <;> grind) | grind)⟩ lk_12_199 nm_X12_bounds (ks_bounds hg _ _ _ (by grind)) rfl rfl (px_lit hg rfl) rfl rfl rfl ⟨rfl, rfl⟩ ?_
      intro I162 L162 h162
      obtain ⟨rfl, h162⟩ := h162
      refine px_cVW (ci := 12) rfl q_X12_isDug_165 hg rfl ⟨⟨trivial, (by first | decide | (refine ⟨?_, ?_⟩ <;> grind) | grind)⟩, (by first | decide | (refine ⟨?_, ?_⟩ <;> grind) | grind)⟩ lk_12_199 nm_X12_bounds (ks_bounds hg _ _ _ (by grind)) rfl rfl (px_lit hg rfl) rfl rfl rfl ⟨rfl, rfl⟩ ?_
      intro I181 L181 h181
      obtain ⟨rfl, h181⟩ := h181
      refine px_b rfl q_X12_isDug_184 hg rfl trivial ?_
      first
        | exact px_go (ih (i + 1) (by grind) (by grind) (by grind) _ (fun b hb => ((h181.1 b hb).trans (h162.1 b hb)).trans (h1 b hb)) (by
            have w := px_24n z24 ⟨hM3.2.1, by grind⟩ zN rfl
            have w2 := px_24n (s := z) ⟨hM3.2.1, by grind⟩ z24 rfl zN
            rw [(px_tnS h0 (by grind)).1, ← Nat.add_assoc, jxS_mark (by first | exact c144 | exact Classical.not_not.mp c144), h181.2, h162.2, w.1, w2.1]
            exact (hF1.U (by omega)).U (by omega))) ⟨rfl, rfl, rfl, rfl, trivial⟩
        | exact px_go (ih (i + 1) (by grind) (by grind) (by grind) _ h1 (by rw [(px_tnS h0 (by grind)).1, ← Nat.add_assoc, jxS_nomark c144]; exact hF1)) ⟨rfl, rfl, rfl, rfl, trivial⟩

set_option maxRecDepth 100000 in
theorem ls_isDug16 {n : Nat} {R : px_R} (hg : px_G n R) {Q : px_Q} (g z : Int32) {I : px_I} (L : px_L) (hM : mM I) (hG : mG I) (hz : z = I 110 g.toNatClampNeg ∧ 0 ≤ z ∧ z ≤ 20) (hs : I 103 70 = z + 1) (hg1 : 0 ≤ g ∧ g ≤ 1) (hq : ∀ r L2, mDL L L2 → feq (L2 143) (jxD I g) → ((r = 1 ∧ jGd I g) ∨ (r = 0 ∧ ¬ jGd I g)) → Q (some (.int r)) n I L2 R) : ∀ i : Int32, i ≤ z → 0 ≤ i → ∀ L1, mDL L L1 → feq (L1 143) (jxS I g (2 * i.toNatClampNeg)) → px M_X12_isDug 0 0 16 [(0, .ref 103), (1, .int g), (2, .int z), (3, .int i)] [] n I L1 R Q := by
  refine px_up _ (fun i ih hk => ?_)
  intro h0 L1 h1 hF1
  obtain ⟨hG1, hG2⟩ := hG g hg1.1 hg1.2
  have z24 : 0 ≤ z ∧ z < 24 := by grind
  have zN : z.toNatClampNeg = jxN I g := by rw [hz.1]; rfl
  refine px_ige rfl q_X12_isDug_16 hg rfl ⟨trivial, (by first | decide | (refine ⟨?_, ?_⟩ <;> grind) | grind)⟩ (fun c23 => ?_) (fun c23 => ?_)
  · refine px_b rfl q_X12_isDug_127 hg rfl trivial ?_
    have e9 : i = z := (by grind)
    exact px_go (ls_isDug129 hg g z L hM hz hs hg1 hq 0 (by unfold mM at hM; grind) (by decide) _ h1 (by rw [px_z0, ← zN, ← e9]; exact hF1)) ⟨rfl, rfl, rfl, rfl, trivial⟩
  · refine px_cVW (ci := 12) rfl q_X12_isDug_26 hg rfl trivial lk_12_199 nm_X12_bounds (ks_bounds hg _ _ _ (by grind)) rfl rfl (px_lit hg rfl) rfl rfl rfl ⟨rfl, rfl⟩ ?_
    intro I32 L32 h32
    obtain ⟨rfl, h32⟩ := h32
    refine px_cVW (ci := 12) rfl q_X12_isDug_35 hg rfl trivial lk_12_199 nm_X12_bounds (ks_bounds hg _ _ _ (by grind)) rfl rfl (px_lit hg rfl) rfl rfl rfl ⟨rfl, rfl⟩ ?_
    intro I39 L39 h39
    obtain ⟨rfl, h39⟩ := h39
    refine px_le rfl q_X12_isDug_42 hg rfl trivial (fun c43 => ?_) (fun c43 => ?_)
    · refine px_b rfl q_X12_isDug_121 hg rfl trivial ?_
      have lt : i.toNatClampNeg < jxN I39 g := by rw [← zN]; exact px_ltN h0 (by grind)
      have i24 : 0 ≤ i ∧ i < 24 := by grind
      have w := px_24n z24 i24 zN rfl
      have w2 := px_24n i24 z24 rfl zN
      have hE : feq (L39 143) (jxS I39 g (2 * i.toNatClampNeg + 1)) := by
        rw [jxS_even lt, h39.2, h32.2, w.1, w2.1]
        exact (hF1.U (by omega)).U (by omega)
      have i0 : i.toNatClampNeg = 0 := px_np c43
      exact px_go (ih (i + 1) (by grind) (by grind) (by grind) _ (fun b hb => ((h39.1 b hb).trans (h32.1 b hb)).trans (h1 b hb)) (by
        rw [(px_tnS h0 (by grind)).1, i0]
        rw [i0] at hE lt
        show feq _ (jxS _ g 2)
        rw [jxS_odd0 (by omega)]
        exact hE)) ⟨rfl, rfl, rfl, rfl, trivial⟩
    · have hG3 := hG2 i (by grind) (by grind)
      refine px_cVW (ci := 12) rfl q_X12_isDug_46 hg rfl ⟨⟨⟨⟨⟨⟨⟨trivial, (by first | decide | (refine ⟨?_, ?_⟩ <;> grind) | grind)⟩, (by first | decide | (refine ⟨?_, ?_⟩ <;> grind) | grind)⟩, (by first | decide | (refine ⟨?_, ?_⟩ <;> grind) | grind)⟩, (by first | decide | (refine ⟨?_, ?_⟩ <;> grind) | grind)⟩, (by first | decide | (refine ⟨?_, ?_⟩ <;> grind) | grind)⟩, (by first | decide | (refine ⟨?_, ?_⟩ <;> grind) | grind)⟩, (by first | decide | (refine ⟨?_, ?_⟩ <;> grind) | grind)⟩ lk_12_199 nm_X12_bounds (ks_bounds hg _ _ _ (by grind)) rfl rfl (px_lit hg rfl) rfl rfl rfl ⟨rfl, rfl⟩ ?_
      intro I106 L106 h106
      obtain ⟨rfl, h106⟩ := h106
      refine px_cVW (ci := 12) rfl q_X12_isDug_109 hg rfl trivial lk_12_199 nm_X12_bounds (ks_bounds hg _ _ _ (by grind)) rfl rfl (px_lit hg rfl) rfl rfl rfl ⟨rfl, rfl⟩ ?_
      intro I118 L118 h118
      obtain ⟨rfl, h118⟩ := h118
      refine px_b rfl q_X12_isDug_121 hg rfl trivial ?_
      have lt : i.toNatClampNeg < jxN I118 g := by rw [← zN]; exact px_ltN h0 (by grind)
      have i24 : 0 ≤ i ∧ i < 24 := by grind
      have w := px_24n z24 i24 zN rfl
      have w2 := px_24n i24 z24 rfl zN
      have hE : feq (L39 143) (jxS I118 g (2 * i.toNatClampNeg + 1)) := by
        rw [jxS_even lt, h39.2, h32.2, w.1, w2.1]
        exact (hF1.U (by omega)).U (by omega)
      have pr := px_pr (i := i) (by grind) (by grind)
      have j24 : 0 ≤ i - 1 ∧ i - 1 < 24 := by grind
      have w3 := px_24n j24 i24 pr.1 rfl
      have w4 := px_24n i24 j24 rfl pr.1
      have e5 : (20 * g + Int32.ofNat i.toNatClampNeg) = 20 * g + i := by rw [(px_tnS h0 (by grind)).2]
      exact px_go (ih (i + 1) (by grind) (by grind) (by grind) _ (fun b hb => ((((h118.1 b hb).trans (h106.1 b hb)).trans (h39.1 b hb)).trans (h32.1 b hb)).trans (h1 b hb)) (by
        rw [(px_tnS h0 (by grind)).1, show 2 * (i.toNatClampNeg + 1) = 2 * i.toNatClampNeg + 2 by omega, jxS_odd pr.2 lt, h118.2, h106.2, w3.1, w4.1]
        unfold jMo jFw
        rw [e5]
        exact (hE.U (by omega)).U (by omega))) ⟨rfl, rfl, rfl, rfl, trivial⟩

set_option maxRecDepth 100000 in
theorem ks_isDug {n : Nat} {I : px_I} {L : px_L} {R : px_R} (hg : px_G n R) (g : Int32) (hg1 : 0 ≤ g ∧ g ≤ 1) (hM : mM I) (hG : mG I) : px_KS M_X12_isDug [.ref 103, .int g] n I L R (fun r I2 L2 => I2 = px_u I 103 70 (I 110 g.toNatClampNeg + 1) ∧ mDL L L2 ∧ feq (L2 143) (jxD I g) ∧ ((r = 1 ∧ jGd I g) ∨ (r = 0 ∧ ¬ jGd I g))) := by
  refine px_of (plainFor_of_name np_RX12) (fun _ _ _ => trivial) rfl ?_
  obtain ⟨hG1, hG2⟩ := hG g hg1.1 hg1.2
  refine px_cVW (ci := 12) rfl q_X12_isDug_0 hg rfl ⟨trivial, (by first | decide | (refine ⟨?_, ?_⟩ <;> grind) | grind)⟩ lk_12_203 nm_X12_begins (ks_begins hg _) rfl rfl (px_lit hg rfl) rfl rfl rfl ⟨rfl, rfl⟩ ?_
  intro I11 L11 h11
  obtain ⟨rfl, h11, h11f⟩ := h11
  refine px_b rfl q_X12_isDug_14 hg rfl trivial ?_
  exact px_go (ls_isDug16 hg g _ (I := px_u I 103 70 (I 110 g.toNatClampNeg + 1)) L (by unfold mM at *; simpa [px_ur] using hM) (by unfold mG at *; simpa [px_ur] using hG) ⟨by simp [px_ur], hG1⟩ (by simp [px_ur]) hg1 (fun r L2 h hD hr => ⟨rfl, rfl, r, rfl, rfl, h, hD, hr⟩) 0 hG1.1 (by decide) _ h11 (by rw [px_z0]; exact h11f)) ⟨rfl, rfl, rfl, rfl, trivial⟩

def qW3 (I : px_I) (g p h r : Int32) : Prop := (mPegOk I g p ∧ ((jGd I g ∧ r = mGp (jxD I g) (I 110 g.toNatClampNeg) p h) ∨ (¬ jGd I g ∧ r = -1))) ∨ (¬ mPegOk I g p ∧ r = -1)
def qB3 (I : px_I) (g p t h r : Int32) : Prop := ((mPegOk I g p ∧ mPegOk I g t ∧ p < t) ∧ ((jGd I g ∧ r = mGp (jxD I g) p t h) ∨ (¬ jGd I g ∧ r = -1))) ∨ (¬ (mPegOk I g p ∧ mPegOk I g t ∧ p < t) ∧ r = -1)

set_option maxRecDepth 100000 in
theorem ks_when {n : Nat} {I : px_I} {L : px_L} {R : px_R} (hg : px_G n R) (g p h : Int32) (hM : mM I) (hG : mG I) : px_KS M_X12_when [.ref 103, .int g, .int p, .int h] n I L R (fun r I2 L2 => (mDI I I2 ∧ mDL L L2) ∧ qW3 I g p h r) := by
  refine px_of (plainFor_of_name np_RX12) (fun _ _ _ => trivial) rfl ?_
  refine px_cVP (ci := 12) rfl q_X12_when_0 hg rfl trivial lk_12_233 nm_X12_isPeg (k_isPeg hg _ _) rfl rfl (px_lit hg rfl) rfl rfl rfl ⟨rfl, rfl⟩ ?_
  intro x3 h3
  refine px_eq rfl q_X12_when_6 hg rfl trivial (fun c6 => ?_) (fun c6 => ?_)
  · replace h3 := px_bf h3 c6
    refine px_riS rfl q_X12_when_17 rfl rfl rfl hg rfl trivial ⟨⟨rfl, rfl⟩, ?_⟩
    first
      | exact ⟨⟨fun b j h => by simp [px_ur]; grind, h11a⟩, Or.inl ⟨h3, Or.inr ⟨h11c.elim (fun q => absurd q.1 (by grind)) (fun q => q.2), rfl⟩⟩⟩
      | exact ⟨⟨fun _ _ _ => rfl, fun _ _ => rfl⟩, Or.inr ⟨h3, rfl⟩⟩
  · replace h3 := px_bt h3 c6
    refine px_cVS (ci := 12) rfl q_X12_when_9 hg rfl trivial lk_12_242 nm_X12_isDug (ks_isDug hg _ (by grind) ‹_› ‹_›) rfl rfl (px_lit hg rfl) rfl rfl rfl ⟨rfl, rfl⟩ ?_
    intro x11 I11 L11 h11
    obtain ⟨rfl, h11a, h11b, h11c⟩ := h11
    obtain ⟨hG1, hG2⟩ := hG g (by grind) (by grind)
    refine px_ne rfl q_X12_when_14 hg rfl trivial (fun c14 => ?_) (fun c14 => ?_)
    · refine px_cVP (ci := 12) rfl q_X12_when_21 hg rfl ⟨trivial, (by first | decide | (refine ⟨?_, ?_⟩ <;> grind) | grind)⟩ lk_12_219 nm_X12_gapOf (k_gapOf hg _ _ _ (by simp [px_ur]; grind) (by grind)) rfl rfl (px_lit hg rfl) rfl rfl rfl ⟨rfl, rfl⟩ ?_
      intro x30 h30
      refine px_riS rfl q_X12_when_33 rfl rfl rfl hg rfl trivial ⟨⟨rfl, rfl⟩, ?_⟩
      refine ⟨⟨fun b j h => by simp [px_ur]; grind, h11a⟩, Or.inl ⟨h3, Or.inl ⟨h11c.elim (fun q => q.2) (fun q => absurd q.1 c14), ?_⟩⟩⟩
      rw [h30]
      exact mGp_eq (by simp [px_ur]; grind) ⟨by grind, by grind⟩ h11b
    · refine px_riS rfl q_X12_when_17 rfl rfl rfl hg rfl trivial ⟨⟨rfl, rfl⟩, ?_⟩
      first
        | exact ⟨⟨fun b j h => by simp [px_ur]; grind, h11a⟩, Or.inl ⟨h3, Or.inr ⟨h11c.elim (fun q => absurd q.1 (by grind)) (fun q => q.2), rfl⟩⟩⟩
        | exact ⟨⟨fun _ _ _ => rfl, fun _ _ => rfl⟩, Or.inr ⟨h3, rfl⟩⟩

set_option maxRecDepth 100000 in
theorem ks_between {n : Nat} {I : px_I} {L : px_L} {R : px_R} (hg : px_G n R) (g p t h : Int32) (hM : mM I) (hG : mG I) : px_KS M_X12_between [.ref 103, .int g, .int p, .int t, .int h] n I L R (fun r I2 L2 => (mDI I I2 ∧ mDL L L2) ∧ qB3 I g p t h r) := by
  refine px_of (plainFor_of_name np_RX12) (fun _ _ _ => trivial) rfl ?_
  refine px_cVP (ci := 12) rfl q_X12_between_0 hg rfl trivial lk_12_233 nm_X12_isPeg (k_isPeg hg _ _) rfl rfl (px_lit hg rfl) rfl rfl rfl ⟨rfl, rfl⟩ ?_
  intro x3 h3
  refine px_eq rfl q_X12_between_6 hg rfl trivial (fun c6 => ?_) (fun c6 => ?_)
  · replace h3 := px_bf h3 c6
    refine px_riS rfl q_X12_between_31 rfl rfl rfl hg rfl trivial ⟨⟨rfl, rfl⟩, ?_⟩
    first
      | exact ⟨⟨fun b j h => by simp [px_ur]; grind, h25a⟩, Or.inl ⟨⟨h3, h12, by grind⟩, Or.inr ⟨h25c.elim (fun q => absurd q.1 (by grind)) (fun q => q.2), rfl⟩⟩⟩
      | exact ⟨⟨fun _ _ _ => rfl, fun _ _ => rfl⟩, Or.inr ⟨fun q => h3 q.1, rfl⟩⟩
      | exact ⟨⟨fun _ _ _ => rfl, fun _ _ => rfl⟩, Or.inr ⟨fun q => h12 q.2.1, rfl⟩⟩
      | exact ⟨⟨fun _ _ _ => rfl, fun _ _ => rfl⟩, Or.inr ⟨fun q => absurd q.2.2 (Int32.not_lt.mpr c20), rfl⟩⟩
  · replace h3 := px_bt h3 c6
    refine px_cVP (ci := 12) rfl q_X12_between_9 hg rfl trivial lk_12_233 nm_X12_isPeg (k_isPeg hg _ _) rfl rfl (px_lit hg rfl) rfl rfl rfl ⟨rfl, rfl⟩ ?_
    intro x12 h12
    refine px_eq rfl q_X12_between_15 hg rfl trivial (fun c15 => ?_) (fun c15 => ?_)
    · replace h12 := px_bf h12 c15
      refine px_riS rfl q_X12_between_31 rfl rfl rfl hg rfl trivial ⟨⟨rfl, rfl⟩, ?_⟩
      first
        | exact ⟨⟨fun b j h => by simp [px_ur]; grind, h25a⟩, Or.inl ⟨⟨h3, h12, by grind⟩, Or.inr ⟨h25c.elim (fun q => absurd q.1 (by grind)) (fun q => q.2), rfl⟩⟩⟩
        | exact ⟨⟨fun _ _ _ => rfl, fun _ _ => rfl⟩, Or.inr ⟨fun q => h3 q.1, rfl⟩⟩
        | exact ⟨⟨fun _ _ _ => rfl, fun _ _ => rfl⟩, Or.inr ⟨fun q => h12 q.2.1, rfl⟩⟩
        | exact ⟨⟨fun _ _ _ => rfl, fun _ _ => rfl⟩, Or.inr ⟨fun q => absurd q.2.2 (Int32.not_lt.mpr c20), rfl⟩⟩
    · replace h12 := px_bt h12 c15
      refine px_ige rfl q_X12_between_18 hg rfl trivial (fun c20 => ?_) (fun c20 => ?_)
      · refine px_riS rfl q_X12_between_31 rfl rfl rfl hg rfl trivial ⟨⟨rfl, rfl⟩, ?_⟩
        first
          | exact ⟨⟨fun b j h => by simp [px_ur]; grind, h25a⟩, Or.inl ⟨⟨h3, h12, by grind⟩, Or.inr ⟨h25c.elim (fun q => absurd q.1 (by grind)) (fun q => q.2), rfl⟩⟩⟩
          | exact ⟨⟨fun _ _ _ => rfl, fun _ _ => rfl⟩, Or.inr ⟨fun q => h3 q.1, rfl⟩⟩
          | exact ⟨⟨fun _ _ _ => rfl, fun _ _ => rfl⟩, Or.inr ⟨fun q => h12 q.2.1, rfl⟩⟩
          | exact ⟨⟨fun _ _ _ => rfl, fun _ _ => rfl⟩, Or.inr ⟨fun q => absurd q.2.2 (Int32.not_lt.mpr c20), rfl⟩⟩
      · refine px_cVS (ci := 12) rfl q_X12_between_23 hg rfl trivial lk_12_242 nm_X12_isDug (ks_isDug hg _ (by grind) ‹_› ‹_›) rfl rfl (px_lit hg rfl) rfl rfl rfl ⟨rfl, rfl⟩ ?_
        intro x25 I25 L25 h25
        obtain ⟨rfl, h25a, h25b, h25c⟩ := h25
        obtain ⟨hG1, hG2⟩ := hG g (by grind) (by grind)
        refine px_ne rfl q_X12_between_28 hg rfl trivial (fun c28 => ?_) (fun c28 => ?_)
        · refine px_cVP (ci := 12) rfl q_X12_between_35 hg rfl trivial lk_12_219 nm_X12_gapOf (k_gapOf hg _ _ _ (by grind) (by grind)) rfl rfl (px_lit hg rfl) rfl rfl rfl ⟨rfl, rfl⟩ ?_
          intro x40 h40
          refine px_riS rfl q_X12_between_43 rfl rfl rfl hg rfl trivial ⟨⟨rfl, rfl⟩, ?_⟩
          refine ⟨⟨fun b j h => by simp [px_ur]; grind, h25a⟩, Or.inl ⟨⟨h3, h12, by grind⟩, Or.inl ⟨h25c.elim (fun q => q.2) (fun q => absurd q.1 c28), ?_⟩⟩⟩
          rw [h40]
          exact mGp_eq ⟨by grind, by grind⟩ ⟨by grind, by grind⟩ h25b
        · refine px_riS rfl q_X12_between_31 rfl rfl rfl hg rfl trivial ⟨⟨rfl, rfl⟩, ?_⟩
          first
            | exact ⟨⟨fun b j h => by simp [px_ur]; grind, h25a⟩, Or.inl ⟨⟨h3, h12, by grind⟩, Or.inr ⟨h25c.elim (fun q => absurd q.1 (by grind)) (fun q => q.2), rfl⟩⟩⟩
            | exact ⟨⟨fun _ _ _ => rfl, fun _ _ => rfl⟩, Or.inr ⟨fun q => h3 q.1, rfl⟩⟩
            | exact ⟨⟨fun _ _ _ => rfl, fun _ _ => rfl⟩, Or.inr ⟨fun q => h12 q.2.1, rfl⟩⟩
            | exact ⟨⟨fun _ _ _ => rfl, fun _ _ => rfl⟩, Or.inr ⟨fun q => absurd q.2.2 (Int32.not_lt.mpr c20), rfl⟩⟩
