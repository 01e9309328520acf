/-! a part of a text, in the reference -/
def nB (I : px_I) (G : zG) : Prop := mTk I ∧ ∃ X, nSI I X (I 103 35) G
def nM (I : px_I) : Int32 := 2 * I 103 35 + I 103 39
theorem yEr_31 {I : px_I} {f : Int32} : yEr I f 103 31 = f := by unfold yEr; simp [px_ur]
theorem nB.nx {J K : px_I} {G : zG} (hm : mNx J K) (hX : ∃ X, nSI J X (J 103 35) G) : nB K G ∧ nM K = nM J := by
  obtain ⟨m1, m2, m3, -⟩ := hm
  obtain ⟨X, hX⟩ := hX
  have e35 := m1.f 35 (by decide)
  have e39 := m1.f 39 (by decide)
  exact ⟨⟨m3, X, by rw [e35]; exact hX.K m1⟩, by unfold nM; rw [e35, e39]⟩
theorem nB.r {I : px_I} {G : zG} (h : nB I G) : (0 ≤ I 103 35 ∧ I 103 35 ≤ 210) ∧ (0 ≤ I 103 39 ∧ I 103 39 ≤ 8) ∧ (0 ≤ I 103 28 ∧ I 103 28 ≤ I 103 27 ∧ I 103 27 ≤ 400) := by
  obtain ⟨h1, X, h2⟩ := h
  exact ⟨h2.2.1, h2.1, h1.1.1, h1.1.2.1, Int32.le_trans h1.1.2.2.1 h1.1.2.2.2⟩
theorem nB.so {K J : px_I} {G : zG} (h : nB K G) (hM : nM K ≤ K 103 28 + 1) (hi : ySO K J) (hJ : J 103 31 = 0) : nB J G ∧ nM J ≤ J 103 28 := by
  have r := h.r
  obtain ⟨k1, X, k4⟩ := h
  rcases hi with ⟨a, b⟩ | ⟨a, b⟩
  · rw [b, yEr_31] at hJ; exact absurd hJ (by decide)
  · have e : ∀ k, k ≠ 72 → px_u K 103 72 (K 103 72 + (if K 103 39 = 0 then 1 else 0)) 103 k = K 103 k := fun k hk => px_u_at_ne hk
    have z := nB.nx b ⟨X, by rw [e 35 (by decide)]; exact k4.fld 72 _⟩
    have m2 := b.2.1
    rw [e 27 (by decide)] at m2
    have lt := k1.2.1 (by rw [a.1]; decide)
    refine ⟨z.1, ?_⟩
    rw [z.2]
    unfold nM at *
    rw [e 35 (by decide), e 39 (by decide)]
    have r2 := z.1.r
    grind
theorem nB.st {I K J : px_I} {G : zG} {w x : Int32} (h : nB I G) (hM : nM I ≤ I 103 28) (hlt : I 103 28 < I 103 27) (hw : 1 ≤ w ∧ w ≤ 6) (hm : mNx (px_u (mE I w x) 127 (I 103 39).toNatClampNeg 1) K) (hi : ySO K J) (hJ : J 103 31 = 0) : nB J (gAd G.1 (I 103 39) [(w, x)], G.2) ∧ nM J ≤ J 103 28 := by
  have r := h.r
  obtain ⟨h1, X, hX⟩ := h
  unfold nM at hM
  have hN : I 103 35 < 210 := by grind
  have z := nB.nx hm (hX.emS hN hw rfl)
  refine z.1.so ?_ hi hJ
  have m2 := hm.2.1
  have j27 : px_u (mE I w x) 127 (I 103 39).toNatClampNeg 1 103 27 = I 103 27 := by rw [px_u_ne (by decide)]; exact mE_f rfl (by decide)
  rw [j27] at m2
  rw [z.2]
  unfold nM
  rw [px_u_ne (by decide), mE_f rfl (j := 39) (by decide), mE_35 rfl]
  have r2 := z.1.r
  grind
theorem nSI.set {I : px_I} {X : Int32 → Prop} {fe s : Int32} {G : zG} (h : nSI I X fe G) (hs : s = 0 ∨ s = 1) (hs2 : s = 0 ↔ I 127 (I 103 39).toNatClampNeg = 0) : nSI (px_u I 127 (I 103 39).toNatClampNeg s) X fe G := by
  have e : ∀ b, b ≠ 127 → px_u I 127 (I 103 39).toNatClampNeg s b = I b := fun b hb => px_u_ne hb
  unfold nSI
  rw [e 122 (by decide), e 123 (by decide), e 124 (by decide), e 125 (by decide), e 126 (by decide), e 128 (by decide), e 103 (by decide)]
  obtain ⟨h1, h2, h3, h4, h5, h6, h7⟩ := h
  refine ⟨h1, h2, h3, h4, h5, fun q q1 q2 => ⟨fun q3 => ?_, (h6 q q1 q2).2⟩, h7⟩
  have h8 := (h6 q q1 q2).1 q3
  dsimp only at h8 ⊢
  by_cases c : q = I 103 39
  · rw [c] at h8 ⊢
    rw [px_u_at]
    exact ⟨hs, hs2.trans h8.2⟩
  · rw [px_uJ q1 h1.1 c]
    exact h8
theorem nSI.let0 {I : px_I} {X : Int32 → Prop} {fe : Int32} {G : zG} (h : nSI I X fe G) (h0 : I 103 39 = 0) (v : Int32) : nSI (px_u I 103 71 v) X fe G := by
  have e : ∀ b, b ≠ 103 → px_u I 103 71 v b = I b := fun b hb => px_u_ne hb
  have e39 : px_u I 103 71 v 103 39 = 0 := by rw [px_u_at_ne (by decide)]; exact h0
  unfold nSI at *
  rw [e 122 (by decide), e 123 (by decide), e 124 (by decide), e 125 (by decide), e 126 (by decide), e 127 (by decide), e 128 (by decide), e39]
  rw [h0] at h
  obtain ⟨h1, h2, h3, h4, h5, h6, h7⟩ := h
  exact ⟨h1, h2, h3, fun q q1 q2 => by grind, fun p q p1 p2 p3 => by grind, h6, h7⟩
theorem yOp.N {K J : px_I} {dd wh x : Int32} {G : zG} {X : Int32 → Prop} (h1 : mTk K) (hX : nSI K X wh G) (h35 : K 103 35 = wh + 1) (hM : 2 * wh + K 103 39 + 2 ≤ K 103 28) (hd : ¬ dd = 0 → K 103 39 = 0 ∧ K 122 wh.toNatClampNeg = 23 ∧ (0 ≤ K 103 71 ∧ K 103 71 ≤ 7) ∧ K 124 (K 103 71).toNatClampNeg < 0) (hv : dd = 0 → K 123 wh.toNatClampNeg = x ∧ 1 ≤ x ∧ x ≤ 99) (hi : yOp dd wh K J) (hJ : J 103 31 = 0) : nB J (gN G.1 (K 103 39 + 1), G.2.1, gT G.2.2 (K 103 39 + 1) x) ∧ nM J ≤ J 103 28 := by
  have r1 := hX.1
  have r2 := hX.2.1
  have r3 : 0 ≤ K 103 28 ∧ K 103 28 ≤ K 103 27 ∧ K 103 27 ≤ 400 := ⟨h1.1.1, h1.1.2.1, Int32.le_trans h1.1.2.2.1 h1.1.2.2.2⟩
  rcases hi with ⟨a, b⟩ | ⟨a, c, b⟩ | ⟨a, c, b⟩
  · rw [b, yEr_31] at hJ; exact absurd hJ (by decide)
  · rw [b, yEr_31] at hJ; exact absurd hJ (by decide)
  · have lt := h1.2.1 (by rw [a.1]; decide)
    rw [show (0 : Int32) &&& 1 = 0 by decide] at b
    have hX2 := hX.opn (dv := if dd = 0 then 0 else 1) (x := x) (by grind) (by grind) (fun z => by
      by_cases e : dd = 0
      · rw [if_pos e] at z; exact absurd z (by decide)
      · exact hd e) (fun z => by
      by_cases e : dd = 0
      · exact hv e
      · rw [if_neg e] at z; exact absurd rfl z) rfl
    have j35 : px_u (px_u (px_u (px_u K 125 (K 103 39).toNatClampNeg (if dd = 0 then 0 else 1)) 126 (K 103 39).toNatClampNeg wh) 103 39 (K 103 39 + 1)) 127 (K 103 39 + 1).toNatClampNeg 0 103 35 = wh + 1 := by simp [px_ur]; exact h35
    have z := nB.nx b ⟨X, by rw [j35]; exact hX2⟩
    refine ⟨z.1, ?_⟩
    have m2 := b.2.1
    have j27 : px_u (px_u (px_u (px_u K 125 (K 103 39).toNatClampNeg (if dd = 0 then 0 else 1)) 126 (K 103 39).toNatClampNeg wh) 103 39 (K 103 39 + 1)) 127 (K 103 39 + 1).toNatClampNeg 0 103 27 = K 103 27 := by simp [px_ur]
    have j39 : px_u (px_u (px_u (px_u K 125 (K 103 39).toNatClampNeg (if dd = 0 then 0 else 1)) 126 (K 103 39).toNatClampNeg wh) 103 39 (K 103 39 + 1)) 127 (K 103 39 + 1).toNatClampNeg 0 103 39 = K 103 39 + 1 := by simp [px_ur]
    rw [j27] at m2
    rw [z.2]
    unfold nM
    rw [j35, j39]
    have r4 := z.1.r
    grind
theorem yDo.N {J I2 : px_I} {G : zG} (h : nB J G) (hM : nM J ≤ J 103 28) (hi : yDo J I2) (hJ : I2 103 31 = 0) : nB I2 (gAd G.1 (J 103 39) (G.2.1 (J 103 30)), G.2) ∧ nM I2 ≤ I2 103 28 := by
  have r := h.r
  obtain ⟨h1, X, hX⟩ := h
  rcases hi with ⟨a, b⟩ | ⟨a, c, b⟩ | ⟨a, c, K, b, hso⟩
  · rw [b, yEr_31] at hJ; exact absurd hJ (by decide)
  · rw [b, yEr_31] at hJ; exact absurd hJ (by decide)
  · have hl := h1.2.2.1 a
    have hlt := h1.2.1 (by rw [a]; decide)
    unfold nM at hM
    have hN : J 103 35 < 210 := by grind
    rcases b with ⟨b1, s, b2, b3⟩ | ⟨b1, b3⟩
    · subst b2
      have z := nB.nx b3 (hX.emC hN hl (Int32.not_lt.mp c) b1 rfl)
      refine z.1.so ?_ hso hJ
      have m2 := b3.2.1
      have j27 : px_u (mE J 7 (J 124 (J 103 30).toNatClampNeg)) 127 (J 103 39).toNatClampNeg 1 103 27 = J 103 27 := by rw [px_u_ne (by decide)]; exact mE_f rfl (by decide)
      rw [j27] at m2
      rw [z.2]
      unfold nM
      rw [px_u_ne (by decide), mE_f rfl (j := 39) (by decide), mE_35 rfl]
      have r2 := z.1.r
      grind
    · have z := nB.nx b3 ⟨X, hX⟩
      have e : G.2.1 (J 103 30) = [] := (hX.2.2.2.2.2.2 (J 103 30) hl.1 hl.2 (Int32.not_lt.mp c)).1.mp b1
      rw [e, gAd_nil]
      refine z.1.so ?_ hso hJ
      have m2 := b3.2.1
      rw [z.2]
      unfold nM
      have r2 := z.1.r
      grind
theorem cMn_i {x : Int32} {w : Int32} (h : yLo w ≤ x ∧ x ≤ yHi w) : cMn 1000000 x = x := by
  have : x ≤ 100000 := by
    have h2 := h.2
    unfold yHi at h2
    split at h2
    · grind
    · split at h2
      · grind
      · split at h2 <;> grind
  unfold cMn
  grind
theorem yNm2.N {J I2 : px_I} {G : zG} {w : Int32} (hw : w = 1 ∨ w = 2 ∨ w = 3 ∨ w = 4 ∨ w = 8) (h : nB J G) (hM : nM J + 1 ≤ J 103 28) (hi : yNm2 w J I2) (hJ : I2 103 31 = 0) : (J 103 29 = 3 ∧ cMn 1000000 (J 103 30) = J 103 30) ∧ nB I2 (if w = 8 then (gN G.1 (J 103 39 + 1), G.2.1, gT G.2.2 (J 103 39 + 1) (J 103 30)) else (gAd G.1 (J 103 39) [(w, J 103 30)], G.2)) ∧ nM I2 ≤ I2 103 28 := by
  have r := h.r
  rcases hi with ⟨a, b⟩ | ⟨a, c, b⟩ | ⟨a, c, s, K, ⟨s1, s2⟩, hm, e⟩
  · rw [b, yEr_31] at hJ; exact absurd hJ (by decide)
  · rw [b, yEr_31] at hJ; exact absurd hJ (by decide)
  · refine ⟨⟨a, cMn_i c⟩, ?_⟩
    have hlt := h.1.2.1 (by rw [a]; decide)
    unfold nM at hM
    rcases e with ⟨e1, e2⟩ | ⟨e1, e2⟩
    · rw [if_pos e1]
      subst e1
      obtain ⟨h1, X, hX⟩ := h
      have hE := hX.em (J := mE J 8 (J 103 30)) rfl rfl
      have e39 : mE J 8 (J 103 30) 103 39 = J 103 39 := mE_f rfl (by decide)
      have e127 : mE J 8 (J 103 30) 127 = J 127 := mE_b rfl (by decide) (by decide) (by decide)
      have hS := hE.set (s := s) s1 (by rw [e39, e127]; exact ⟨fun z => (s2.mp z).1, fun z => s2.mpr ⟨z, rfl⟩⟩)
      rw [e39] at hS
      have k35 : K 103 35 = J 103 35 + 1 := (hm.1.f 35 (by decide)).trans (by rw [px_u_ne (by decide)]; exact mE_35 rfl)
      have k39 : K 103 39 = J 103 39 := (hm.1.f 39 (by decide)).trans (by rw [px_u_ne (by decide)]; exact e39)
      have m2 := hm.2.1
      have j27 : px_u (mE J 8 (J 103 30)) 127 (J 103 39).toNatClampNeg s 103 27 = J 103 27 := by rw [px_u_ne (by decide)]; exact mE_f rfl (by decide)
      rw [j27] at m2
      have z := e2.N (x := J 103 30) hm.2.2.1 (hS.K hm.1) k35 (by rw [k39]; have := hm.2.2.1.1; grind) (fun q => absurd rfl q) (fun _ => ⟨by rw [hm.1.o 123 (by decide), px_u_ne (by decide)]; exact mE_123 rfl, c⟩) hJ
      rw [k39] at z
      exact z
    · rw [if_neg e1]
      have s9 : s = 1 := s1.resolve_left (fun q => e1 (s2.mp q).2)
      subst s9
      exact h.st (by unfold nM; grind) hlt (by grind) hm e2 hJ
theorem yDf2.N {J I2 : px_I} {G : zG} (hz : J 103 39 = 0) (h : nB J G) (hM : nM J + 1 ≤ J 103 28) (hi : yDf2 J I2) (hJ : I2 103 31 = 0) : nB I2 (gN G.1 (J 103 39 + 1), G.2.1, gT G.2.2 (J 103 39 + 1) 1) ∧ nM I2 ≤ I2 103 28 := by
  have r := h.r
  obtain ⟨h1, X, hX⟩ := h
  rcases hi with ⟨a, b⟩ | ⟨a, c, b⟩ | ⟨a, c, K, hm, e⟩
  · rw [b, yEr_31] at hJ; exact absurd hJ (by decide)
  · rw [b, yEr_31] at hJ; exact absurd hJ (by decide)
  · have hl := h1.2.2.1 a
    have hlt := h1.2.1 (by rw [a]; decide)
    unfold nM at hM
    have hK := (hX.let0 hz (J 103 30)).K hm.1
    have k35 : K 103 35 = J 103 35 := (hm.1.f 35 (by decide)).trans (px_u_at_ne (by decide))
    have k39 : K 103 39 = J 103 39 := (hm.1.f 39 (by decide)).trans (px_u_at_ne (by decide))
    have k71 : K 103 71 = J 103 30 := (hm.1.f 71 (by decide)).trans px_u_at
    have k124 : K 124 = J 124 := (hm.1.o 124 (by decide)).trans (px_u_ne (by decide))
    have m2 := hm.2.1
    rw [px_u_at_ne (by decide)] at m2
    have m3 := hm.2.2.1
    rw [← k35] at hK
    have hE := hK.em (J := mE K 23 0) rfl rfl
    have f : ∀ j, j ≠ 35 → mE K 23 0 103 j = K 103 j := fun j hj => mE_f rfl hj
    have z := e.N (x := 1) (by unfold mTk at *; rw [f 26 (by decide), f 27 (by decide), f 28 (by decide), f 29 (by decide), f 30 (by decide)]; exact m3) hE (mE_35 rfl) (by rw [f 39 (by decide), f 28 (by decide), k39, k35]; have := m3.1; grind) (fun _ => ⟨by rw [f 39 (by decide), k39]; exact hz, mE_122 rfl, by rw [f 71 (by decide), k71]; exact hl, by rw [f 71 (by decide), k71, mE_b rfl (b := 124) (by decide) (by decide) (by decide), k124]; exact Int32.not_le.mp c⟩) (fun q => absurd q (by decide)) hJ
    rw [f 39 (by decide), k39] at z
    exact z
theorem yCl.N {I J : px_I} {G : zG} {d o m : Int32} {T : Nat → Bool} (hd : 0 < d) (hs : yS I d o m T) (h : nB I G) (hM : nM I ≤ I 103 28) (hlt : I 103 28 < I 103 27) (hi : yCl I J) : nB J (zgC d o G) ∧ nM J ≤ J 103 28 := by
  have r := h.r
  obtain ⟨h1, X, hX⟩ := h
  obtain ⟨s1, s2, s3, s4, s5, s6, s7, s8, s9, s10, s11⟩ := hs
  unfold nM at hM
  have hN : I 103 35 < 210 := by grind
  have hop : 0 < I 103 39 := by rw [s2]; exact hd
  unfold zgC
  rcases hi with ⟨a, w0, b⟩ | ⟨a, s, ⟨q1, q2⟩, b⟩
  · obtain ⟨d1, hX2⟩ := hX.clD hN hop rfl a rfl
    have o1 : ¬ o = -1 := by
      refine (s7 hd).mp ?_
      rw [d1, show (1 : Int32) - 1 = 0 by decide, xz0] at a
      exact a
    rw [if_pos ⟨by rw [← s2]; exact d1, o1⟩]
    have z := nB.nx b hX2
    rw [s8 o1] at z
    refine ⟨z.1, ?_⟩
    have m2 := b.2.1
    have e27 : yC1 I 103 27 = I 103 27 := by unfold yC1 mE; simp [px_ur]
    have e35 : yC1 I 103 35 = I 103 35 + 1 := by unfold yC1 mE; simp [px_ur]
    have e39 : yC1 I 103 39 = I 103 39 - 1 := by unfold yC1 mE; simp [px_ur]
    rw [z.2]
    unfold nM
    simp only [px_ur] at m2 ⊢
    simp at m2 ⊢
    rw [e27] at m2
    rw [e35, e39]
    have r2 := z.1.r
    grind
  · have no : ¬ (d = 1 ∧ ¬ o = -1) := fun q => by
      have := (s7 hd).mpr q.2
      rw [s2, q.1, show (1 : Int32) - 1 = 0 by decide, xz0] at a
      exact a this
    rw [if_neg no]
    have hX2 := hX.clR (s := s) (m := I 103 72 + (if I 103 39 - 1 = 0 then 1 else 0)) hN hop rfl a q1 q2 rfl
    have z := nB.nx b hX2
    rw [s2] at z
    refine ⟨z.1, ?_⟩
    have m2 := b.2.1
    have e27 : yC2 I 103 27 = I 103 27 := by unfold yC2 mE; simp [px_ur]
    have e35 : yC2 I 103 35 = I 103 35 + 1 := by unfold yC2 mE; simp [px_ur]
    have e39 : yC2 I 103 39 = I 103 39 - 1 := by unfold yC2 mE; simp [px_ur]
    rw [z.2]
    unfold nM
    simp only [px_ur] at m2 ⊢
    simp at m2 ⊢
    rw [e27] at m2
    rw [e35, e39]
    have r2 := z.1.r
    grind
theorem yIt.N {B : Nat → Int32} {n p : Nat} {I J : px_I} {d o m : Int32} {T : Nat → Bool} {G : zG} (h : yT B n I p) (hs : yS I d o m T) (hi : yIt I J) (hJ : J 103 31 = 0) (hB : nB I G) (hM : nM I ≤ I 103 28) : nB J (zg B n p d o G) ∧ nM J ≤ J 103 28 := by
  have r := hB.r
  have t3 := h.1.2.2.1
  have s2 := hs.2.1
  have s4 := hs.2.2.2.1
  unfold yIt at hi
  rw [ySg_iff h, s2, t3] at hi
  unfold zg
  rcases hi with ⟨a, b⟩ | ⟨a, b⟩
  · rw [if_pos a.2.1]
    exact b.N a.1 hs hB hM (hB.1.2.1 (by rw [t3, a.2.1]; decide))
  · rcases b with ⟨b1, b2⟩ | ⟨b1, b2, b3, b4⟩ | ⟨b1, b2, b3⟩
    · rw [b2, yEr_31] at hJ; exact absurd hJ (by decide)
    · have hlt := hB.1.2.1 (by rw [t3, b1]; decide)
      rw [h.1.2.2.2.2 (Or.inl b1)] at b2
      rw [if_neg (by rw [b1]; decide)]
      unfold zgW
      rw [if_pos b2]
      obtain ⟨K, k1, k2⟩ := b4
      have z := nB.nx k1 hB.2
      have k39 := k1.1.f 39 (by decide)
      have m2 := k1.2.1
      have r2 := z.1.r
      have y := k2.N (by rw [k39, s2]; grind) z.1 (by rw [z.2]; unfold nM at *; grind) hJ
      rw [k39, s2] at y
      exact y
    · have hlt := hB.1.2.1 (by rw [t3, b1]; decide)
      have t5 := h.1.2.2.2.2 (Or.inl b1)
      rw [t5] at b2
      rw [if_neg (by rw [b1]; decide)]
      unfold zgW
      rw [if_neg b2]
      unfold ySt at b3
      rw [t5] at b3
      have hr := yVr b1
      rcases b3 with ⟨a, s, K, c1, c2, c3⟩ | ⟨a, K, c2, c3⟩ | ⟨a, K, c2, c3⟩
      · subst c1
        rw [if_neg (by grind), if_pos a]
        have y := hB.st hM hlt (by grind) c2 c3 hJ
        rw [s2] at y
        exact y
      · rw [if_pos a]
        have hT := h.nx yK.rfl' c2
        have z := nB.nx c2 hB.2
        have k39 := c2.1.f 39 (by decide)
        have m2 := c2.2.1
        have r2 := z.1.r
        have y := c3.N z.1 (by rw [z.2]; unfold nM at *; grind) hJ
        have k29 : K 103 29 = 2 := by
          rcases c3 with ⟨q, q2⟩ | ⟨q, -⟩ | ⟨q, -⟩
          · rw [q2, yEr_31] at hJ; exact absurd hJ (by decide)
          · exact q
          · exact q
        rw [k39, s2, hT.1.2.2.2.2 (Or.inr (Or.inl (hT.1.2.2.1.symm.trans k29)))] at y
        exact y
      · rw [if_neg (by grind), if_neg (by grind)]
        have hT := h.nx yK.rfl' c2
        have z := nB.nx c2 hB.2
        have k39 := c2.1.f 39 (by decide)
        have m2 := c2.2.1
        have r2 := z.1.r
        have y := c3.N (by grind) z.1 (by rw [z.2]; unfold nM at *; grind) hJ
        obtain ⟨⟨y1, y2⟩, y3⟩ := y
        have e30 : K 103 30 = tV B n (tE B n p) := y2.symm.trans (hT.1.2.2.2.1 (hT.1.2.2.1.symm.trans y1))
        rw [k39, s2, e30] at y3
        exact y3
theorem yLp.N {B : Nat → Int32} {n : Nat} {I I2 : px_I} (hl : yLp I I2) : ∀ {p : Nat} {d o m : Int32} {T : Nat → Bool} {G : zG}, yT B n I p → yS I d o m T → nB I G → nM I ≤ I 103 28 → ∃ r H, ZG B n (p, d, o, m, T) G r H ∧ yM I2 r ∧ (r.1 = 0 → nB I2 H ∧ nM I2 ≤ I2 103 28 ∧ I2 103 39 = 0) := by
  have key := hl (fun I I2 => (¬ yGo I → I2 = I) ∧ (∀ {p : Nat} {d o m : Int32} {T : Nat → Bool} {G : zG}, yT B n I p → yS I d o m T → nB I G → nM I ≤ I 103 28 → ∃ r H, ZG B n (p, d, o, m, T) G r H ∧ yM I2 r ∧ (r.1 = 0 → nB I2 H ∧ nM I2 ≤ I2 103 28 ∧ I2 103 39 = 0))) (fun I hn => ⟨fun _ => rfl, fun {p d o m T G} h hs hB hM => ?_⟩) (fun I J K hg hi hk => ⟨fun q => absurd hg q, fun {p d o m T G} h hs hB hM => ?_⟩)
  · intro p d o m T G h hs hB hM
    exact key.2 h hs hB hM
  · have t3 := h.1.2.2.1
    have s1 := hs.1
    have s2 := hs.2.1
    have s4 := hs.2.2.2.1
    unfold yGo at hn
    rw [t3, s2] at hn
    have d0 : d = 0 := by
      by_cases q : d = 0
      · exact q
      · exact absurd ⟨s1, Or.inr (by grind)⟩ hn
    have e : zIt B n (p, d, o, m, T) = zfin m := by
      show zit B n p d o m T = _
      unfold zit
      refine if_pos ⟨?_, d0⟩
      by_cases q : tK B n p = 0
      · exact q
      · exact absurd ⟨s1, Or.inl q⟩ hn
    refine ⟨zfin m, G, ?_, Or.inl ⟨rfl, s1, hs.2.2.2.2.2.2.2.2.2.2, hs.2.2.1⟩, fun _ => ⟨hB, hM, by rw [s2]; exact d0⟩⟩
    rw [← e]
    exact ZG.one (by rw [e]; show ¬ (0 : Int32) = -1; decide)
  · have ho := hi.A h hs hg
    have e : zIt B n (p, d, o, m, T) = zit B n p d o m T := rfl
    rcases ho with ⟨o1, o2, o3⟩ | ⟨o1, o2, o3⟩
    · have hN := hi.N h hs o3.1 hB hM
      obtain ⟨r, H, r1, r2⟩ := hk.2 o2 o3 hN.1 hN.2
      exact ⟨r, H, ZG.step (by rw [e]; exact o1) r1, r2⟩
    · have ng : ¬ yGo J := fun z => by
        have := z.1
        rw [o2] at this
        rw [this] at o1
        exact absurd o1 (by decide)
      rw [hk.1 ng]
      refine ⟨zit B n p d o m T, G, ZG.one (by rw [e]; intro z; rw [z] at o1; exact absurd o1 (by decide)), Or.inr ⟨o1, o2, o3⟩, fun z => by rw [z] at o1; exact absurd o1 (by decide)⟩
def zg0 : zG := (fun _ => [], fun _ => [], fun _ => 0)
/-- the orders of a way that was told -/
theorem mOx_of {I K J : px_I} {w : Int32} {G : zG} (hB : nB I G) (hM : nM I ≤ I 103 28) (h0 : I 103 39 = 0) (hw : 0 ≤ w ∧ w ≤ 5) (hK : K = mE I 22 0) (hJ : ∀ q : Int32, 0 ≤ q → q < I 103 35 + 1 → J 130 (220 * w + q).toNatClampNeg = K 122 q.toNatClampNeg ∧ J 131 (220 * w + q).toNatClampNeg = K 123 q.toNatClampNeg) : mOx J w (G.1 0) := by
  have r := hB.r
  obtain ⟨h1, X, hX⟩ := hB
  unfold nM at hM
  have hN : I 103 35 < 210 := by grind
  have hE := hX.em hK rfl
  have e39 : K 103 39 = 0 := by rw [mE_f hK (by decide)]; exact h0
  have h6 := (hE.2.2.2.2.2.1 0 (by decide) (by rw [e39]; decide)).2
  rw [if_pos rfl, if_pos e39.symm] at h6
  have h3 := hE.2.2.1
  have hn := mNd_in (fun j => K 124 j.toNatClampNeg)
  refine ⟨fun j => 0 ≤ j ∧ j < I 103 35 + 1, _, I 103 35, fun j hj => ⟨hj.1, by grind⟩, h6.cg (fun j hj => ?_), ?_, ⟨r.1.1, by grind⟩, ?_⟩
  · have q := h3 j hj
    have z := hJ j q.1 (by grind)
    exact ⟨⟨q.1, by grind⟩, z.1, z.2⟩
  · grind
  · rw [(hJ (I 103 35) r.1.1 (by grind)).1]
    exact mE_122 hK
theorem mOx.same {I J : px_I} {w : Int32} {zs : zL} (h : mOx I w zs) (hJ : ∀ q : Int32, 0 ≤ q → q < 220 → J 130 (220 * w + q).toNatClampNeg = I 130 (220 * w + q).toNatClampNeg ∧ J 131 (220 * w + q).toNatClampNeg = I 131 (220 * w + q).toNatClampNeg) : mOx J w zs := by
  obtain ⟨X, s, e, h1, h2, h3, h4, h5⟩ := h
  refine ⟨X, s, e, h1, h2.cg (fun j hj => ⟨hj, (hJ j (h1 j hj).1 (h1 j hj).2).1, (hJ j (h1 j hj).1 (h1 j hj).2).2⟩), h3, h4, ?_⟩
  rw [(hJ e (h1 e h4).1 (h1 e h4).2).1]
  exact h5
/-- the reference's way, with its steps -/
theorem yWay.N {I I2 : px_I} {w r : Int32} (hw : 0 ≤ w ∧ w ≤ 5) (h : yWay I I2 w r) : ∃ z H, ZG (byR (yW0 I)) (nR (yW0 I)) zr0 zg0 z H ∧ ((z.1 = 0 ∧ r = z.2.2.2.2.2.1 ∧ I2 103 33 = 0 ∧ I2 103 34 = -1 ∧ (∀ k, I2 129 k = px_u I 129 w.toNatClampNeg 1 129 k) ∧ mOx I2 w (H.1 0) ∧ (∀ w2 : Int32, 0 ≤ w2 → w2 ≤ 5 → w2 ≠ w → ∀ q : Int32, 0 ≤ q → q < 220 → I2 130 (220 * w2 + q).toNatClampNeg = I 130 (220 * w2 + q).toNatClampNeg ∧ I2 131 (220 * w2 + q).toNatClampNeg = I 131 (220 * w2 + q).toNatClampNeg)) ∨ (1 ≤ z.1 ∧ r = -1 ∧ I2 103 33 = z.1 ∧ (I2 103 34).toNatClampNeg = z.2.1 ∧ 0 ≤ I2 103 34 ∧ (∀ k, I2 129 k = I 129 k) ∧ I2 130 = I 130 ∧ I2 131 = I 131)) := by
  obtain ⟨Ia, Ib, Ic, ⟨i1, i2, i3⟩, n1, l1, fr, e1⟩ := h
  obtain ⟨m1, m2, m3, m4⟩ := id n1
  have i121 : Ia 121 = I 121 := funext fun j => (i3 121 j (Or.inl (by decide)) (fun q => absurd q.1 (by decide))).trans (by unfold yW0; simp [px_ur])
  have w121 : yW0 I 121 = I 121 := by unfold yW0; funext j; simp [px_ur]
  have eb : byR Ia = byR (yW0 I) := by unfold byR; rw [i1, i121, w121]
  have en : nR Ia = nR (yW0 I) := by unfold nR; rw [i1]
  have a27 : Ia 103 27 = 0 := by rw [i1]; unfold yW0; simp [px_ur]
  have f26 : Ib 103 26 = Ia 103 26 := m1.f 26 (by decide)
  have hT : yT (byR (yW0 I)) (nR (yW0 I)) Ib 0 := by
    rw [eb, en, a27, xz0] at m4
    refine ⟨m4, ?_, ?_, m3.1.1⟩
    · rw [← eb]; unfold byR; rw [f26, m1.o 121 (by decide)]
    · rw [← en]; unfold nR; rw [f26]
  have b35 : Ib 103 35 = 0 := by rw [m1.f 35 (by decide), i1]; unfold yW0; simp [px_ur]
  have b39 : Ib 103 39 = 0 := by rw [m1.f 39 (by decide), i1]; unfold yW0; simp [px_ur]
  have hS : yS Ib 0 (-1) 0 (fun _ => false) := by
    refine ⟨?_, b39, ?_, by decide, fun _ => rfl, by decide, fun q => absurd q (by decide), fun q => absurd rfl q, fun q q1 q2 => absurd (Int32.lt_of_le_of_lt q1 q2) (by decide), fun l hl => ?_, ?_⟩
    · rw [m1.f 31 (by decide), i1]; unfold yW0; simp [px_ur]
    · rw [m1.f 72 (by decide), i1]; unfold yW0; simp [px_ur]
    · have e := i2 (Int32.ofNat l)
      have t : (Int32.ofNat l).toInt = l := Int32.toInt_ofNat_of_lt (by omega)
      have l0 : (0 : Int32) ≤ Int32.ofNat l := Int32.le_iff_toInt_le.mpr (by rw [t, show (0 : Int32).toInt = 0 by decide]; omega)
      have l8 : Int32.ofNat l < 8 := Int32.lt_iff_toInt_lt.mpr (by rw [t, show (8 : Int32).toInt = 8 by decide]; omega)
      have ln : (Int32.ofNat l).toNatClampNeg = l := by have := xnat l0; omega
      have e := e l0 l8
      rw [ln] at e
      rw [m1.o 124 (by decide), e]
      exact ⟨fun q => absurd q Bool.false_ne_true, fun q => absurd q (by decide)⟩
    · rw [m1.f 32 (by decide), i1]; unfold yW0; simp [px_ur]
  have hB : nB Ib zg0 := ⟨m3, _, by rw [b35]; exact nSI.zero b39 (fun l l1 l2 => by rw [m1.o 124 (by decide)]; exact i2 l l1 (by grind)) zg0 rfl⟩
  obtain ⟨z, H, z1, z2, z3⟩ := l1.N hT hS hB (by unfold nM; rw [b35, b39]; have := m3.1.1; grind)
  have cfr : ∀ b, 129 ≤ b → Ic b = I b := fun b hb => funext fun k => (fr b k (Or.inr (by omega)) (fun q => by omega)).trans (by unfold yW0; simp [px_ur, show b ≠ 103 by omega])
  refine ⟨z, H, z1, ?_⟩
  unfold yE1 at e1
  rcases z2 with ⟨a1, a2, a3, a4⟩ | ⟨a1, a2, a3, a4⟩
  · rcases e1 with ⟨b1, -⟩ | ⟨-, b2, J, b3, rfl⟩
    · rw [a2] at b1; exact absurd b1 (by decide)
    · obtain ⟨c1, c2, c3⟩ := z3 a1
      have j103 : J 103 = mE (yE0 Ic) 22 0 103 := b3.2.2 103 (by decide) (by decide)
      have j129 : J 129 = mE (yE0 Ic) 22 0 129 := b3.2.2 129 (by decide) (by decide)
      have y35 : yE0 Ic 103 35 = Ic 103 35 := by unfold yE0; simp [px_ur]
      have yb : ∀ b, b ≠ 103 → yE0 Ic b = Ic b := fun b hb => by unfold yE0; rw [px_u_ne hb, px_u_ne hb]
      have u0 : ∀ q, px_u J 129 w.toNatClampNeg 1 130 q = J 130 q := fun q => by rw [px_u_ne (by decide)]
      have u1 : ∀ q, px_u J 129 w.toNatClampNeg 1 131 q = J 131 q := fun q => by rw [px_u_ne (by decide)]
      refine Or.inl ⟨a1, ?_, ?_, ?_, fun k => ?_, ?_, fun w2 q1 q2 q3 q q4 q5 => ?_⟩
      · rw [b2, ← a4]; unfold yE0; simp [px_ur]
      · rw [px_u_ne (by decide), j103, mE_f rfl (by decide)]; unfold yE0; simp [px_ur]; exact a2
      · rw [px_u_ne (by decide), j103, mE_f rfl (by decide)]; unfold yE0; simp [px_ur]; exact a3
      · rw [px_ur, if_pos rfl, px_ur, if_pos rfl]
        by_cases e : k = w.toNatClampNeg
        · rw [if_pos e, if_pos e]
        · rw [if_neg e, if_neg e, j129, mE_b rfl (by decide) (by decide) (by decide), yb 129 (by decide), cfr 129 (by decide)]
      · have g9 : nB (yE0 Ic) H := by
          obtain ⟨d1, X, d2⟩ := c1
          refine ⟨by unfold mTk yE0 at *; simpa [px_ur] using d1, X, ?_⟩
          rw [y35]
          unfold yE0
          exact (d2.fld 33 _).fld 34 _
        refine (mOx_of (J := J) g9 (by unfold nM yE0 at *; simpa [px_ur] using c2) (by unfold yE0; simpa [px_ur] using c3) hw rfl (fun q q1 q2 => b3.1 q q1 q2)).same (fun q _ _ => ⟨u0 _, u1 _⟩)
      · have x := b3.2.1 (220 * w2 + q).toNatClampNeg (fun z z1 z2 => mIw hw ⟨q1, q2⟩ ⟨q4, q5⟩ ⟨z1, z2⟩ q3)
        rw [u0, u1, x.1, x.2, mE_b rfl (b := 130) (by decide) (by decide) (by decide), mE_b rfl (b := 131) (by decide) (by decide) (by decide), yb 130 (by decide), yb 131 (by decide), cfr 130 (by decide), cfr 131 (by decide)]
        exact ⟨rfl, rfl⟩
  · rcases e1 with ⟨b1, b2, rfl⟩ | ⟨b1, -⟩
    · have yb : ∀ b, b ≠ 103 → yE0 Ic b = Ic b := fun b hb => by unfold yE0; rw [px_u_ne hb, px_u_ne hb]
      refine Or.inr ⟨a1, b2, ?_, ?_, ?_, fun k => ?_, ?_, ?_⟩
      · unfold yE0; simp [px_ur]; exact a2
      · unfold yE0; simp [px_ur]; exact a3
      · unfold yE0; simp [px_ur]; exact a4
      · rw [yb 129 (by decide), cfr 129 (by decide)]
      · rw [yb 130 (by decide), cfr 130 (by decide)]
      · rw [yb 131 (by decide), cfr 131 (by decide)]
    · rw [a2] at b1
      exact absurd (show 0 < z.1 by grind) b1
