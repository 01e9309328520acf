/-! what each method of the reference's reader leaves -/
def yEr (I : px_I) (f : Int32) : px_I := px_u (px_u I 103 31 f) 103 32 (I 103 28)
theorem yErr {I I2 : px_I} {f : Int32} (h : I2 = if I 103 31 = 0 then px_u (px_u I 103 31 f) 103 32 (I 103 28) else I) (hw : I 103 31 = 0) : I2 = yEr I f := by
  rw [if_pos hw] at h
  exact h
def ySg (I : px_I) (c : Int32) : Prop := I 103 29 = 4 ∧ I 103 30 = c
def ySO (I I2 : px_I) : Prop := (¬ ySg I 59 ∧ I2 = yEr I 1) ∨ (ySg I 59 ∧ mNx (px_u I 103 72 (I 103 72 + (if I 103 39 = 0 then 1 else 0))) I2)
def yOp (d wh : Int32) (I I2 : px_I) : Prop := (¬ ySg I 123 ∧ I2 = yEr I 1) ∨ (ySg I 123 ∧ I 103 39 = 8 ∧ I2 = yEr I 3) ∨ (ySg I 123 ∧ ¬ I 103 39 = 8 ∧ mNx (px_u (px_u (px_u (px_u I 125 (I 103 39).toNatClampNeg (if d = 0 then 0 else 1)) 126 (I 103 39).toNatClampNeg wh) 103 39 (I 103 39 + 1)) 127 (I 103 39 + 1).toNatClampNeg (0 &&& 1)) I2)
def yLo (w : Int32) : Int32 := if w = 3 ∨ w = 4 then 0 else 1
def yHi (w : Int32) : Int32 := if w = 1 then 9999 else if w = 2 then 15 else if w = 8 then 99 else 100000
def yNm2 (w : Int32) (J I2 : px_I) : Prop := (¬ J 103 29 = 3 ∧ I2 = yEr J 1) ∨ (J 103 29 = 3 ∧ ¬ (yLo w ≤ J 103 30 ∧ J 103 30 ≤ yHi w) ∧ I2 = yEr J 2) ∨ (J 103 29 = 3 ∧ (yLo w ≤ J 103 30 ∧ J 103 30 ≤ yHi w) ∧ ∃ s K, ((s = 0 ∨ s = 1) ∧ (s = 0 ↔ J 127 (J 103 39).toNatClampNeg = 0 ∧ w = 8)) ∧ mNx (px_u (mE J w (J 103 30)) 127 (J 103 39).toNatClampNeg s) K ∧ ((w = 8 ∧ yOp 0 (J 103 35) K I2) ∨ (¬ w = 8 ∧ ySO K I2)))
def yNm (w : Int32) (I I2 : px_I) : Prop := ∃ J, mNx I J ∧ yNm2 w J I2
def yDo (J I2 : px_I) : Prop := (¬ J 103 29 = 2 ∧ I2 = yEr J 1) ∨ (J 103 29 = 2 ∧ J 124 (J 103 30).toNatClampNeg < 0 ∧ I2 = yEr J 4) ∨ (J 103 29 = 2 ∧ ¬ J 124 (J 103 30).toNatClampNeg < 0 ∧ ∃ K, ((¬ J 128 (J 103 30).toNatClampNeg = 0 ∧ ∃ s, s = 1 ∧ mNx (px_u (mE J 7 (J 124 (J 103 30).toNatClampNeg)) 127 (J 103 39).toNatClampNeg s) K) ∨ (J 128 (J 103 30).toNatClampNeg = 0 ∧ mNx J K)) ∧ ySO K I2)
def ySt (I I2 : px_I) : Prop := ((I 103 30 = 5 ∨ I 103 30 = 6) ∧ ∃ s K, s = 1 ∧ mNx (px_u (mE I (I 103 30) 0) 127 (I 103 39).toNatClampNeg s) K ∧ ySO K I2) ∨ (I 103 30 = 7 ∧ ∃ J, mNx I J ∧ yDo J I2) ∨ (¬ (I 103 30 = 5 ∨ I 103 30 = 6 ∨ I 103 30 = 7) ∧ yNm (I 103 30) I I2)
def yDf2 (J I2 : px_I) : Prop := (¬ J 103 29 = 2 ∧ I2 = yEr J 1) ∨ (J 103 29 = 2 ∧ 0 ≤ J 124 (J 103 30).toNatClampNeg ∧ I2 = yEr J 4) ∨ (J 103 29 = 2 ∧ ¬ 0 ≤ J 124 (J 103 30).toNatClampNeg ∧ ∃ K, mNx (px_u J 103 71 (J 103 30)) K ∧ yOp 1 (K 103 35) (mE K 23 0) I2)
def yDf (I I2 : px_I) : Prop := ∃ J, mNx I J ∧ yDf2 J I2
def yC1 (I : px_I) : px_I := mE (px_u I 103 39 (I 103 39 - 1)) 21 0
def yC2 (I : px_I) : px_I := mE (px_u I 103 39 (I 103 39 - 1)) 20 (I 126 (I 103 39 - 1).toNatClampNeg + 1)
def yCl (I I2 : px_I) : Prop := (I 125 (I 103 39 - 1).toNatClampNeg = 1 ∧ 0 ≤ I 126 (I 103 39 - 1).toNatClampNeg + 1 ∧ mNx (px_u (px_u (px_u (px_u (yC1 I) 123 (I 126 (I 103 39 - 1).toNatClampNeg).toNatClampNeg (I 103 35 + 1)) 124 (I 103 71).toNatClampNeg (I 126 (I 103 39 - 1).toNatClampNeg + 1)) 128 (I 103 71).toNatClampNeg (I 127 (I 103 39).toNatClampNeg &&& 1)) 103 72 (I 103 72 + 1)) I2) ∨
  (¬ I 125 (I 103 39 - 1).toNatClampNeg = 1 ∧ ∃ s, ((s = 0 ∨ s = 1) ∧ (s = 0 ↔ I 127 (I 103 39 - 1).toNatClampNeg = 0 ∧ I 127 (I 103 39).toNatClampNeg = 0)) ∧ mNx (px_u (px_u (px_u (px_u (yC2 I) 122 (I 126 (I 103 39 - 1).toNatClampNeg).toNatClampNeg (if I 127 (I 103 39).toNatClampNeg = 0 then 23 else 8)) 123 (I 126 (I 103 39 - 1).toNatClampNeg).toNatClampNeg (if I 127 (I 103 39).toNatClampNeg = 0 then I 103 35 + 1 else yC2 I 123 (I 126 (I 103 39 - 1).toNatClampNeg).toNatClampNeg)) 127 (I 103 39 - 1).toNatClampNeg s) 103 72 (I 103 72 + (if I 103 39 - 1 = 0 then 1 else 0))) I2)
def yIt (I J : px_I) : Prop := ((0 < I 103 39 ∧ ySg I 125) ∧ yCl I J) ∨ (¬ (0 < I 103 39 ∧ ySg I 125) ∧ (((¬ I 103 29 = 1 ∨ (I 103 30 = 0 ∧ 0 < I 103 39)) ∧ J = yEr I 1) ∨ (I 103 29 = 1 ∧ I 103 30 = 0 ∧ ¬ 0 < I 103 39 ∧ yDf I J) ∨ (I 103 29 = 1 ∧ ¬ I 103 30 = 0 ∧ ySt I J)))
def yGo (I : px_I) : Prop := I 103 31 = 0 ∧ (¬ I 103 29 = 0 ∨ 0 < I 103 39)
def yLp (I I2 : px_I) : Prop := ∀ P : px_I → px_I → Prop, (∀ I, ¬ yGo I → P I I) → (∀ I J K, yGo I → yIt I J → P J K → P I K) → P I I2
theorem yLp.nil {I : px_I} (h : ¬ yGo I) : yLp I I := fun _ h1 _ => h1 I h
theorem yLp.step {I J K : px_I} (h : yGo I) (hi : yIt I J) (hk : yLp J K) : yLp I K := fun P h1 h2 => h2 I J K h hi (hk P h1 h2)
theorem yCl.of1 {I K I2 : px_I} (hK : K = yC1 I) (hd : I 125 (I 103 39 - 1).toNatClampNeg = 1) (hw : 0 ≤ I 126 (I 103 39 - 1).toNatClampNeg + 1) (h : mNx (px_u (px_u (px_u (px_u K 123 (I 126 (I 103 39 - 1).toNatClampNeg).toNatClampNeg (I 103 35 + 1)) 124 (K 103 71).toNatClampNeg (I 126 (I 103 39 - 1).toNatClampNeg + 1)) 128 (K 103 71).toNatClampNeg (I 127 (I 103 39).toNatClampNeg &&& 1)) 103 72 (K 103 72 + 1)) I2) : yCl I I2 := by
  have e71 : K 103 71 = I 103 71 := by subst hK; unfold yC1 mE; simp [px_ur]
  have e72 : K 103 72 = I 103 72 := by subst hK; unfold yC1 mE; simp [px_ur]
  rw [e71, e72, hK] at h
  exact Or.inl ⟨hd, hw, h⟩
theorem yCl.of2 {I K J I2 : px_I} {x y : Int32} (hK : K = yC2 I) (hd : ¬ I 125 (I 103 39 - 1).toNatClampNeg = 1) (hJ : J = px_u (px_u K 122 (I 126 (I 103 39 - 1).toNatClampNeg).toNatClampNeg x) 123 (I 126 (I 103 39 - 1).toNatClampNeg).toNatClampNeg y) (hx : x = if I 127 (I 103 39).toNatClampNeg = 0 then 23 else 8) (hy : y = if I 127 (I 103 39).toNatClampNeg = 0 then I 103 35 + 1 else K 123 (I 126 (I 103 39 - 1).toNatClampNeg).toNatClampNeg)
    (h : ∃ s, ((s = 0 ∨ s = 1) ∧ (s = 0 ↔ J 127 (J 103 39).toNatClampNeg = 0 ∧ I 127 (I 103 39).toNatClampNeg = 0)) ∧ mNx (px_u (px_u J 127 (J 103 39).toNatClampNeg s) 103 72 (J 103 72 + (if J 103 39 = 0 then 1 else 0))) I2) : yCl I I2 := by
  have e39 : J 103 39 = I 103 39 - 1 := by subst hJ; subst hK; unfold yC2 mE; simp [px_ur]
  have e72 : J 103 72 = I 103 72 := by subst hJ; subst hK; unfold yC2 mE; simp [px_ur]
  have e127 : J 127 = I 127 := by subst hJ; subst hK; unfold yC2 mE; funext k; simp [px_ur]
  rw [e39, e72, e127, hJ, hx, hy, hK] at h
  exact Or.inr ⟨hd, h⟩
/-- what the end of way leaves -/
def yE2 (I I2 : px_I) (w r : Int32) : Prop := r = I 103 72 ∧ ∃ J, mCp (mE I 22 0) J w (I 103 35 + 1) ∧ I2 = px_u J 129 w.toNatClampNeg 1
def yE0 (I : px_I) : px_I := px_u (px_u I 103 33 (I 103 31)) 103 34 (I 103 32)
def yE1 (I I2 : px_I) (w r : Int32) : Prop := (0 < I 103 31 ∧ r = -1 ∧ I2 = yE0 I) ∨ (¬ 0 < I 103 31 ∧ yE2 (yE0 I) I2 w r)
def yIn (I0 Ia : px_I) : Prop := Ia 103 = I0 103 ∧ (∀ l : Int32, 0 ≤ l → l < 8 → Ia 124 l.toNatClampNeg = -1) ∧ mPF I0 Ia
def yW0 (I : px_I) : px_I := px_u (px_u (px_u (px_u (px_u (px_u (px_u (px_u I 103 26 (I 103 25)) 103 25 0) 103 27 0) 103 31 0) 103 32 (-1)) 103 35 0) 103 39 0) 103 72 0
def yWay (I I2 : px_I) (w r : Int32) : Prop := ∃ Ia Ib Ic, yIn (yW0 I) Ia ∧ mNx Ia Ib ∧ yLp Ib Ic ∧ mPF (yW0 I) Ic ∧ yE1 Ic I2 w r

set_option maxRecDepth 100000 in
theorem ks_stepIsOver {n : Nat} {I : px_I} {L : px_L} {R : px_R} (hg : px_G n R) (h : mPI I 1) : px_KV M_X12_stepIsOver [.ref 103] n I L R (fun I2 L2 => L2 = L ∧ mPo I I2 ∧ ySO I I2) := by
  refine px_of (plainFor_of_name np_RX12) (fun _ _ _ => trivial) rfl ?_
  have hat := h.at
  have hat2 : 0 ≤ (px_u I 103 72 (I 103 72 + 1)) 103 27 ∧ (px_u I 103 72 (I 103 72 + 1)) 103 27 ≤ (px_u I 103 72 (I 103 72 + 1)) 103 26 ∧ (px_u I 103 72 (I 103 72 + 1)) 103 26 ≤ 400 := by simpa [px_ur] using hat
  have hat3 : 0 ≤ (px_u I 103 72 (I 103 72 + 0)) 103 27 ∧ (px_u I 103 72 (I 103 72 + 0)) 103 27 ≤ (px_u I 103 72 (I 103 72 + 0)) 103 26 ∧ (px_u I 103 72 (I 103 72 + 0)) 103 26 ≤ 400 := by simpa [px_ur] using hat
  refine px_cVP (ci := 12) rfl q_X12_stepIsOver_0 hg rfl trivial lk_12_331 nm_X12_isSign (k_isSign hg _) rfl rfl (px_lit hg rfl) rfl rfl rfl ⟨rfl, rfl⟩ ?_
  intro x3 h3
  refine px_ne rfl q_X12_stepIsOver_6 hg rfl trivial (fun c6 => ?_) (fun c6 => ?_)
  · replace h3 := px_bt h3 c6
    refine px_ne rfl q_X12_stepIsOver_15 hg rfl trivial (fun c24 => ?_) (fun c24 => ?_)
    · refine px_cVW (ci := 12) rfl q_X12_stepIsOver_31 hg rfl trivial lk_12_340 nm_X12_next (ks_next hg (by first | assumption | simpa [px_ur] using hat)) rfl rfl (px_lit hg rfl) rfl rfl rfl ⟨rfl, rfl⟩ ?_
      intro I37 L37 h37
      refine px_rvW rfl q_X12_stepIsOver_40 rfl rfl rfl hg rfl trivial ⟨⟨rfl, rfl⟩, ?_⟩
      obtain ⟨h37a, y37⟩ := h37
      obtain ⟨h37b, h37c, h37d, -⟩ := id y37
      obtain ⟨k1, k2, k3, k4, X, k5⟩ := h
      refine ⟨h37a, ⟨(mPF.rfl'.u 72 _).trans h37b.P, Or.inr ⟨⟨h37d, ?_, ?_, ?_, X, ?_⟩, ?_⟩⟩, Or.inr ⟨by assumption, ?_⟩⟩
      · rw [h37b.f 31 (by decide)]; simpa [px_ur] using k2
      · rw [h37b.f 35 (by decide)]; simpa [px_ur] using k3
      · rw [h37b.f 35 (by decide), h37b.f 39 (by decide)]
        simp [px_ur] at h37c ⊢
        unfold mTk at k1
        grind
      · rw [h37b.f 35 (by decide)]
        exact h37b.S (by simp only [px_ur]; exact k5.fld _ _)
      · simp [px_ur] at h37c
        unfold mTk at k1
        grind
      · first | (rw [if_pos (by assumption)]; exact y37) | (rw [if_neg (by assumption)]; exact y37)
    · refine px_cVW (ci := 12) rfl q_X12_stepIsOver_27 hg rfl trivial lk_12_340 nm_X12_next (ks_next hg (by first | assumption | simpa [px_ur] using hat)) rfl rfl (px_lit hg rfl) rfl rfl rfl ⟨rfl, rfl⟩ ?_
      intro I37 L37 h37
      refine px_rvW rfl q_X12_stepIsOver_40 rfl rfl rfl hg rfl trivial ⟨⟨rfl, rfl⟩, ?_⟩
      obtain ⟨h37a, y37⟩ := h37
      obtain ⟨h37b, h37c, h37d, -⟩ := id y37
      obtain ⟨k1, k2, k3, k4, X, k5⟩ := h
      refine ⟨h37a, ⟨(mPF.rfl'.u 72 _).trans h37b.P, Or.inr ⟨⟨h37d, ?_, ?_, ?_, X, ?_⟩, ?_⟩⟩, Or.inr ⟨by assumption, ?_⟩⟩
      · rw [h37b.f 31 (by decide)]; simpa [px_ur] using k2
      · rw [h37b.f 35 (by decide)]; simpa [px_ur] using k3
      · rw [h37b.f 35 (by decide), h37b.f 39 (by decide)]
        simp [px_ur] at h37c ⊢
        unfold mTk at k1
        grind
      · rw [h37b.f 35 (by decide)]
        exact h37b.S (by simp only [px_ur]; exact k5.fld _ _)
      · simp [px_ur] at h37c
        unfold mTk at k1
        grind
      · first | (rw [if_pos (by assumption)]; exact y37) | (rw [if_neg (by assumption)]; exact y37)
  · replace h3 := px_bf h3 c6
    refine px_cVW (ci := 12) rfl q_X12_stepIsOver_9 hg rfl trivial lk_12_334 nm_X12_errs (k_errs hg _) rfl rfl (px_lit hg rfl) rfl rfl rfl ⟨rfl, rfl⟩ ?_
    intro I11 L11 h11
    refine px_rvW rfl q_X12_stepIsOver_14 rfl rfl rfl hg rfl trivial ⟨⟨rfl, rfl⟩, ?_⟩
    obtain ⟨e1, e2⟩ := mErr h11.2 h.2.1 (by decide)
    exact ⟨h11.1, ⟨e1, Or.inl e2⟩, Or.inl ⟨by assumption, yErr h11.2 h.2.1⟩⟩

set_option maxRecDepth 100000 in
theorem ks_opens {n : Nat} {I : px_I} {L : px_L} {R : px_R} (hg : px_G n R) (d wh : Int32) (hk : mTk I) (h0 : I 103 31 = 0) (hN : wh + 1 = I 103 35 ∧ 0 ≤ wh) (hb : 2 * I 103 35 + I 103 39 ≤ I 103 28) (hs : ∃ X, mSI I X wh) (hd : ¬ d = 0 → I 103 39 = 0 ∧ I 122 wh.toNatClampNeg = 23 ∧ (0 ≤ I 103 71 ∧ I 103 71 ≤ 7) ∧ I 124 (I 103 71).toNatClampNeg < 0) : px_KV M_X12_opens [.ref 103, .int d, .int wh] n I L R (fun I2 L2 => L2 = L ∧ mPo I I2 ∧ yOp d wh I I2) := by
  refine px_of (plainFor_of_name np_RX12) (fun _ _ _ => trivial) rfl ?_
  have hat : 0 ≤ I 103 27 ∧ I 103 27 ≤ I 103 26 ∧ I 103 26 ≤ 400 := by unfold mTk at hk; grind
  obtain ⟨X, hs⟩ := hs
  have hop : 0 ≤ I 103 39 ∧ I 103 39 ≤ 8 := hs.1
  have hwb : 0 ≤ wh ∧ wh ≤ 210 := hs.2.1
  have hw2 : wh < 210 := by unfold mTk at hk; grind
  refine px_cVP (ci := 12) rfl q_X12_opens_0 hg rfl trivial lk_12_331 nm_X12_isSign (k_isSign hg _) rfl rfl (px_lit hg rfl) rfl rfl rfl ⟨rfl, rfl⟩ ?_
  intro x3 h3
  refine px_ne rfl q_X12_opens_6 hg rfl trivial (fun c6 => ?_) (fun c6 => ?_)
  · replace h3 := px_bt h3 c6
    refine px_ine rfl q_X12_opens_17 hg rfl trivial (fun c23 => ?_) (fun c23 => ?_)
    · refine px_le rfl q_X12_opens_31 hg rfl trivial (fun c35 => ?_) (fun c35 => ?_)
      · refine px_eq rfl q_X12_opens_39 hg rfl trivial (fun c48 => ?_) (fun c48 => ?_)
        · refine px_cVW (ci := 12) rfl q_X12_opens_55 hg rfl ⟨⟨⟨trivial, (by first | with_reducible assumption | (refine ⟨?_, ?_⟩ <;> grind))⟩, (by first | with_reducible assumption | (refine ⟨?_, ?_⟩ <;> grind))⟩, (by first | with_reducible assumption | (refine ⟨?_, ?_⟩ <;> grind))⟩ lk_12_340 nm_X12_next (ks_next hg (by first | assumption | simpa [px_ur] using hat)) rfl rfl (px_lit hg rfl) rfl rfl rfl ⟨rfl, rfl⟩ ?_
          intro I88 L88 h88
          refine px_rvW rfl q_X12_opens_91 rfl rfl rfl hg rfl trivial ⟨⟨rfl, rfl⟩, ?_⟩
          obtain ⟨rfl, y88⟩ := h88
          obtain ⟨g1, g2, g3, -⟩ := id y88
          have g4 : I 103 28 < I 103 27 := by unfold mTk at hk; grind
          have g5 : I 103 27 ≤ I88 103 28 := by simpa [px_ur] using g2
          have g6 := mSI.opn (J := px_u (px_u (px_u (px_u I 125 (I 103 39).toNatClampNeg 0) 126 (I 103 39).toNatClampNeg wh) 103 39 (I 103 39 + 1)) 127 (I 103 39 + 1).toNatClampNeg (0 &&& 1)) (dv := 0) hs hw2 (by grind) (by first | exact fun _ => hd (by assumption) | exact fun hz => absurd hz (by decide)) (I 103 39 + 1).toNatClampNeg (0 &&& 1) rfl
          refine ⟨rfl, ⟨((((mPF.rfl'.a 125 _ _).a 126 _ _).u 39 _).a 127 _ _).trans g1.P, Or.inr ⟨mPI.nx g1 g3 (by simpa [px_ur] using h0) (by simp [px_ur]; grind) ?_ ⟨X, ?_⟩, by grind⟩⟩, Or.inr (Or.inr ⟨by assumption, by assumption, ?_⟩)⟩
          · simp [px_ur]; grind
          · have e : (px_u (px_u (px_u (px_u I 125 (I 103 39).toNatClampNeg 0) 126 (I 103 39).toNatClampNeg wh) 103 39 (I 103 39 + 1)) 127 (I 103 39 + 1).toNatClampNeg (0 &&& 1)) 103 35 = wh + 1 := by simp [px_ur]; exact hN.1.symm
            rw [e]
            exact g6
          · rw [if_pos (by assumption)]; exact y88
        · refine px_cVW (ci := 12) rfl q_X12_opens_51 hg rfl ⟨⟨⟨trivial, (by first | with_reducible assumption | (refine ⟨?_, ?_⟩ <;> grind))⟩, (by first | with_reducible assumption | (refine ⟨?_, ?_⟩ <;> grind))⟩, (by first | with_reducible assumption | (refine ⟨?_, ?_⟩ <;> grind))⟩ lk_12_340 nm_X12_next (ks_next hg (by first | assumption | simpa [px_ur] using hat)) rfl rfl (px_lit hg rfl) rfl rfl rfl ⟨rfl, rfl⟩ ?_
          intro I88 L88 h88
          refine px_rvW rfl q_X12_opens_91 rfl rfl rfl hg rfl trivial ⟨⟨rfl, rfl⟩, ?_⟩
          obtain ⟨rfl, y88⟩ := h88
          obtain ⟨g1, g2, g3, -⟩ := id y88
          have g4 : I 103 28 < I 103 27 := by unfold mTk at hk; grind
          have g5 : I 103 27 ≤ I88 103 28 := by simpa [px_ur] using g2
          have g6 := mSI.opn (J := px_u (px_u (px_u (px_u I 125 (I 103 39).toNatClampNeg 1) 126 (I 103 39).toNatClampNeg wh) 103 39 (I 103 39 + 1)) 127 (I 103 39 + 1).toNatClampNeg (0 &&& 1)) (dv := 1) hs hw2 (by grind) (by first | exact fun _ => hd (by assumption) | exact fun hz => absurd hz (by decide)) (I 103 39 + 1).toNatClampNeg (0 &&& 1) rfl
          refine ⟨rfl, ⟨((((mPF.rfl'.a 125 _ _).a 126 _ _).u 39 _).a 127 _ _).trans g1.P, Or.inr ⟨mPI.nx g1 g3 (by simpa [px_ur] using h0) (by simp [px_ur]; grind) ?_ ⟨X, ?_⟩, by grind⟩⟩, Or.inr (Or.inr ⟨by assumption, by assumption, ?_⟩)⟩
          · simp [px_ur]; grind
          · have e : (px_u (px_u (px_u (px_u I 125 (I 103 39).toNatClampNeg 1) 126 (I 103 39).toNatClampNeg wh) 103 39 (I 103 39 + 1)) 127 (I 103 39 + 1).toNatClampNeg (0 &&& 1)) 103 35 = wh + 1 := by simp [px_ur]; exact hN.1.symm
            rw [e]
            exact g6
          · rw [if_neg (by assumption)]; exact y88
      · exact absurd c35 (by rw [h0]; decide)
    · refine px_cVW (ci := 12) rfl q_X12_opens_26 hg rfl trivial lk_12_334 nm_X12_errs (k_errs hg _) rfl rfl (px_lit hg rfl) rfl rfl rfl ⟨rfl, rfl⟩ ?_
      intro I28 L28 h28
      obtain ⟨rfl, h28⟩ := h28
      have e9 := mErr h28 h0 (by decide)
      have y9 := yErr h28 h0
      refine px_le rfl q_X12_opens_31 hg rfl trivial (fun c35 => ?_) (fun c35 => ?_)
      · exact absurd c35 (by have := e9.2; grind)
      · refine px_rvW rfl q_X12_opens_38 rfl rfl rfl hg rfl trivial ⟨⟨rfl, rfl⟩, ?_⟩
        exact ⟨rfl, ⟨e9.1, Or.inl e9.2⟩, Or.inr (Or.inl ⟨by assumption, by assumption, y9⟩)⟩
  · replace h3 := px_bf h3 c6
    refine px_cVW (ci := 12) rfl q_X12_opens_9 hg rfl trivial lk_12_334 nm_X12_errs (k_errs hg _) rfl rfl (px_lit hg rfl) rfl rfl rfl ⟨rfl, rfl⟩ ?_
    intro I11 L11 h11
    obtain ⟨rfl, h11⟩ := h11
    have e9 := mErr h11 h0 (by decide)
    have y9 := yErr h11 h0
    refine px_le rfl q_X12_opens_14 hg rfl trivial (fun c35 => ?_) (fun c35 => ?_)
    · exact absurd c35 (by have := e9.2; grind)
    · refine px_rvW rfl q_X12_opens_38 rfl rfl rfl hg rfl trivial ⟨⟨rfl, rfl⟩, ?_⟩
      exact ⟨rfl, ⟨e9.1, Or.inl e9.2⟩, Or.inl ⟨by assumption, y9⟩⟩

set_option maxRecDepth 100000 in
theorem ls_numbered56 {n : Nat} {R : px_R} (hg : px_G n R) {Q : px_Q} (w lo hi : Int32) {I I1 : px_I} {L : px_L} (h : mPI I 0) (hlt : I 103 28 < I 103 27) (h1 : mKI I I1) (h2 : I 103 27 ≤ I1 103 28) (h3 : mTk I1) (hw : w = 1 ∨ w = 2 ∨ w = 3 ∨ w = 4 ∨ w = 8) (hlo : lo = yLo w) (hhi : hi = yHi w) (hq : ∀ I2, mPo I I2 → yNm2 w I1 I2 → Q none n I2 L R) : px M_X12_numbered 0 0 56 [(0, .ref 103), (1, .int w), (2, .int lo), (3, .int hi)] [] n I1 L R Q := by
  subst hlo
  subst hhi
  obtain ⟨hN, hop⟩ := h.N (by decide)
  have h0 : I1 103 31 = 0 := (h1.f 31 (by decide)).trans h.2.1
  have f35 := h1.f 35 (by decide)
  have f39 := h1.f 39 (by decide)
  have hN1 : 0 ≤ I1 103 35 ∧ I1 103 35 < 220 := by grind
  have hop1 : 0 ≤ I1 103 39 ∧ I1 103 39 < 10 := by grind
  have hat : 0 ≤ I1 103 27 ∧ I1 103 27 ≤ I1 103 26 ∧ I1 103 26 ≤ 400 := by unfold mTk at h3; grind
  obtain ⟨hk1, -, -, hk4, X, hk5⟩ := id h
  have hX : mSI I1 X (I1 103 35) := by rw [f35]; exact h1.S hk5
  have hbd : 2 * I1 103 35 + I1 103 39 + 1 ≤ I1 103 28 := by unfold mTk at h3; grind
  have h128 : I1 103 28 ≤ I1 103 27 := h3.1.2.1
  have g4 : I1 103 29 = 3 → I1 103 28 < I1 103 27 := fun hz => h3.2.1 (by rw [hz]; decide)
  refine px_ieq rfl q_X12_numbered_56 hg rfl trivial (fun c61 => ?_) (fun c61 => ?_)
  · refine px_cSP rfl q_X12_numbered_72 hg rfl trivial lk_12_167 nm_X12_in (k_inI hg _ _ _ rfl rfl) rfl rfl rfl ⟨rfl, rfl⟩ ?_
    intro x81 h81
    refine px_ne rfl q_X12_numbered_84 hg rfl trivial (fun c84 => ?_) (fun c84 => ?_)
    · replace h81 := px_bt h81 c84
      refine px_le rfl q_X12_numbered_92 hg rfl trivial (fun c96 => ?_) (fun c96 => ?_)
      · refine px_cVS (ci := 12) rfl q_X12_numbered_100 hg rfl trivial lk_12_346 nm_X12_emits (k_emits hg _ _ hN1) rfl rfl (px_lit hg rfl) rfl rfl rfl ⟨rfl, rfl⟩ ?_
        intro x106 I106 L106 h106
        obtain ⟨rfl, rfl, h106⟩ := h106
        have e39 := mE_f h106 (j := 39) (by decide)
        have e35 := mE_35 h106
        have e31 := mE_f h106 (j := 31) (by decide)
        have e28 := mE_f h106 (j := 28) (by decide)
        have e27 := mE_f h106 (j := 27) (by decide)
        have e26 := mE_f h106 (j := 26) (by decide)
        have eP := mE_P h106
        refine px_ne rfl q_X12_numbered_109 hg rfl ⟨trivial, (by first | with_reducible assumption | (rw [e39]; with_reducible assumption))⟩ (fun c128 => ?_) (fun c128 => ?_)
        · refine px_cVW (ci := 12) rfl q_X12_numbered_137 hg rfl ⟨trivial, (by first | with_reducible assumption | (rw [e39]; with_reducible assumption))⟩ lk_12_340 nm_X12_next (ks_next hg (by simpa [px_ur, e26, e27] using hat)) rfl rfl (px_lit hg rfl) rfl rfl rfl ⟨rfl, rfl⟩ ?_
          intro I144 L144 h144
          obtain ⟨rfl, y144⟩ := h144
          obtain ⟨g1, g2, g3, -⟩ := id y144
          have g2 : I1 103 27 ≤ I144 103 28 := by rw [px_u_ne (by decide), e27] at g2; exact g2
          have g9 := g3.b
          refine px_ine rfl q_X12_numbered_147 hg rfl trivial (fun c150 => ?_) (fun c150 => ?_)
          · refine px_cVW (ci := 12) rfl q_X12_numbered_163 hg rfl trivial lk_12_358 nm_X12_stepIsOver (ks_stepIsOver hg (mPI.nx g1 g3 (by rw [px_u_ne (by decide), e31]; exact h0) (by rw [px_u_ne (by decide), e35]; grind) (by rw [px_u_ne (by decide), e35, e39]; grind) (mSI.st (hX.emS h106 (by grind) (by grind) (by grind)) _ _))) rfl rfl (px_lit hg rfl) rfl rfl rfl ⟨rfl, rfl⟩ ?_
            intro I164 L164 h164
            refine px_rv rfl q_X12_numbered_167 rfl rfl rfl hg rfl trivial ?_
            obtain ⟨rfl, g56, y164⟩ := h164
            obtain ⟨g5, g6⟩ := g56
            refine hq _ ⟨(h1.P.trans (eP.trans ((mPF.rfl'.a 127 _ _).trans g1.P))).trans g5, g6.imp id (fun q => ⟨q.1, by have := q.2; grind⟩)⟩ (Or.inr (Or.inr ⟨by first | assumption | (exact Classical.not_not.mp (by assumption)), by assumption, _, _, ?_, by rw [← show I106 = mE I1 w (I1 103 30) from h106, ← e39]; exact y144, Or.inr ⟨by assumption, y164⟩⟩))
            have e127 : I106 127 (I106 103 39).toNatClampNeg = I1 127 (I1 103 39).toNatClampNeg := by rw [mE_b (b := 127) h106 (by decide) (by decide) (by decide), e39]
            rw [← e127]
            first | exact ⟨by decide, fun z => absurd z (by decide), fun z => absurd z.1 (by assumption)⟩ | exact ⟨by decide, fun z => absurd z (by decide), fun z => absurd z.2 (by assumption)⟩ | exact ⟨by decide, fun _ => ⟨by assumption, by assumption⟩, fun _ => by decide⟩
          · refine px_cVW (ci := 12) rfl q_X12_numbered_153 hg rfl trivial lk_12_350 nm_X12_opens (ks_opens hg 0 (I1 103 35) g3 (by rw [g1.f 31 (by decide), px_u_ne (by decide), e31]; exact h0) ⟨by rw [g1.f 35 (by decide), px_u_ne (by decide), e35], hN1.1⟩ (by rw [g1.f 35 (by decide), g1.f 39 (by decide), px_u_ne (by decide), e35, e39]; grind) ⟨X, g1.S ((hX.em h106 rfl).stand _ _)⟩ (fun hz => absurd rfl hz)) rfl rfl (px_lit hg rfl) rfl rfl rfl ⟨rfl, rfl⟩ ?_
            intro I157 L157 h157
            refine px_rv rfl q_X12_numbered_160 rfl rfl rfl hg rfl trivial ?_
            obtain ⟨rfl, g56, y157⟩ := h157
            obtain ⟨g5, g6⟩ := g56
            refine hq _ ⟨(h1.P.trans (eP.trans ((mPF.rfl'.a 127 _ _).trans g1.P))).trans g5, g6.imp id (fun q => ⟨q.1, by have := q.2; grind⟩)⟩ (Or.inr (Or.inr ⟨by first | assumption | (exact Classical.not_not.mp (by assumption)), by assumption, _, _, ?_, by rw [← show I106 = mE I1 w (I1 103 30) from h106, ← e39]; exact y144, Or.inl ⟨by assumption, y157⟩⟩))
            have e127 : I106 127 (I106 103 39).toNatClampNeg = I1 127 (I1 103 39).toNatClampNeg := by rw [mE_b (b := 127) h106 (by decide) (by decide) (by decide), e39]
            rw [← e127]
            first | exact ⟨by decide, fun z => absurd z (by decide), fun z => absurd z.1 (by assumption)⟩ | exact ⟨by decide, fun z => absurd z (by decide), fun z => absurd z.2 (by assumption)⟩ | exact ⟨by decide, fun _ => ⟨by assumption, by assumption⟩, fun _ => by decide⟩
        · refine px_ieq rfl q_X12_numbered_131 hg rfl trivial (fun c134 => ?_) (fun c134 => ?_)
          · refine px_cVW (ci := 12) rfl q_X12_numbered_141 hg rfl ⟨trivial, (by first | with_reducible assumption | (rw [e39]; with_reducible assumption))⟩ lk_12_340 nm_X12_next (ks_next hg (by simpa [px_ur, e26, e27] using hat)) rfl rfl (px_lit hg rfl) rfl rfl rfl ⟨rfl, rfl⟩ ?_
            intro I144 L144 h144
            obtain ⟨rfl, y144⟩ := h144
            obtain ⟨g1, g2, g3, -⟩ := id y144
            have g2 : I1 103 27 ≤ I144 103 28 := by rw [px_u_ne (by decide), e27] at g2; exact g2
            have g9 := g3.b
            refine px_ine rfl q_X12_numbered_147 hg rfl trivial (fun c150 => ?_) (fun c150 => ?_)
            · refine px_cVW (ci := 12) rfl q_X12_numbered_163 hg rfl trivial lk_12_358 nm_X12_stepIsOver (ks_stepIsOver hg (mPI.nx g1 g3 (by rw [px_u_ne (by decide), e31]; exact h0) (by rw [px_u_ne (by decide), e35]; grind) (by rw [px_u_ne (by decide), e35, e39]; grind) (mSI.st (hX.emS h106 (by grind) (by grind) (by grind)) _ _))) rfl rfl (px_lit hg rfl) rfl rfl rfl ⟨rfl, rfl⟩ ?_
              intro I164 L164 h164
              refine px_rv rfl q_X12_numbered_167 rfl rfl rfl hg rfl trivial ?_
              obtain ⟨rfl, g56, y164⟩ := h164
              obtain ⟨g5, g6⟩ := g56
              refine hq _ ⟨(h1.P.trans (eP.trans ((mPF.rfl'.a 127 _ _).trans g1.P))).trans g5, g6.imp id (fun q => ⟨q.1, by have := q.2; grind⟩)⟩ (Or.inr (Or.inr ⟨by first | assumption | (exact Classical.not_not.mp (by assumption)), by assumption, _, _, ?_, by rw [← show I106 = mE I1 w (I1 103 30) from h106, ← e39]; exact y144, Or.inr ⟨by assumption, y164⟩⟩))
              have e127 : I106 127 (I106 103 39).toNatClampNeg = I1 127 (I1 103 39).toNatClampNeg := by rw [mE_b (b := 127) h106 (by decide) (by decide) (by decide), e39]
              rw [← e127]
              first | exact ⟨by decide, fun z => absurd z (by decide), fun z => absurd z.1 (by assumption)⟩ | exact ⟨by decide, fun z => absurd z (by decide), fun z => absurd z.2 (by assumption)⟩ | exact ⟨by decide, fun _ => ⟨by assumption, by assumption⟩, fun _ => by decide⟩
            · refine px_cVW (ci := 12) rfl q_X12_numbered_153 hg rfl trivial lk_12_350 nm_X12_opens (ks_opens hg 0 (I1 103 35) g3 (by rw [g1.f 31 (by decide), px_u_ne (by decide), e31]; exact h0) ⟨by rw [g1.f 35 (by decide), px_u_ne (by decide), e35], hN1.1⟩ (by rw [g1.f 35 (by decide), g1.f 39 (by decide), px_u_ne (by decide), e35, e39]; grind) ⟨X, g1.S ((hX.em h106 rfl).stand _ _)⟩ (fun hz => absurd rfl hz)) rfl rfl (px_lit hg rfl) rfl rfl rfl ⟨rfl, rfl⟩ ?_
              intro I157 L157 h157
              refine px_rv rfl q_X12_numbered_160 rfl rfl rfl hg rfl trivial ?_
              obtain ⟨rfl, g56, y157⟩ := h157
              obtain ⟨g5, g6⟩ := g56
              refine hq _ ⟨(h1.P.trans (eP.trans ((mPF.rfl'.a 127 _ _).trans g1.P))).trans g5, g6.imp id (fun q => ⟨q.1, by have := q.2; grind⟩)⟩ (Or.inr (Or.inr ⟨by first | assumption | (exact Classical.not_not.mp (by assumption)), by assumption, _, _, ?_, by rw [← show I106 = mE I1 w (I1 103 30) from h106, ← e39]; exact y144, Or.inl ⟨by assumption, y157⟩⟩))
              have e127 : I106 127 (I106 103 39).toNatClampNeg = I1 127 (I1 103 39).toNatClampNeg := by rw [mE_b (b := 127) h106 (by decide) (by decide) (by decide), e39]
              rw [← e127]
              first | exact ⟨by decide, fun z => absurd z (by decide), fun z => absurd z.1 (by assumption)⟩ | exact ⟨by decide, fun z => absurd z (by decide), fun z => absurd z.2 (by assumption)⟩ | exact ⟨by decide, fun _ => ⟨by assumption, by assumption⟩, fun _ => by decide⟩
          · refine px_cVW (ci := 12) rfl q_X12_numbered_137 hg rfl ⟨trivial, (by first | with_reducible assumption | (rw [e39]; with_reducible assumption))⟩ lk_12_340 nm_X12_next (ks_next hg (by simpa [px_ur, e26, e27] using hat)) rfl rfl (px_lit hg rfl) rfl rfl rfl ⟨rfl, rfl⟩ ?_
            intro I144 L144 h144
            obtain ⟨rfl, y144⟩ := h144
            obtain ⟨g1, g2, g3, -⟩ := id y144
            have g2 : I1 103 27 ≤ I144 103 28 := by rw [px_u_ne (by decide), e27] at g2; exact g2
            have g9 := g3.b
            refine px_ine rfl q_X12_numbered_147 hg rfl trivial (fun c150 => ?_) (fun c150 => ?_)
            · refine px_cVW (ci := 12) rfl q_X12_numbered_163 hg rfl trivial lk_12_358 nm_X12_stepIsOver (ks_stepIsOver hg (mPI.nx g1 g3 (by rw [px_u_ne (by decide), e31]; exact h0) (by rw [px_u_ne (by decide), e35]; grind) (by rw [px_u_ne (by decide), e35, e39]; grind) (mSI.st (hX.emS h106 (by grind) (by grind) (by grind)) _ _))) rfl rfl (px_lit hg rfl) rfl rfl rfl ⟨rfl, rfl⟩ ?_
              intro I164 L164 h164
              refine px_rv rfl q_X12_numbered_167 rfl rfl rfl hg rfl trivial ?_
              obtain ⟨rfl, g56, y164⟩ := h164
              obtain ⟨g5, g6⟩ := g56
              refine hq _ ⟨(h1.P.trans (eP.trans ((mPF.rfl'.a 127 _ _).trans g1.P))).trans g5, g6.imp id (fun q => ⟨q.1, by have := q.2; grind⟩)⟩ (Or.inr (Or.inr ⟨by first | assumption | (exact Classical.not_not.mp (by assumption)), by assumption, _, _, ?_, by rw [← show I106 = mE I1 w (I1 103 30) from h106, ← e39]; exact y144, Or.inr ⟨by assumption, y164⟩⟩))
              have e127 : I106 127 (I106 103 39).toNatClampNeg = I1 127 (I1 103 39).toNatClampNeg := by rw [mE_b (b := 127) h106 (by decide) (by decide) (by decide), e39]
              rw [← e127]
              first | exact ⟨by decide, fun z => absurd z (by decide), fun z => absurd z.1 (by assumption)⟩ | exact ⟨by decide, fun z => absurd z (by decide), fun z => absurd z.2 (by assumption)⟩ | exact ⟨by decide, fun _ => ⟨by assumption, by assumption⟩, fun _ => by decide⟩
            · refine px_cVW (ci := 12) rfl q_X12_numbered_153 hg rfl trivial lk_12_350 nm_X12_opens (ks_opens hg 0 (I1 103 35) g3 (by rw [g1.f 31 (by decide), px_u_ne (by decide), e31]; exact h0) ⟨by rw [g1.f 35 (by decide), px_u_ne (by decide), e35], hN1.1⟩ (by rw [g1.f 35 (by decide), g1.f 39 (by decide), px_u_ne (by decide), e35, e39]; grind) ⟨X, g1.S ((hX.em h106 rfl).stand _ _)⟩ (fun hz => absurd rfl hz)) rfl rfl (px_lit hg rfl) rfl rfl rfl ⟨rfl, rfl⟩ ?_
              intro I157 L157 h157
              refine px_rv rfl q_X12_numbered_160 rfl rfl rfl hg rfl trivial ?_
              obtain ⟨rfl, g56, y157⟩ := h157
              obtain ⟨g5, g6⟩ := g56
              refine hq _ ⟨(h1.P.trans (eP.trans ((mPF.rfl'.a 127 _ _).trans g1.P))).trans g5, g6.imp id (fun q => ⟨q.1, by have := q.2; grind⟩)⟩ (Or.inr (Or.inr ⟨by first | assumption | (exact Classical.not_not.mp (by assumption)), by assumption, _, _, ?_, by rw [← show I106 = mE I1 w (I1 103 30) from h106, ← e39]; exact y144, Or.inl ⟨by assumption, y157⟩⟩))
              have e127 : I106 127 (I106 103 39).toNatClampNeg = I1 127 (I1 103 39).toNatClampNeg := by rw [mE_b (b := 127) h106 (by decide) (by decide) (by decide), e39]
              rw [← e127]
              first | exact ⟨by decide, fun z => absurd z (by decide), fun z => absurd z.1 (by assumption)⟩ | exact ⟨by decide, fun z => absurd z (by decide), fun z => absurd z.2 (by assumption)⟩ | exact ⟨by decide, fun _ => ⟨by assumption, by assumption⟩, fun _ => by decide⟩
      · exact absurd c96 (by rw [h0]; decide)
    · replace h81 := px_bf h81 c84
      refine px_cVW (ci := 12) rfl q_X12_numbered_87 hg rfl trivial lk_12_334 nm_X12_errs (k_errs hg _) rfl rfl (px_lit hg rfl) rfl rfl rfl ⟨rfl, rfl⟩ ?_
      intro I89 L89 h89
      obtain ⟨rfl, h89⟩ := h89
      have e9 := mErr h89 h0 (by decide)
      have y9 := yErr h89 h0
      refine px_le rfl q_X12_numbered_92 hg rfl trivial (fun c96 => ?_) (fun c96 => ?_)
      · exact absurd c96 (by have := e9.2; grind)
      · refine px_rv rfl q_X12_numbered_99 rfl rfl rfl hg rfl trivial ?_
        exact hq _ ⟨h1.P.trans e9.1, Or.inl e9.2⟩ (Or.inr (Or.inl ⟨by first | assumption | (exact Classical.not_not.mp (by assumption)), by assumption, y9⟩))
  · refine px_cVW (ci := 12) rfl q_X12_numbered_64 hg rfl trivial lk_12_334 nm_X12_errs (k_errs hg _) rfl rfl (px_lit hg rfl) rfl rfl rfl ⟨rfl, rfl⟩ ?_
    intro I66 L66 h66
    obtain ⟨rfl, h66⟩ := h66
    have e9 := mErr h66 h0 (by decide)
    have y9 := yErr h66 h0
    refine px_le rfl q_X12_numbered_69 hg rfl trivial (fun c96 => ?_) (fun c96 => ?_)
    · exact absurd c96 (by have := e9.2; grind)
    · refine px_rv rfl q_X12_numbered_99 rfl rfl rfl hg rfl trivial ?_
      exact hq _ ⟨h1.P.trans e9.1, Or.inl e9.2⟩ (Or.inl ⟨by assumption, y9⟩)

set_option maxRecDepth 100000 in
theorem ls_numbered20 {n : Nat} {R : px_R} (hg : px_G n R) {Q : px_Q} (w lo : Int32) {I I1 : px_I} {L : px_L} (h : mPI I 0) (hlt : I 103 28 < I 103 27) (h1 : mKI I I1) (h2 : I 103 27 ≤ I1 103 28) (h3 : mTk I1) (hw : w = 1 ∨ w = 2 ∨ w = 3 ∨ w = 4 ∨ w = 8) (hlo : lo = yLo w) (hq : ∀ I2, mPo I I2 → yNm2 w I1 I2 → Q none n I2 L R) : px M_X12_numbered 0 0 20 [(0, .ref 103), (1, .int w), (2, .int lo)] [] n I1 L R Q := by
  skip
  refine px_ine rfl q_X12_numbered_20 hg rfl trivial (fun c22 => ?_) (fun c22 => ?_)
  · refine px_ine rfl q_X12_numbered_31 hg rfl trivial (fun c33 => ?_) (fun c33 => ?_)
    · refine px_ine rfl q_X12_numbered_41 hg rfl trivial (fun c44 => ?_) (fun c44 => ?_)
      · refine px_b rfl q_X12_numbered_52 hg rfl trivial ?_
        exact px_go (ls_numbered56 hg w lo _ h hlt h1 h2 h3 hw hlo (by unfold yHi; grind) hq) ⟨rfl, rfl, rfl, rfl, trivial⟩
      · refine px_b rfl q_X12_numbered_47 hg rfl trivial ?_
        exact px_go (ls_numbered56 hg w lo _ h hlt h1 h2 h3 hw hlo (by unfold yHi; grind) hq) ⟨rfl, rfl, rfl, rfl, trivial⟩
    · refine px_b rfl q_X12_numbered_36 hg rfl trivial ?_
      exact px_go (ls_numbered56 hg w lo _ h hlt h1 h2 h3 hw hlo (by unfold yHi; grind) hq) ⟨rfl, rfl, rfl, rfl, trivial⟩
  · refine px_b rfl q_X12_numbered_25 hg rfl trivial ?_
    exact px_go (ls_numbered56 hg w lo _ h hlt h1 h2 h3 hw hlo (by unfold yHi; grind) hq) ⟨rfl, rfl, rfl, rfl, trivial⟩

set_option maxRecDepth 100000 in
theorem ks_numbered {n : Nat} {I : px_I} {L : px_L} {R : px_R} (hg : px_G n R) (w : Int32) (h : mPI I 0) (hlt : I 103 28 < I 103 27) (hw : w = 1 ∨ w = 2 ∨ w = 3 ∨ w = 4 ∨ w = 8) : px_KV M_X12_numbered [.ref 103, .int w] n I L R (fun I2 L2 => L2 = L ∧ mPo I I2 ∧ yNm w I I2) := by
  refine px_of (plainFor_of_name np_RX12) (fun _ _ _ => trivial) rfl ?_
  have hat := h.at
  refine px_cVW (ci := 12) rfl q_X12_numbered_0 hg rfl trivial lk_12_340 nm_X12_next (ks_next hg (by first | assumption | simpa [px_ur] using hat)) rfl rfl (px_lit hg rfl) rfl rfl rfl ⟨rfl, rfl⟩ ?_
  intro I1 L1 h1
  obtain ⟨rfl, y1⟩ := h1
  obtain ⟨h1, h2, h3, -⟩ := id y1
  refine px_ieq rfl q_X12_numbered_4 hg rfl trivial (fun c6 => ?_) (fun c6 => ?_)
  · refine px_b rfl q_X12_numbered_14 hg rfl trivial ?_
    exact px_go (ls_numbered20 hg w _ h hlt h1 h2 h3 hw (by unfold yLo; grind) (fun I2 hp hn => ⟨rfl, rfl, rfl, rfl, hp, _, y1, hn⟩)) ⟨rfl, rfl, rfl, trivial⟩
  · refine px_ine rfl q_X12_numbered_9 hg rfl trivial (fun c11 => ?_) (fun c11 => ?_)
    · refine px_b rfl q_X12_numbered_18 hg rfl trivial ?_
      exact px_go (ls_numbered20 hg w _ h hlt h1 h2 h3 hw (by unfold yLo; grind) (fun I2 hp hn => ⟨rfl, rfl, rfl, rfl, hp, _, y1, hn⟩)) ⟨rfl, rfl, rfl, trivial⟩
    · refine px_b rfl q_X12_numbered_14 hg rfl trivial ?_
      exact px_go (ls_numbered20 hg w _ h hlt h1 h2 h3 hw (by unfold yLo; grind) (fun I2 hp hn => ⟨rfl, rfl, rfl, rfl, hp, _, y1, hn⟩)) ⟨rfl, rfl, rfl, trivial⟩

set_option maxRecDepth 100000 in
theorem ks_step {n : Nat} {I : px_I} {L : px_L} {R : px_R} (hg : px_G n R) (h : mPI I 0) (hs : I 103 29 = 1) (hw : ¬ I 103 30 = 0) : px_KV M_X12_step [.ref 103] n I L R (fun I2 L2 => L2 = L ∧ mPo I I2 ∧ ySt I I2) := by
  refine px_of (plainFor_of_name np_RX12) (fun _ _ _ => trivial) rfl ?_
  have hat := h.at
  obtain ⟨hN, hop⟩ := h.N (by decide)
  have h0 := h.2.1
  obtain ⟨hk1, -, -, hk4, X, hk5⟩ := id h
  have hlt : I 103 28 < I 103 27 := hk1.2.1 (by rw [hs]; decide)
  have htd := hk1.2.2.2 hs
  have hN1 : 0 ≤ I 103 35 ∧ I 103 35 < 220 := by grind
  have hop1 : 0 ≤ I 103 39 ∧ I 103 39 < 10 := by grind
  refine px_ieq rfl q_X12_step_0 hg rfl trivial (fun c7 => ?_) (fun c7 => ?_)
  · refine px_cVS (ci := 12) rfl q_X12_step_16 hg rfl trivial lk_12_346 nm_X12_emits (k_emits hg _ _ hN1) rfl rfl (px_lit hg rfl) rfl rfl rfl ⟨rfl, rfl⟩ ?_
    intro x19 I19 L19 h19
    obtain ⟨rfl, rfl, h19⟩ := h19
    have e39 := mE_f h19 (j := 39) (by decide)
    have e35 := mE_35 h19
    have e31 := mE_f h19 (j := 31) (by decide)
    have e28 := mE_f h19 (j := 28) (by decide)
    have e27 := mE_f h19 (j := 27) (by decide)
    have e26 := mE_f h19 (j := 26) (by decide)
    have eP := mE_P h19
    refine px_cVW (ci := 12) rfl q_X12_step_22 hg rfl ⟨trivial, (by first | with_reducible assumption | (rw [e39]; with_reducible assumption))⟩ lk_12_340 nm_X12_next (ks_next hg (by simpa [px_ur, e26, e27] using hat)) rfl rfl (px_lit hg rfl) rfl rfl rfl ⟨rfl, rfl⟩ ?_
    intro I34 L34 h34
    obtain ⟨rfl, y34⟩ := h34
    obtain ⟨g1, g2, g3, -⟩ := id y34
    have g2 : I 103 27 ≤ I34 103 28 := by rw [px_u_ne (by decide), e27] at g2; exact g2
    have g9 := g3.b
    refine px_cVW (ci := 12) rfl q_X12_step_37 hg rfl trivial lk_12_358 nm_X12_stepIsOver (ks_stepIsOver hg (mPI.nx g1 g3 (by rw [px_u_ne (by decide), e31]; exact h0) (by rw [px_u_ne (by decide), e35]; grind) (by rw [px_u_ne (by decide), e35, e39]; grind) (mSI.st (hk5.emS h19 (by grind) (by grind) (by grind)) _ _))) rfl rfl (px_lit hg rfl) rfl rfl rfl ⟨rfl, rfl⟩ ?_
    intro I38 L38 h38
    refine px_rvW rfl q_X12_step_41 rfl rfl rfl hg rfl trivial ⟨⟨rfl, rfl⟩, ?_⟩
    obtain ⟨rfl, gp, y38⟩ := h38
    obtain ⟨g5, g6⟩ := gp
    exact ⟨rfl, ⟨(eP.trans ((mPF.rfl'.a 127 _ _).trans g1.P)).trans g5, g6.imp id (fun q => ⟨q.1, by have := q.2; grind⟩)⟩, Or.inl ⟨by grind, _, _, (show (1 : Int32) &&& 1 = 1 by decide), by rw [← show I19 = mE I (I 103 30) 0 from h19, ← e39]; exact y34, y38⟩⟩
  · refine px_ine rfl q_X12_step_10 hg rfl trivial (fun c13 => ?_) (fun c13 => ?_)
    · refine px_ine rfl q_X12_step_44 hg rfl trivial (fun c47 => ?_) (fun c47 => ?_)
      · refine px_cVW (ci := 12) rfl q_X12_step_143 hg rfl trivial lk_12_361 nm_X12_numbered (ks_numbered hg _ h hlt (by grind)) rfl rfl (px_lit hg rfl) rfl rfl rfl ⟨rfl, rfl⟩ ?_
        intro I145 L145 h145
        refine px_rvW rfl q_X12_step_148 rfl rfl rfl hg rfl trivial ⟨⟨rfl, rfl⟩, ?_⟩
        obtain ⟨rfl, gp, y145⟩ := h145
        exact ⟨rfl, gp, Or.inr (Or.inr ⟨by grind, y145⟩)⟩
      · refine px_cVW (ci := 12) rfl q_X12_step_50 hg rfl trivial lk_12_340 nm_X12_next (ks_next hg hat) rfl rfl (px_lit hg rfl) rfl rfl rfl ⟨rfl, rfl⟩ ?_
        intro I51 L51 h51
        obtain ⟨rfl, y51⟩ := h51
        obtain ⟨g1, g2, g3, -⟩ := id y51
        have h051 : I51 103 31 = 0 := (g1.f 31 (by decide)).trans h0
        have f35 := g1.f 35 (by decide)
        have f39 := g1.f 39 (by decide)
        have hN51 : 0 ≤ I51 103 35 ∧ I51 103 35 < 220 := by grind
        have hop51 : 0 ≤ I51 103 39 ∧ I51 103 39 < 10 := by grind
        have hX : mSI I51 X (I51 103 35) := by rw [f35]; exact g1.S hk5
        have hl51 : I51 103 28 ≤ I51 103 27 := g3.1.2.1
        have hat51 : 0 ≤ I51 103 27 ∧ I51 103 27 ≤ I51 103 26 ∧ I51 103 26 ≤ 400 := ⟨Int32.le_trans g3.1.1 hl51, g3.1.2.2.1, g3.1.2.2.2⟩
        have g4 : mPF I I51 := g1.P
        refine px_ieq rfl q_X12_step_54 hg rfl trivial (fun c59 => ?_) (fun c59 => ?_)
        · have htl := g3.2.2.1 (by assumption)
          have htl2 : 0 ≤ I51 103 30 ∧ I51 103 30 < 8 := by grind
          have hl52 : I51 103 28 < I51 103 27 := g3.2.1 (by rw [show I51 103 29 = 2 by assumption]; decide)
          refine px_ge rfl q_X12_step_70 hg rfl ⟨trivial, (by first | with_reducible assumption | (rw [e39]; with_reducible assumption))⟩ (fun c79 => ?_) (fun c79 => ?_)
          · refine px_ne rfl q_X12_step_87 hg rfl trivial (fun c91 => ?_) (fun c91 => ?_)
            · exact absurd h051 c91
            · refine px_eq rfl q_X12_step_94 hg rfl ⟨trivial, (by first | with_reducible assumption | (rw [e39]; with_reducible assumption))⟩ (fun c103 => ?_) (fun c103 => ?_)
              · refine px_cVW (ci := 12) rfl q_X12_step_132 hg rfl trivial lk_12_340 nm_X12_next (ks_next hg (by first | exact hat51 | simpa [px_ur, e26, e27] using hat51)) rfl rfl (px_lit hg rfl) rfl rfl rfl ⟨rfl, rfl⟩ ?_
                intro I133 L133 h133
                obtain ⟨rfl, y133⟩ := h133
                obtain ⟨g1, g2, g3, -⟩ := id y133
                have g9 := g3.b
                refine px_cVW (ci := 12) rfl q_X12_step_136 hg rfl trivial lk_12_358 nm_X12_stepIsOver (ks_stepIsOver hg (mPI.nx g1 g3 h051 hN51.1 (by grind) ⟨X, hX⟩)) rfl rfl (px_lit hg rfl) rfl rfl rfl ⟨rfl, rfl⟩ ?_
                intro I137 L137 h137
                refine px_rvW rfl q_X12_step_140 rfl rfl rfl hg rfl trivial ⟨⟨rfl, rfl⟩, ?_⟩
                obtain ⟨rfl, gp, y137⟩ := h137
                obtain ⟨g5, g6⟩ := gp
                exact ⟨rfl, ⟨(g4.trans g1.P).trans g5, g6.imp id (fun q => ⟨q.1, by have := q.2; grind⟩)⟩, Or.inr (Or.inl ⟨by grind, _, y51, Or.inr (Or.inr ⟨(by first | assumption | exact Classical.not_not.mp (by assumption)), (by first | exact Int32.not_le.mp (by assumption) | exact Int32.not_lt.mpr (by assumption) | assumption | grind), _, Or.inr ⟨by assumption, y133⟩, y137⟩)⟩)⟩
              · refine px_cVS (ci := 12) rfl q_X12_step_106 hg rfl ⟨trivial, (by first | with_reducible assumption | (rw [e39]; with_reducible assumption))⟩ lk_12_346 nm_X12_emits (k_emits hg _ _ hN51) rfl rfl (px_lit hg rfl) rfl rfl rfl ⟨rfl, rfl⟩ ?_
                intro x118 I118 L118 h118
                obtain ⟨rfl, rfl, h118⟩ := h118
                have e39 := mE_f h118 (j := 39) (by decide)
                have e35 := mE_35 h118
                have e31 := mE_f h118 (j := 31) (by decide)
                have e28 := mE_f h118 (j := 28) (by decide)
                have e27 := mE_f h118 (j := 27) (by decide)
                have e26 := mE_f h118 (j := 26) (by decide)
                have eP := mE_P h118
                refine px_cVW (ci := 12) rfl q_X12_step_121 hg rfl ⟨trivial, (by first | with_reducible assumption | (rw [e39]; with_reducible assumption))⟩ lk_12_340 nm_X12_next (ks_next hg (by first | exact hat51 | simpa [px_ur, e26, e27] using hat51)) rfl rfl (px_lit hg rfl) rfl rfl rfl ⟨rfl, rfl⟩ ?_
                intro I133 L133 h133
                obtain ⟨rfl, y133⟩ := h133
                obtain ⟨g1, g2, g3, -⟩ := id y133
                have g2 : I51 103 27 ≤ I133 103 28 := by rw [px_u_ne (by decide), e27] at g2; exact g2
                have g9 := g3.b
                refine px_cVW (ci := 12) rfl q_X12_step_136 hg rfl trivial lk_12_358 nm_X12_stepIsOver (ks_stepIsOver hg (mPI.nx g1 g3 (by rw [px_u_ne (by decide), e31]; exact h051) (by rw [px_u_ne (by decide), e35]; grind) (by rw [px_u_ne (by decide), e35, e39]; grind) (mSI.st (hX.emC h118 (by grind) ⟨by grind, by grind⟩ (by assumption)) _ _))) rfl rfl (px_lit hg rfl) rfl rfl rfl ⟨rfl, rfl⟩ ?_
                intro I137 L137 h137
                refine px_rvW rfl q_X12_step_140 rfl rfl rfl hg rfl trivial ⟨⟨rfl, rfl⟩, ?_⟩
                obtain ⟨rfl, gp, y137⟩ := h137
                obtain ⟨g5, g6⟩ := gp
                exact ⟨rfl, ⟨(g4.trans (eP.trans ((mPF.rfl'.a 127 _ _).trans g1.P))).trans g5, g6.imp id (fun q => ⟨q.1, by have := q.2; grind⟩)⟩, Or.inr (Or.inl ⟨by grind, _, y51, Or.inr (Or.inr ⟨(by first | assumption | exact Classical.not_not.mp (by assumption)), (by first | exact Int32.not_le.mp (by assumption) | exact Int32.not_lt.mpr (by assumption) | assumption | grind), _, Or.inl ⟨by assumption, _, (show (1 : Int32) &&& 1 = 1 by decide), by rw [← show I118 = mE I51 7 (I51 124 (I51 103 30).toNatClampNeg) from h118, ← e39]; exact y133⟩, y137⟩)⟩)⟩
          · refine px_cVW (ci := 12) rfl q_X12_step_82 hg rfl trivial lk_12_334 nm_X12_errs (k_errs hg _) rfl rfl (px_lit hg rfl) rfl rfl rfl ⟨rfl, rfl⟩ ?_
            intro I84 L84 h84
            obtain ⟨rfl, h84⟩ := h84
            have e9 := mErr h84 h051 (by decide)
            have y9 := yErr h84 h051
            refine px_ne rfl q_X12_step_87 hg rfl trivial (fun c91 => ?_) (fun c91 => ?_)
            · refine px_rvW rfl q_X12_step_148 rfl rfl rfl hg rfl trivial ⟨⟨rfl, rfl⟩, ?_⟩
              exact ⟨rfl, ⟨g4.trans e9.1, Or.inl e9.2⟩, Or.inr (Or.inl ⟨by grind, _, y51, Or.inr (Or.inl ⟨(by first | assumption | exact Classical.not_not.mp (by assumption)), (by first | exact Int32.not_le.mp (by assumption) | exact Int32.not_lt.mpr (by assumption) | assumption | grind), y9⟩)⟩)⟩
            · exact absurd c91 (by have := e9.2; grind)
        · refine px_cVW (ci := 12) rfl q_X12_step_62 hg rfl trivial lk_12_334 nm_X12_errs (k_errs hg _) rfl rfl (px_lit hg rfl) rfl rfl rfl ⟨rfl, rfl⟩ ?_
          intro I64 L64 h64
          obtain ⟨rfl, h64⟩ := h64
          have e9 := mErr h64 h051 (by decide)
          have y9 := yErr h64 h051
          refine px_ne rfl q_X12_step_67 hg rfl trivial (fun c91 => ?_) (fun c91 => ?_)
          · refine px_rvW rfl q_X12_step_148 rfl rfl rfl hg rfl trivial ⟨⟨rfl, rfl⟩, ?_⟩
            exact ⟨rfl, ⟨g4.trans e9.1, Or.inl e9.2⟩, Or.inr (Or.inl ⟨by grind, _, y51, Or.inl ⟨by assumption, y9⟩⟩)⟩
          · exact absurd c91 (by have := e9.2; grind)
    · refine px_cVS (ci := 12) rfl q_X12_step_16 hg rfl trivial lk_12_346 nm_X12_emits (k_emits hg _ _ hN1) rfl rfl (px_lit hg rfl) rfl rfl rfl ⟨rfl, rfl⟩ ?_
      intro x19 I19 L19 h19
      obtain ⟨rfl, rfl, h19⟩ := h19
      have e39 := mE_f h19 (j := 39) (by decide)
      have e35 := mE_35 h19
      have e31 := mE_f h19 (j := 31) (by decide)
      have e28 := mE_f h19 (j := 28) (by decide)
      have e27 := mE_f h19 (j := 27) (by decide)
      have e26 := mE_f h19 (j := 26) (by decide)
      have eP := mE_P h19
      refine px_cVW (ci := 12) rfl q_X12_step_22 hg rfl ⟨trivial, (by first | with_reducible assumption | (rw [e39]; with_reducible assumption))⟩ lk_12_340 nm_X12_next (ks_next hg (by simpa [px_ur, e26, e27] using hat)) rfl rfl (px_lit hg rfl) rfl rfl rfl ⟨rfl, rfl⟩ ?_
      intro I34 L34 h34
      obtain ⟨rfl, y34⟩ := h34
      obtain ⟨g1, g2, g3, -⟩ := id y34
      have g2 : I 103 27 ≤ I34 103 28 := by rw [px_u_ne (by decide), e27] at g2; exact g2
      have g9 := g3.b
      refine px_cVW (ci := 12) rfl q_X12_step_37 hg rfl trivial lk_12_358 nm_X12_stepIsOver (ks_stepIsOver hg (mPI.nx g1 g3 (by rw [px_u_ne (by decide), e31]; exact h0) (by rw [px_u_ne (by decide), e35]; grind) (by rw [px_u_ne (by decide), e35, e39]; grind) (mSI.st (hk5.emS h19 (by grind) (by grind) (by grind)) _ _))) rfl rfl (px_lit hg rfl) rfl rfl rfl ⟨rfl, rfl⟩ ?_
      intro I38 L38 h38
      refine px_rvW rfl q_X12_step_41 rfl rfl rfl hg rfl trivial ⟨⟨rfl, rfl⟩, ?_⟩
      obtain ⟨rfl, gp, y38⟩ := h38
      obtain ⟨g5, g6⟩ := gp
      exact ⟨rfl, ⟨(eP.trans ((mPF.rfl'.a 127 _ _).trans g1.P)).trans g5, g6.imp id (fun q => ⟨q.1, by have := q.2; grind⟩)⟩, Or.inl ⟨by grind, _, _, (show (1 : Int32) &&& 1 = 1 by decide), by rw [← show I19 = mE I (I 103 30) 0 from h19, ← e39]; exact y34, y38⟩⟩

set_option maxRecDepth 100000 in
theorem ks_def {n : Nat} {I : px_I} {L : px_L} {R : px_R} (hg : px_G n R) (h : mPI I 0) (hlt : I 103 28 < I 103 27) (hz : I 103 39 = 0) : px_KV M_X12_def [.ref 103] n I L R (fun I2 L2 => L2 = L ∧ mPo I I2 ∧ yDf I I2) := by
  refine px_of (plainFor_of_name np_RX12) (fun _ _ _ => trivial) rfl ?_
  have hat := h.at
  obtain ⟨hN, hop⟩ := h.N (by decide)
  have h0 := h.2.1
  obtain ⟨hk1, -, -, hk4, X, hk5⟩ := id h
  refine px_cVW (ci := 12) rfl q_X12_def_0 hg rfl trivial lk_12_340 nm_X12_next (ks_next hg hat) rfl rfl (px_lit hg rfl) rfl rfl rfl ⟨rfl, rfl⟩ ?_
  intro I1 L1 h1
  obtain ⟨rfl, y1⟩ := h1
  obtain ⟨g1, g2, g3, -⟩ := id y1
  have h01 : I1 103 31 = 0 := (g1.f 31 (by decide)).trans h0
  have f35 := g1.f 35 (by decide)
  have f39 := (g1.f 39 (by decide)).trans hz
  have hX : mSI I1 X (I1 103 35) := by rw [f35]; exact g1.S hk5
  have hl1 : I1 103 28 ≤ I1 103 27 := g3.1.2.1
  have hat1 : 0 ≤ I1 103 27 ∧ I1 103 27 ≤ I1 103 26 ∧ I1 103 26 ≤ 400 := ⟨Int32.le_trans g3.1.1 hl1, g3.1.2.2.1, g3.1.2.2.2⟩
  have g4 : mPF I I1 := g1.P
  refine px_ieq rfl q_X12_def_4 hg rfl trivial (fun c9 => ?_) (fun c9 => ?_)
  · have htl := g3.2.2.1 (by assumption)
    have htl2 : 0 ≤ I1 103 30 ∧ I1 103 30 < 8 := by grind
    have hl52 : I1 103 28 < I1 103 27 := g3.2.1 (by rw [show I1 103 29 = 2 by assumption]; decide)
    refine px_lt rfl q_X12_def_20 hg rfl ⟨trivial, (by with_reducible assumption)⟩ (fun c29 => ?_) (fun c29 => ?_)
    · refine px_le rfl q_X12_def_37 hg rfl trivial (fun c41 => ?_) (fun c41 => ?_)
      · refine px_cVW (ci := 12) rfl q_X12_def_45 hg rfl trivial lk_12_340 nm_X12_next (ks_next hg (by simpa [px_ur] using hat1)) rfl rfl (px_lit hg rfl) rfl rfl rfl ⟨rfl, rfl⟩ ?_
        intro I54 L54 h54
        obtain ⟨rfl, y54⟩ := h54
        obtain ⟨k1, k2, k3, -⟩ := id y54
        have k2 : I1 103 27 ≤ I54 103 28 := by simpa [px_ur] using k2
        have d39 : I54 103 39 = 0 := by rw [k1.f 39 (by decide), px_u_at_ne (by decide)]; exact f39
        have d35 : I54 103 35 = I1 103 35 := by rw [k1.f 35 (by decide), px_u_at_ne (by decide)]
        have d31 : I54 103 31 = 0 := by rw [k1.f 31 (by decide), px_u_at_ne (by decide)]; exact h01
        have d71 : I54 103 71 = I1 103 30 := by rw [k1.f 71 (by decide), px_u_at]
        have d124 : I54 124 = I1 124 := by rw [k1.o 124 (by decide), px_u_ne (by decide)]
        have hN54 : 0 ≤ I54 103 35 ∧ I54 103 35 < 220 := by grind
        have hX54 : mSI I54 X (I54 103 35) := by rw [d35]; exact k1.S (hX.let0 f39 _)
        have k4 : mPF I1 I54 := (mPF.rfl'.u 71 _).trans k1.P
        have k9 := k3.b
        refine px_cVS (ci := 12) rfl q_X12_def_57 hg rfl trivial lk_12_346 nm_X12_emits (k_emits hg _ _ hN54) rfl rfl (px_lit hg rfl) rfl rfl rfl ⟨rfl, rfl⟩ ?_
        intro x61 I61 L61 h61
        obtain ⟨rfl, rfl, h61⟩ := h61
        have e39 := mE_f h61 (j := 39) (by decide)
        have e35 := mE_35 h61
        have e31 := mE_f h61 (j := 31) (by decide)
        have e28 := mE_f h61 (j := 28) (by decide)
        have e27 := mE_f h61 (j := 27) (by decide)
        have e26 := mE_f h61 (j := 26) (by decide)
        have eP := mE_P h61
        refine px_cVW (ci := 12) rfl q_X12_def_64 hg rfl trivial lk_12_350 nm_X12_opens (ks_opens hg 1 (I54 103 35) (by unfold mTk at *; rw [mE_f h61 (j := 29) (by decide), mE_f h61 (j := 30) (by decide), e26, e27, e28]; exact k3) (by rw [e31]; exact d31) ⟨by rw [e35], hN54.1⟩ (by rw [e35, e39, e28]; grind) ⟨X, hX54.em h61 rfl⟩ (fun _ => ⟨by rw [e39]; exact d39, mE_122 h61, by rw [mE_f h61 (j := 71) (by decide), d71]; exact htl, by rw [mE_f h61 (j := 71) (by decide), d71, mE_b h61 (b := 124) (by decide) (by decide) (by decide), d124]; first | assumption | grind⟩)) rfl rfl (px_lit hg rfl) rfl rfl rfl ⟨rfl, rfl⟩ ?_
        intro I68 L68 h68
        refine px_rvW rfl q_X12_def_71 rfl rfl rfl hg rfl trivial ⟨⟨rfl, rfl⟩, ?_⟩
        obtain ⟨rfl, gp, y68⟩ := h68
        obtain ⟨g5, g6⟩ := gp
        exact ⟨rfl, ⟨(g4.trans (k4.trans eP)).trans g5, g6.imp id (fun q => ⟨q.1, by have := q.2; grind⟩)⟩, _, y1, Or.inr (Or.inr ⟨(by first | assumption | exact Classical.not_not.mp (by assumption)), (by first | assumption | exact Int32.not_le.mpr (by assumption)), _, y54, by rw [← show I61 = mE I54 23 0 from h61]; exact y68⟩)⟩
      · exact absurd c41 (by rw [h01]; decide)
    · refine px_cVW (ci := 12) rfl q_X12_def_32 hg rfl trivial lk_12_334 nm_X12_errs (k_errs hg _) rfl rfl (px_lit hg rfl) rfl rfl rfl ⟨rfl, rfl⟩ ?_
      intro I34 L34 h34
      obtain ⟨rfl, h34⟩ := h34
      have e9 := mErr h34 h01 (by decide)
      have y9 := yErr h34 h01
      refine px_le rfl q_X12_def_37 hg rfl trivial (fun c41 => ?_) (fun c41 => ?_)
      · exact absurd c41 (by have := e9.2; grind)
      · refine px_rvW rfl q_X12_def_44 rfl rfl rfl hg rfl trivial ⟨⟨rfl, rfl⟩, ?_⟩
        exact ⟨rfl, ⟨g4.trans e9.1, Or.inl e9.2⟩, _, y1, Or.inr (Or.inl ⟨(by first | assumption | exact Classical.not_not.mp (by assumption)), (by first | exact Int32.not_le.mp (by assumption) | exact Int32.not_lt.mpr (by assumption) | assumption | grind), y9⟩)⟩
  · refine px_cVW (ci := 12) rfl q_X12_def_12 hg rfl trivial lk_12_334 nm_X12_errs (k_errs hg _) rfl rfl (px_lit hg rfl) rfl rfl rfl ⟨rfl, rfl⟩ ?_
    intro I14 L14 h14
    obtain ⟨rfl, h14⟩ := h14
    have e9 := mErr h14 h01 (by decide)
    have y9 := yErr h14 h01
    refine px_le rfl q_X12_def_17 hg rfl trivial (fun c41 => ?_) (fun c41 => ?_)
    · exact absurd c41 (by have := e9.2; grind)
    · refine px_rvW rfl q_X12_def_44 rfl rfl rfl hg rfl trivial ⟨⟨rfl, rfl⟩, ?_⟩
      exact ⟨rfl, ⟨g4.trans e9.1, Or.inl e9.2⟩, _, y1, Or.inl ⟨by assumption, y9⟩⟩
