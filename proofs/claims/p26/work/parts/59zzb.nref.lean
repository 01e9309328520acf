/-! the same by numbers -/
def nSI (I : px_I) (X : Int32 → Prop) (fe : Int32) (G : zG) : Prop := nSt (fun j => I 122 j.toNatClampNeg) (fun j => I 123 j.toNatClampNeg) (fun j => I 124 j.toNatClampNeg) (fun j => I 125 j.toNatClampNeg) (fun j => I 126 j.toNatClampNeg) (fun j => I 127 j.toNatClampNeg) (fun j => I 128 j.toNatClampNeg) (I 103 39) (I 103 71) X fe G.1 G.2.1 G.2.2
theorem nSI.same {I I2 : px_I} {X : Int32 → Prop} {fe : Int32} {G : zG} (h : nSI I X fe G) (h2 : ∀ b, 122 ≤ b → b ≤ 128 → I2 b = I b) (h7 : I2 103 39 = I 103 39) (h8 : I2 103 71 = I 103 71) : nSI I2 X fe G := by
  unfold nSI at *
  rw [h2 122 (by decide) (by decide), h2 123 (by decide) (by decide), h2 124 (by decide) (by decide), h2 125 (by decide) (by decide), h2 126 (by decide) (by decide), h2 127 (by decide) (by decide), h2 128 (by decide) (by decide), h7, h8]
  exact h
theorem nSI.K {I I2 : px_I} {X : Int32 → Prop} {fe : Int32} {G : zG} (h : nSI I X fe G) (hk : mKI I I2) : nSI I2 X fe G := h.same (fun b q1 q2 => hk.o b (by omega)) (hk.f 39 (by decide)) (hk.f 71 (by decide))
theorem nSI.fld {I : px_I} {X : Int32 → Prop} {fe : Int32} {G : zG} (h : nSI I X fe G) (k : Nat) (v : Int32) (hk : k ≠ 39 ∧ k ≠ 71 := by decide) : nSI (px_u I 103 k v) X fe G := h.same (fun b q1 q2 => px_u_ne (by omega)) (px_u_at_ne (Ne.symm hk.1)) (px_u_at_ne (Ne.symm hk.2))
theorem nSI.em {I J : px_I} {X : Int32 → Prop} {fe o v : Int32} {G : zG} (h : nSI I X fe G) (hJ : J = mE I o v) (hN : fe = I 103 35) : nSI J X fe G := by
  have h0 : 0 ≤ I 103 35 := by rw [← hN]; exact h.2.1.1
  have e : ∀ b, 124 ≤ b → J b = I b := fun b hb => mE_b hJ (by omega) (by omega) (by omega)
  have h2 := nSt.emit (o2 := fun j => J 122 j.toNatClampNeg) (v2 := fun j => J 123 j.toNatClampNeg) h (fun j j0 j1 => mE_lo hJ h0 j0 (by rw [← hN]; grind))
  unfold nSI
  rw [e 124 (by decide), e 125 (by decide), e 126 (by decide), e 127 (by decide), e 128 (by decide), mE_f hJ (j := 39) (by decide), mE_f hJ (j := 71) (by decide)]
  exact h2
theorem nSI.emS {I J : px_I} {X : Int32 → Prop} {G : zG} {w x : Int32} (h : nSI I X (I 103 35) G) (hN : I 103 35 < 210) (hw : 1 ≤ w ∧ w ≤ 6) (hJ : J = px_u (mE I w x) 127 (I 103 39).toNatClampNeg 1) : ∃ X, nSI J X (J 103 35) (gAd G.1 (I 103 39) [(w, x)], G.2) := by
  have hop := h.1.1
  have h2 := h.em (J := mE I w x) rfl rfl
  have e : ∀ b, b ≠ 127 → J b = mE I w x b := fun b hb => by rw [hJ, px_u_ne hb]
  have e39 : mE I w x 103 39 = I 103 39 := mE_f rfl (by decide)
  have e127 : mE I w x 127 = I 127 := mE_b rfl (by decide) (by decide) (by decide)
  unfold nSI at h2 ⊢
  rw [e39] at h2
  have h3 := nSt.stp (w := w) (x := x) (sb2 := fun q => J 127 q.toNatClampNeg) h2 hN hw (mE_122 rfl) (mE_123 rfl) (fun q q1 q2 => by
    show J 127 _ = mE I w x 127 _
    rw [hJ, px_uJ q1 hop (by grind)]) (by show J 127 _ = 1; rw [hJ, px_u_at])
  rw [e 122 (by decide), e 123 (by decide), e 124 (by decide), e 125 (by decide), e 126 (by decide), e 128 (by decide), e 103 (by decide), e39, mE_35 rfl]
  exact ⟨_, h3⟩
theorem nSI.emC {I J : px_I} {X : Int32 → Prop} {G : zG} {l : Int32} (h : nSI I X (I 103 35) G) (hN : I 103 35 < 210) (hl : 0 ≤ l ∧ l ≤ 7) (hd : 0 ≤ I 124 l.toNatClampNeg) (hb : ¬ I 128 l.toNatClampNeg = 0) (hJ : J = px_u (mE I 7 (I 124 l.toNatClampNeg)) 127 (I 103 39).toNatClampNeg 1) : ∃ X, nSI J X (J 103 35) (gAd G.1 (I 103 39) (G.2.1 l), G.2) := by
  have hop := h.1.1
  have h2 := h.em (J := mE I 7 (I 124 l.toNatClampNeg)) rfl rfl
  have e : ∀ b, b ≠ 127 → J b = mE I 7 (I 124 l.toNatClampNeg) b := fun b hb => by rw [hJ, px_u_ne hb]
  have e39 : mE I 7 (I 124 l.toNatClampNeg) 103 39 = I 103 39 := mE_f rfl (by decide)
  have e124 : mE I 7 (I 124 l.toNatClampNeg) 124 = I 124 := mE_b rfl (by decide) (by decide) (by decide)
  have e128 : mE I 7 (I 124 l.toNatClampNeg) 128 = I 128 := mE_b rfl (by decide) (by decide) (by decide)
  unfold nSI at h2 ⊢
  rw [e39] at h2
  have h3 := nSt.cal (l := l) (sb2 := fun q => J 127 q.toNatClampNeg) h2 hN (mE_122 rfl) (by show mE I 7 _ 123 _ = mE I 7 _ 124 _; rw [e124]; exact mE_123 rfl) hl (by show 0 ≤ mE I 7 _ 124 _; rw [e124]; exact hd) (by show ¬ mE I 7 _ 128 _ = 0; rw [e128]; exact hb) (fun q q1 q2 => by
    show J 127 _ = mE I 7 _ 127 _
    rw [hJ, px_uJ q1 hop (by grind)]) (by show J 127 _ = 1; rw [hJ, px_u_at])
  rw [e 122 (by decide), e 123 (by decide), e 124 (by decide), e 125 (by decide), e 126 (by decide), e 128 (by decide), e 103 (by decide), e39, mE_35 rfl]
  exact ⟨_, h3⟩
theorem nSI.opn {I J : px_I} {X : Int32 → Prop} {wh dv x : Int32} {G : zG} (h : nSI I X wh G) (hN : wh < 210) (h8 : I 103 39 < 8) (hd : dv = 1 → I 103 39 = 0 ∧ I 122 wh.toNatClampNeg = 23 ∧ (0 ≤ I 103 71 ∧ I 103 71 ≤ 7) ∧ I 124 (I 103 71).toNatClampNeg < 0) (hv : ¬ dv = 1 → I 123 wh.toNatClampNeg = x ∧ 1 ≤ x ∧ x ≤ 99)
    (hJ : J = px_u (px_u (px_u (px_u I 125 (I 103 39).toNatClampNeg dv) 126 (I 103 39).toNatClampNeg wh) 103 39 (I 103 39 + 1)) 127 (I 103 39 + 1).toNatClampNeg 0) : nSI J X (wh + 1) (gN G.1 (I 103 39 + 1), G.2.1, gT G.2.2 (I 103 39 + 1) x) := by
  have hop := h.1.1
  have h9 : 0 ≤ I 103 39 + 1 := by grind
  have j122 : J 122 = I 122 := by subst hJ; funext j; simp [px_ur]
  have j123 : J 123 = I 123 := by subst hJ; funext j; simp [px_ur]
  have j124 : J 124 = I 124 := by subst hJ; funext j; simp [px_ur]
  have j128 : J 128 = I 128 := by subst hJ; funext j; simp [px_ur]
  have j39 : J 103 39 = I 103 39 + 1 := by subst hJ; simp [px_ur]
  have j71 : J 103 71 = I 103 71 := by subst hJ; simp [px_ur]
  have j125 : ∀ q : Int32, J 125 q.toNatClampNeg = px_u I 125 (I 103 39).toNatClampNeg dv 125 q.toNatClampNeg := by subst hJ; intro q; simp [px_ur]
  have j126 : ∀ q : Int32, J 126 q.toNatClampNeg = px_u I 126 (I 103 39).toNatClampNeg wh 126 q.toNatClampNeg := by subst hJ; intro q; simp [px_ur]
  have j127 : ∀ q : Int32, J 127 q.toNatClampNeg = px_u I 127 (I 103 39 + 1).toNatClampNeg 0 127 q.toNatClampNeg := by subst hJ; intro q; simp [px_ur]
  have e := nSt.opn (oD2 := fun j => J 125 j.toNatClampNeg) (oA2 := fun j => J 126 j.toNatClampNeg) (sb2 := fun j => J 127 j.toNatClampNeg) (lt2 := J 103 71) (x := x) h hN h8 (fun q q1 q2 => ⟨by
    show J 125 _ = _
    rw [j125, px_uJ q1 hop (by grind)], by
    show J 126 _ = _
    rw [j126, px_uJ q1 hop (by grind)]⟩) (by show J 126 _ = _; rw [j126, px_u_at]) (by
      show J 125 _ = 1 → _
      rw [j125, px_u_at, j71]
      exact hd) (fun _ => j71) (by
      show ¬ J 125 _ = 1 → _
      rw [j125, px_u_at]
      exact hv) (fun q q1 q2 => by
      show J 127 _ = I 127 _
      rw [j127, px_uJ q1 h9 (by grind)]) (by show J 127 _ = 0; rw [j127, px_u_at])
  unfold nSI
  rw [j122, j123, j124, j128, j39]
  exact e
theorem px_a1 {x : Int32} (h : x = 0 ∨ x = 1) : x &&& 1 = x := by
  rcases h with rfl | rfl <;> decide
/-- a } behind a def -/
theorem nSI.clD {I J : px_I} {X : Int32 → Prop} {G : zG} {w : Int32} (h : nSI I X (I 103 35) G) (hN : I 103 35 < 210) (h0 : 0 < I 103 39) (hw : w = I 126 (I 103 39 - 1).toNatClampNeg) (hd : I 125 (I 103 39 - 1).toNatClampNeg = 1)
    (hJ : J = px_u (px_u (px_u (px_u (yC1 I) 123 w.toNatClampNeg (I 103 35 + 1)) 124 (I 103 71).toNatClampNeg (w + 1)) 128 (I 103 71).toNatClampNeg (I 127 (I 103 39).toNatClampNeg &&& 1)) 103 72 (I 103 72 + 1)) : I 103 39 = 1 ∧ ∃ X, nSI J X (J 103 35) (G.1, gLt G.2.1 (I 103 71) (G.1 1), G.2.2) := by
  have hop := h.1
  have hf : 0 ≤ I 103 35 := h.2.1.1
  have h4 := h.2.2.2.1 (I 103 39 - 1) (by grind) (by grind)
  have w1 : 0 ≤ w ∧ w < I 103 35 := by rw [hw]; exact h4.1
  obtain ⟨d1, d2, d3, d4⟩ := h4.2.2.1 hd
  have d39 : I 103 39 = 1 := by grind
  refine ⟨d39, ?_⟩
  have i35 : px_u I 103 39 (I 103 39 - 1) 103 35 = I 103 35 := px_u_at_ne (by decide)
  have ib : ∀ b, b ≠ 103 → px_u I 103 39 (I 103 39 - 1) b = I b := fun b hb => px_u_ne hb
  have e122 : J 122 = yC1 I 122 := by subst hJ; funext j; simp [px_ur]
  have e123 : ∀ q : Int32, J 123 q.toNatClampNeg = px_u (yC1 I) 123 w.toNatClampNeg (I 103 35 + 1) 123 q.toNatClampNeg := by subst hJ; intro q; simp [px_ur]
  have l122 : ∀ q : Int32, 0 ≤ q → q ≠ I 103 35 → yC1 I 122 q.toNatClampNeg = I 122 q.toNatClampNeg ∧ yC1 I 123 q.toNatClampNeg = I 123 q.toNatClampNeg := fun q q1 q2 => by
    have z := mE_lo (I := px_u I 103 39 (I 103 39 - 1)) (I2 := yC1 I) rfl (by rw [i35]; exact hf) q1 (by rw [i35]; exact q2)
    rw [ib 122 (by decide), ib 123 (by decide)] at z
    exact z
  have n122 : yC1 I 122 (I 103 35).toNatClampNeg = 21 := by
    have z := mE_122 (I := px_u I 103 39 (I 103 39 - 1)) (I2 := yC1 I) (o := 21) (v := 0) rfl
    rw [i35] at z
    exact z
  have cb : ∀ b, 124 ≤ b → yC1 I b = I b := fun b hb => (mE_b (I := px_u I 103 39 (I 103 39 - 1)) rfl (by omega) (by omega) (by omega)).trans (ib b (by omega))
  have cf : ∀ k, k ≠ 35 → k ≠ 39 → yC1 I 103 k = I 103 k := fun k k1 k2 => (mE_f (I := px_u I 103 39 (I 103 39 - 1)) rfl k1).trans (px_u_at_ne k2)
  have c39 : yC1 I 103 39 = I 103 39 - 1 := (mE_f (I := px_u I 103 39 (I 103 39 - 1)) rfl (by decide)).trans px_u_at
  have c35 : yC1 I 103 35 = I 103 35 + 1 := (mE_35 (I := px_u I 103 39 (I 103 39 - 1)) rfl).trans (by rw [i35])
  have j39 : J 103 39 = I 103 39 - 1 := by subst hJ; simp [px_ur]; exact c39
  have j71 : J 103 71 = I 103 71 := by subst hJ; simp [px_ur]; exact cf 71 (by decide) (by decide)
  have j35 : J 103 35 = I 103 35 + 1 := by subst hJ; simp [px_ur]; exact c35
  have j125 : J 125 = I 125 := by rw [← cb 125 (by decide)]; subst hJ; funext j; simp [px_ur]
  have j126 : J 126 = I 126 := by rw [← cb 126 (by decide)]; subst hJ; funext j; simp [px_ur]
  have j127 : J 127 = I 127 := by rw [← cb 127 (by decide)]; subst hJ; funext j; simp [px_ur]
  have j124 : ∀ q : Int32, J 124 q.toNatClampNeg = px_u I 124 (I 103 71).toNatClampNeg (w + 1) 124 q.toNatClampNeg := by
    intro q
    have : J 124 q.toNatClampNeg = px_u (yC1 I) 124 (I 103 71).toNatClampNeg (w + 1) 124 q.toNatClampNeg := by subst hJ; simp [px_ur]
    rw [this, px_ur, px_ur, cb 124 (by decide)]
  have j128 : ∀ q : Int32, J 128 q.toNatClampNeg = px_u I 128 (I 103 71).toNatClampNeg (I 127 (I 103 39).toNatClampNeg &&& 1) 128 q.toNatClampNeg := by
    intro q
    have : J 128 q.toNatClampNeg = px_u (yC1 I) 128 (I 103 71).toNatClampNeg (I 127 (I 103 39).toNatClampNeg &&& 1) 128 q.toNatClampNeg := by subst hJ; simp [px_ur]
    rw [this, px_ur, px_ur, cb 128 (by decide)]
  have hsb := (h.2.2.2.2.2.1 (I 103 39) (by grind) (by grind)).1 (by grind)
  have z := nSt.clD (o2 := fun j => J 122 j.toNatClampNeg) (v2 := fun j => J 123 j.toNatClampNeg) (dA2 := fun j => J 124 j.toNatClampNeg) (db2 := fun j => J 128 j.toNatClampNeg) h hN h0 hw hd (fun q q1 q2 => by
    have l := l122 q q1 (by grind)
    refine ⟨?_, fun q3 => ?_⟩
    · show J 122 _ = _
      rw [e122]; exact l.1
    · show J 123 _ = _
      rw [e123, px_uJ q1 w1.1 q3]; exact l.2) (by show J 122 _ = 21; rw [e122]; exact n122) (by show J 123 _ = _; rw [e123, px_u_at]) (fun l l1 l2 l3 => by
    refine ⟨?_, ?_⟩
    · show J 124 _ = _
      rw [j124, px_uJ l1 d3.1 l3]
    · show J 128 _ = _
      rw [j128, px_uJ l1 d3.1 l3]) (by show J 124 _ = _; rw [j124, px_u_at]) (by
    show J 128 _ = 0 ↔ _
    rw [j128, px_u_at, px_a1 hsb.1])
  have e1 : G.1 1 = G.1 (I 103 39) := by rw [d39]
  unfold nSI
  rw [j125, j126, j127, j39, j71, j35, e1]
  exact ⟨_, z⟩
/-- a } behind a repeat -/
theorem nSI.clR {I J : px_I} {X : Int32 → Prop} {G : zG} {w s m : Int32} (h : nSI I X (I 103 35) G) (hN : I 103 35 < 210) (h0 : 0 < I 103 39) (hw : w = I 126 (I 103 39 - 1).toNatClampNeg) (hd : ¬ I 125 (I 103 39 - 1).toNatClampNeg = 1) (hs1 : s = 0 ∨ s = 1) (hs : s = 0 ↔ I 127 (I 103 39 - 1).toNatClampNeg = 0 ∧ I 127 (I 103 39).toNatClampNeg = 0)
    (hJ : J = px_u (px_u (px_u (px_u (yC2 I) 122 w.toNatClampNeg (if I 127 (I 103 39).toNatClampNeg = 0 then 23 else 8)) 123 w.toNatClampNeg (if I 127 (I 103 39).toNatClampNeg = 0 then I 103 35 + 1 else yC2 I 123 w.toNatClampNeg)) 127 (I 103 39 - 1).toNatClampNeg s) 103 72 m) : ∃ X, nSI J X (J 103 35) (gAd G.1 (I 103 39 - 1) (rp (G.2.2 (I 103 39)).toNatClampNeg (G.1 (I 103 39))), G.2) := by
  have hop := h.1
  have hf : 0 ≤ I 103 35 := h.2.1.1
  have h4 := h.2.2.2.1 (I 103 39 - 1) (by grind) (by grind)
  have w1 : 0 ≤ w ∧ w < I 103 35 := by rw [hw]; exact h4.1
  have i35 : px_u I 103 39 (I 103 39 - 1) 103 35 = I 103 35 := px_u_at_ne (by decide)
  have ib : ∀ b, b ≠ 103 → px_u I 103 39 (I 103 39 - 1) b = I b := fun b hb => px_u_ne hb
  have e122 : ∀ q : Int32, J 122 q.toNatClampNeg = px_u (yC2 I) 122 w.toNatClampNeg (if I 127 (I 103 39).toNatClampNeg = 0 then 23 else 8) 122 q.toNatClampNeg := by subst hJ; intro q; simp [px_ur]
  have e123 : ∀ q : Int32, J 123 q.toNatClampNeg = px_u (yC2 I) 123 w.toNatClampNeg (if I 127 (I 103 39).toNatClampNeg = 0 then I 103 35 + 1 else yC2 I 123 w.toNatClampNeg) 123 q.toNatClampNeg := by subst hJ; intro q; simp [px_ur]
  have l122 : ∀ q : Int32, 0 ≤ q → q ≠ I 103 35 → yC2 I 122 q.toNatClampNeg = I 122 q.toNatClampNeg ∧ yC2 I 123 q.toNatClampNeg = I 123 q.toNatClampNeg := fun q q1 q2 => by
    have z := mE_lo (I := px_u I 103 39 (I 103 39 - 1)) (I2 := yC2 I) rfl (by rw [i35]; exact hf) q1 (by rw [i35]; exact q2)
    rw [ib 122 (by decide), ib 123 (by decide)] at z
    exact z
  have n122 : yC2 I 122 (I 103 35).toNatClampNeg = 20 := by
    have z := mE_122 (I := px_u I 103 39 (I 103 39 - 1)) (I2 := yC2 I) (o := 20) (v := I 126 (I 103 39 - 1).toNatClampNeg + 1) rfl
    rw [i35] at z
    exact z
  have n123 : yC2 I 123 (I 103 35).toNatClampNeg = w + 1 := by
    have z := mE_123 (I := px_u I 103 39 (I 103 39 - 1)) (I2 := yC2 I) (o := 20) (v := I 126 (I 103 39 - 1).toNatClampNeg + 1) rfl
    rw [i35, ← hw] at z
    exact z
  have cb : ∀ b, 124 ≤ b → yC2 I b = I b := fun b hb => (mE_b (I := px_u I 103 39 (I 103 39 - 1)) rfl (by omega) (by omega) (by omega)).trans (ib b (by omega))
  have cf : ∀ k, k ≠ 35 → k ≠ 39 → yC2 I 103 k = I 103 k := fun k k1 k2 => (mE_f (I := px_u I 103 39 (I 103 39 - 1)) rfl k1).trans (px_u_at_ne k2)
  have c39 : yC2 I 103 39 = I 103 39 - 1 := (mE_f (I := px_u I 103 39 (I 103 39 - 1)) rfl (by decide)).trans px_u_at
  have c35 : yC2 I 103 35 = I 103 35 + 1 := (mE_35 (I := px_u I 103 39 (I 103 39 - 1)) rfl).trans (by rw [i35])
  have j39 : J 103 39 = I 103 39 - 1 := by subst hJ; simp [px_ur]; exact c39
  have j71 : J 103 71 = I 103 71 := by subst hJ; simp [px_ur]; exact cf 71 (by decide) (by decide)
  have j35 : J 103 35 = I 103 35 + 1 := by subst hJ; simp [px_ur]; exact c35
  have j124 : J 124 = I 124 := by rw [← cb 124 (by decide)]; subst hJ; funext j; simp [px_ur]
  have j125 : J 125 = I 125 := by rw [← cb 125 (by decide)]; subst hJ; funext j; simp [px_ur]
  have j126 : J 126 = I 126 := by rw [← cb 126 (by decide)]; subst hJ; funext j; simp [px_ur]
  have j128 : J 128 = I 128 := by rw [← cb 128 (by decide)]; subst hJ; funext j; simp [px_ur]
  have j127 : ∀ q : Int32, J 127 q.toNatClampNeg = px_u I 127 (I 103 39 - 1).toNatClampNeg s 127 q.toNatClampNeg := by
    intro q
    have : J 127 q.toNatClampNeg = px_u (yC2 I) 127 (I 103 39 - 1).toNatClampNeg s 127 q.toNatClampNeg := by subst hJ; simp [px_ur]
    rw [this, px_ur, px_ur, cb 127 (by decide)]
  have op1 : 0 ≤ I 103 39 - 1 := by grind
  have z := nSt.clR (o2 := fun j => J 122 j.toNatClampNeg) (v2 := fun j => J 123 j.toNatClampNeg) (sb2 := fun j => J 127 j.toNatClampNeg) h hN h0 hw hd (fun q q1 q2 q3 => by
    have l := l122 q q1 (by grind)
    refine ⟨?_, ?_⟩
    · show J 122 _ = _
      rw [e122, px_uJ q1 w1.1 q3]; exact l.1
    · show J 123 _ = _
      rw [e123, px_uJ q1 w1.1 q3]; exact l.2) (by show J 122 _ = 20; rw [e122, px_uJ hf w1.1 (by grind)]; exact n122) (by show J 123 _ = _; rw [e123, px_uJ hf w1.1 (by grind)]; exact n123) (by
    show (¬ I 127 _ = 0 ∧ J 122 _ = 8 ∧ J 123 _ = I 123 _) ∨ (I 127 _ = 0 ∧ J 122 _ = 23 ∧ J 123 _ = _)
    rw [e122, e123, px_u_at, px_u_at]
    by_cases c : I 127 (I 103 39).toNatClampNeg = 0
    · rw [if_pos c, if_pos c]; exact Or.inr ⟨c, rfl, rfl⟩
    · rw [if_neg c, if_neg c]; exact Or.inl ⟨c, rfl, (l122 w w1.1 (by grind)).2⟩) (fun q q1 q2 => by
    show J 127 _ = I 127 _
    rw [j127, px_uJ q1 op1 (by grind)]) (by
    show (J 127 _ = 0 ∨ J 127 _ = 1) ∧ (J 127 _ = 0 ↔ I 127 _ = 0 ∧ I 127 _ = 0)
    rw [j127, px_u_at]
    exact ⟨hs1, hs⟩)
  unfold nSI
  rw [j124, j125, j126, j128, j39, j71, j35]
  exact ⟨_, z⟩
theorem nSI.zero {I : px_I} (h39 : I 103 39 = 0) (h : ∀ l : Int32, 0 ≤ l → l ≤ 7 → I 124 l.toNatClampNeg = -1) (G : zG) (hG : G.1 0 = []) : nSI I (fun _ => False) 0 G := by
  have hn := mNd_in (fun j => I 124 j.toNatClampNeg)
  unfold nSI
  rw [h39]
  refine ⟨⟨by decide, by decide⟩, ⟨by decide, by decide⟩, fun j hj => hj.elim, fun q q1 q2 => by grind, fun p q p1 p2 p3 => by grind, fun q q1 q2 => ?_, fun l l1 l2 l3 => ?_⟩
  · have hq : q = 0 := by grind
    subst hq
    rw [if_pos rfl, if_pos rfl, hG]
    exact ⟨fun z => absurd z (by decide), mRx.nil (by grind)⟩
  · have := h l l1 l2
    grind
