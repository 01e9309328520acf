/-! the same by numbers -/
def kSI (w : Nat) (I : px_I) (N : Nat) (G : zG) : Prop := kSt (fun j => I (w + 1) j.toNatClampNeg) (fun j => I (w + 2) j.toNatClampNeg) (fun j => I 80 j.toNatClampNeg) (fun j => I 81 j.toNatClampNeg) (fun j => I 82 j.toNatClampNeg) (fun j => I 83 j.toNatClampNeg) (fun j => I 84 j.toNatClampNeg) (I 76 7) (I 76 8) (I w 2) N G.1 G.2.1 G.2.2
theorem kSI.same {w : Nat} {I J : px_I} {N : Nat} {G : zG} (hw : w = 77 ∨ 147 ≤ w) (h : kSI w I N G) (hb : ∀ b, b ≠ 76 → J b = I b) (h7 : J 76 7 = I 76 7) (h8 : J 76 8 = I 76 8) : kSI w J N G := by
  unfold kSI at *
  rw [hb (w + 1) (by omega), hb (w + 2) (by omega), hb 80 (by decide), hb 81 (by decide), hb 82 (by decide), hb 83 (by decide), hb 84 (by decide), h7, h8, hb w (by omega)]
  exact h
theorem kSI.nx {w : Nat} {I : px_I} {N : Nat} {G : zG} (hw : w = 77 ∨ 147 ≤ w) (h : kSI w I N G) : kSI w (xNx I) N G := h.same hw (fun b hb => xNx_r hb) (xNx_o (by omega)) (xNx_o (by omega))
/-- an order is written -/
theorem cAdd_is {w : Nat} {I J : px_I} {o v : Int32} (hJ : J = cAdd I w o v) (h0 : 0 ≤ I w 2) (h : I w 2 < 200) : (∀ b, b ≠ w → b ≠ w + 1 → b ≠ w + 2 → J b = I b) ∧ J w 2 = I w 2 + 1 ∧ J (w + 1) (I w 2).toNatClampNeg = o ∧ J (w + 2) (I w 2).toNatClampNeg = v ∧ ∀ j : Int32, 0 ≤ j → ¬ j = I w 2 → J (w + 1) j.toNatClampNeg = I (w + 1) j.toNatClampNeg ∧ J (w + 2) j.toNatClampNeg = I (w + 2) j.toNatClampNeg := by
  have e : J = px_u (px_u (px_u I (w + 1) (I w 2).toNatClampNeg o) (w + 2) (I w 2).toNatClampNeg v) w 2 (I w 2 + 1) := by rw [hJ]; unfold cAdd; exact if_pos h
  subst e
  refine ⟨fun b h1 h2 h3 => by rw [px_u_ne h1, px_u_ne h3, px_u_ne h2], px_u_at, ?_, ?_, fun j j0 j1 => ⟨?_, ?_⟩⟩
  · rw [px_u_ne (by omega), px_u_ne (by omega), px_u_at]
  · rw [px_u_ne (by omega), px_u_at]
  · rw [px_u_ne (by omega), px_u_ne (by omega), px_uJ j0 h0 j1]
  · rw [px_u_ne (by omega), px_uJ j0 h0 j1, px_u_ne (by omega)]
theorem xAS_is {I : px_I} {m : Int32} (hd : 0 ≤ I 76 7 ∧ I 76 7 ≤ 8) : xAS I m = px_u I 82 (I 76 7).toNatClampNeg (cMn (I 82 (I 76 7).toNatClampNeg + m) 5001) := if_pos hd
theorem kSI.add1 {w : Nat} {I J : px_I} {N : Nat} {G : zG} {o x : Int32} (hw : w = 77 ∨ 147 ≤ w) (h : kSI w I N G) (hz : I w 2 < 200) (ho : 0 ≤ o ∧ o ≤ 5) (hJ : J = xAS (cAdd I w o x) 1) : kSI w J N (gAd G.1 (I 76 7) [(o + 1, x)], G.2) ∧ J w 2 = I w 2 + 1 ∧ J 76 = I 76 := by
  have hop := h.1
  obtain ⟨a1, a2, a3, a4, a5⟩ := cAdd_is (J := cAdd I w o x) rfl h.2.1.1 hz
  have f := fun b (q1 : 76 ≤ b) (q2 : b ≤ 84) (q3 : b < 77 ∨ 79 < b) => a1 b (by omega) (by omega) (by omega)
  have f76 := f 76 (by decide) (by decide) (by decide)
  have f82 := f 82 (by decide) (by decide) (by decide)
  have hA : J = px_u (cAdd I w o x) 82 (I 76 7).toNatClampNeg (cMn (I 82 (I 76 7).toNatClampNeg + 1) 5001) := by
    rw [hJ, xAS_is (by rw [f76]; exact hop), f76, f82]
  have jb : ∀ b, b ≠ 82 → J b = cAdd I w o x b := fun b hb => by rw [hA, px_u_ne hb]
  refine ⟨?_, by rw [jb w (by omega)]; exact a2, by rw [jb 76 (by decide)]; exact f76⟩
  have z := kSt.stp (w := o) (x := x) (k2 := fun j => J (w + 1) j.toNatClampNeg) (v2 := fun j => J (w + 2) j.toNatClampNeg) (sS2 := fun j => J 82 j.toNatClampNeg) h hz (fun j j0 j1 => by
    have := a5 j j0 (by grind)
    rw [jb (w + 1) (by omega), jb (w + 2) (by omega)]
    exact this) ho (by show J (w + 1) _ = _; rw [jb (w + 1) (by omega)]; exact a3) (by show J (w + 2) _ = _; rw [jb (w + 2) (by omega)]; exact a4) (fun q q1 q2 => by
    show J 82 _ = I 82 _
    rw [hA, px_uJ q1 hop.1 (by grind), f82]) (by show J 82 _ = _; rw [hA, px_u_at])
  unfold kSI
  rw [jb w (by omega), a2, jb 76 (by decide), f76, jb 80 (by decide), jb 81 (by decide), jb 83 (by decide), jb 84 (by decide), f 80 (by decide) (by decide) (by decide), f 81 (by decide) (by decide) (by decide), f 83 (by decide) (by decide) (by decide), f 84 (by decide) (by decide) (by decide)]
  exact z
theorem kSI.addC {w : Nat} {I J : px_I} {N : Nat} {G : zG} {l : Int32} (hw : w = 77 ∨ 147 ≤ w) (h : kSI w I N G) (hz : I w 2 < 200) (hl : 0 ≤ l ∧ l ≤ 7) (hp : 0 < I 84 l.toNatClampNeg) (hJ : J = xAS (cAdd I w 8 (I 83 l.toNatClampNeg)) (cAdd I w 8 (I 83 l.toNatClampNeg) 84 l.toNatClampNeg)) : kSI w J N (gAd G.1 (I 76 7) (G.2.1 l), G.2) ∧ J w 2 = I w 2 + 1 ∧ J 76 = I 76 := by
  have hop := h.1
  obtain ⟨a1, a2, a3, a4, a5⟩ := cAdd_is (J := cAdd I w 8 (I 83 l.toNatClampNeg)) rfl h.2.1.1 hz
  have f := fun b (q1 : 76 ≤ b) (q2 : b ≤ 84) (q3 : b < 77 ∨ 79 < b) => a1 b (by omega) (by omega) (by omega)
  have f76 := f 76 (by decide) (by decide) (by decide)
  have f82 := f 82 (by decide) (by decide) (by decide)
  have hA : J = px_u (cAdd I w 8 (I 83 l.toNatClampNeg)) 82 (I 76 7).toNatClampNeg (cMn (I 82 (I 76 7).toNatClampNeg + I 84 l.toNatClampNeg) 5001) := by
    rw [hJ, xAS_is (by rw [f76]; exact hop), f76, f82, f 84 (by decide) (by decide) (by decide)]
  have jb : ∀ b, b ≠ 82 → J b = cAdd I w 8 (I 83 l.toNatClampNeg) b := fun b hb => by rw [hA, px_u_ne hb]
  refine ⟨?_, by rw [jb w (by omega)]; exact a2, by rw [jb 76 (by decide)]; exact f76⟩
  have z := kSt.cal (l := l) (k2 := fun j => J (w + 1) j.toNatClampNeg) (v2 := fun j => J (w + 2) j.toNatClampNeg) (sS2 := fun j => J 82 j.toNatClampNeg) h hz (fun j j0 j1 => by
    have := a5 j j0 (by grind)
    rw [jb (w + 1) (by omega), jb (w + 2) (by omega)]
    exact this) hl hp (by show J (w + 1) _ = _; rw [jb (w + 1) (by omega)]; exact a3) (by show J (w + 2) _ = _; rw [jb (w + 2) (by omega)]; exact a4) (fun q q1 q2 => by
    show J 82 _ = I 82 _
    rw [hA, px_uJ q1 hop.1 (by grind), f82]) (by show J 82 _ = _; rw [hA, px_u_at])
  unfold kSI
  rw [jb w (by omega), a2, jb 76 (by decide), f76, jb 80 (by decide), jb 81 (by decide), jb 83 (by decide), jb 84 (by decide), f 80 (by decide) (by decide) (by decide), f 81 (by decide) (by decide) (by decide), f 83 (by decide) (by decide) (by decide), f 84 (by decide) (by decide) (by decide)]
  exact z
/-- a block is opened; what is written behind is given by words -/
theorem kSI.opn {w : Nat} {I J K : px_I} {N : Nat} {G : zG} {t l : Int32} (hw : w = 77 ∨ 147 ≤ w) (h : kSI w I N G) (h8 : I 76 7 < 8) (hz : I w 2 < 200) (hJ : J = xOB w (px_u I 76 8 l) t)
    (hc : (l = I 76 8 ∧ (1 ≤ t ∧ t ≤ 99) ∧ ((1 < t ∧ K = cAdd J w 6 t) ∨ (t = 1 ∧ K = J))) ∨ (I 76 7 = 0 ∧ t = 1 ∧ (0 ≤ l ∧ l ≤ 7) ∧ I 84 l.toNatClampNeg = -1 ∧ K = cAdd J w 10 0)) : kSI w K N (gN G.1 (I 76 7 + 1), G.2.1, gT G.2.2 (I 76 7 + 1) t) ∧ K w 2 ≤ I w 2 + 1 ∧ K 76 7 = I 76 7 + 1 := by
  have hop := h.1
  have hsz := h.2.1
  have h9 : 0 ≤ I 76 7 + 1 := by grind
  have e7 : px_u I 76 8 l 76 7 = I 76 7 := px_u_at_ne (by decide)
  have ew : px_u I 76 8 l w 2 = I w 2 := by rw [px_u_ne (by omega)]
  have hJ2 : J = px_u (px_u (px_u (px_u (px_u I 76 8 l) 76 7 (I 76 7 + 1)) 80 (I 76 7 + 1).toNatClampNeg (I w 2)) 81 (I 76 7 + 1).toNatClampNeg t) 82 (I 76 7 + 1).toNatClampNeg 0 := by
    rw [hJ]
    unfold xOB
    rw [e7, ew, if_pos h8]
  have jb : ∀ b, b ≠ 76 → b ≠ 80 → b ≠ 81 → b ≠ 82 → J b = I b := fun b q1 q2 q3 q4 => by rw [hJ2, px_u_ne q4, px_u_ne q3, px_u_ne q2, px_u_ne q1, px_u_ne q1]
  have jw : J w 2 = I w 2 := by rw [jb w (by omega) (by omega) (by omega) (by omega)]
  have j7 : J 76 7 = I 76 7 + 1 := by rw [hJ2]; simp [px_ur]
  have j8 : J 76 8 = l := by rw [hJ2]; simp [px_ur]
  have j80 : ∀ q : Int32, J 80 q.toNatClampNeg = px_u I 80 (I 76 7 + 1).toNatClampNeg (I w 2) 80 q.toNatClampNeg := fun q => by rw [hJ2]; simp [px_ur]
  have j81 : ∀ q : Int32, J 81 q.toNatClampNeg = px_u I 81 (I 76 7 + 1).toNatClampNeg t 81 q.toNatClampNeg := fun q => by rw [hJ2]; simp [px_ur]
  have j82 : ∀ q : Int32, J 82 q.toNatClampNeg = px_u I 82 (I 76 7 + 1).toNatClampNeg 0 82 q.toNatClampNeg := fun q => by rw [hJ2]; simp [px_ur]
  -- what is written
  have hK : (∀ b, 76 ≤ b → b ≤ 84 → (b < 77 ∨ 79 < b) → K b = J b) ∧ (∀ j : Int32, 0 ≤ j → j < I w 2 → K (w + 1) j.toNatClampNeg = I (w + 1) j.toNatClampNeg ∧ K (w + 2) j.toNatClampNeg = I (w + 2) j.toNatClampNeg) ∧ K w 2 ≤ I w 2 + 1 ∧
      ((l = I 76 8 ∧ (1 ≤ t ∧ t ≤ 99) ∧ ((1 < t ∧ K w 2 = I w 2 + 1 ∧ K (w + 1) (I w 2).toNatClampNeg = 6 ∧ K (w + 2) (I w 2).toNatClampNeg = t) ∨ (t = 1 ∧ K w 2 = I w 2))) ∨ (I 76 7 = 0 ∧ t = 1 ∧ (0 ≤ l ∧ l ≤ 7) ∧ I 84 l.toNatClampNeg = -1 ∧ K w 2 = I w 2 + 1 ∧ K (w + 1) (I w 2).toNatClampNeg = 10)) := by
    have jw1 := jb (w + 1) (by omega) (by omega) (by omega) (by omega)
    have jw2 := jb (w + 2) (by omega) (by omega) (by omega) (by omega)
    rcases hc with ⟨c1, c2, ⟨c3, c4⟩ | ⟨c3, c4⟩⟩ | ⟨c1, c2, c3, c4, c5⟩
    · obtain ⟨a1, a2, a3, a4, a5⟩ := cAdd_is c4 (by rw [jw]; exact hsz.1) (by rw [jw]; exact hz)
      rw [jw] at a2 a3 a4 a5
      refine ⟨fun b q1 q2 q3 => a1 b (by omega) (by omega) (by omega), fun j q1 q2 => ?_, by rw [a2]; exact Int32.le_refl _, Or.inl ⟨c1, c2, Or.inl ⟨c3, a2, a3, a4⟩⟩⟩
      have := a5 j q1 (by grind)
      rw [jw1, jw2] at this
      exact this
    · subst c4
      exact ⟨fun _ _ _ _ => rfl, fun j _ _ => by rw [jw1, jw2]; exact ⟨rfl, rfl⟩, by rw [jw]; grind, Or.inl ⟨c1, c2, Or.inr ⟨c3, jw⟩⟩⟩
    · obtain ⟨a1, a2, a3, a4, a5⟩ := cAdd_is c5 (by rw [jw]; exact hsz.1) (by rw [jw]; exact hz)
      rw [jw] at a2 a3 a4 a5
      refine ⟨fun b q1 q2 q3 => a1 b (by omega) (by omega) (by omega), fun j q1 q2 => ?_, by rw [a2]; exact Int32.le_refl _, Or.inr ⟨c1, c2, c3, c4, a2, a3⟩⟩
      have := a5 j q1 (by grind)
      rw [jw1, jw2] at this
      exact this
  obtain ⟨k1, k2, k3, k4⟩ := hK
  have z := kSt.opn (k2 := fun j => K (w + 1) j.toNatClampNeg) (v2 := fun j => K (w + 2) j.toNatClampNeg) (bS2 := fun j => J 80 j.toNatClampNeg) (bT2 := fun j => J 81 j.toNatClampNeg) (sS2 := fun j => J 82 j.toNatClampNeg) (sz2 := K w 2) (lt2 := l) (x := t) h h8 (by grind) k2 (fun q q1 q2 => by
    refine ⟨?_, ?_, ?_⟩
    · show J 80 _ = I 80 _
      rw [j80, px_uJ q1 h9 q2]
    · show J 81 _ = I 81 _
      rw [j81, px_uJ q1 h9 q2]
    · show J 82 _ = I 82 _
      rw [j82, px_uJ q1 h9 q2]) ⟨by show J 80 _ = _; rw [j80, px_u_at], by show J 81 _ = _; rw [j81, px_u_at], by show J 82 _ = _; rw [j82, px_u_at]⟩ k4
  refine ⟨?_, k3, by rw [k1 76 (by decide) (by decide) (by decide)]; exact j7⟩
  unfold kSI
  rw [k1 76 (by decide) (by decide) (by decide), k1 80 (by decide) (by decide) (by decide), k1 81 (by decide) (by decide) (by decide), k1 82 (by decide) (by decide) (by decide), k1 83 (by decide) (by decide) (by decide), k1 84 (by decide) (by decide) (by decide), j7, j8, jb 83 (by decide) (by decide) (by decide) (by decide), jb 84 (by decide) (by decide) (by decide) (by decide)]
  exact z
