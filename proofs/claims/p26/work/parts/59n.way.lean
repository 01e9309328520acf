/-! a byte of four, by shifts and by cutting down -/
theorem zt_and (v : Int32) : (v &&& 255).toInt = v.toInt % 256 := by
  have h1 : (v &&& 255).toBitVec.toNat = v.toBitVec.toNat % 256 := by
    rw [Int32.toBitVec_and, BitVec.toNat_and]
    exact Nat.and_two_pow_sub_one_eq_mod _ 8
  have h2 : (v &&& 255).toInt = ((v &&& 255).toBitVec.toNat : Int) := by
    show (v &&& 255).toBitVec.toInt = _
    rw [BitVec.toInt_eq_toNat_of_lt]
    omega
  have h3 : v.toInt = if 2 * v.toBitVec.toNat < 4294967296 then (v.toBitVec.toNat : Int) else (v.toBitVec.toNat : Int) - 4294967296 := by
    show v.toBitVec.toInt = _
    rw [BitVec.toInt_eq_toNat_cond]
    rfl
  rw [h2, h1, h3]
  split <;> omega
theorem zt_sh (x : Int32) : (x >>> (24 : Int32)).toInt = x.toInt / 16777216 ∧ (x >>> (16 : Int32)).toInt = x.toInt / 65536 ∧ (x >>> (8 : Int32)).toInt = x.toInt / 256 := by
  have k : ∀ (s : Int32) (n : Nat), (s.toBitVec.smod 32).toNat = n → (x >>> s).toInt = x.toInt / (2 ^ n : Nat) := fun s n h => by
    show (x >>> s).toBitVec.toInt = _
    rw [Int32.toBitVec_shiftRight]
    unfold BitVec.sshiftRight'
    rw [h, BitVec.toInt_sshiftRight, Int.shiftRight_eq_div_pow]
    rfl
  exact ⟨k 24 24 (by decide), k 16 16 (by decide), k 8 8 (by decide)⟩
theorem zt_ush (x : Int32) (s : UInt32) (n : Nat) (h : (s.toBitVec % 32).toNat = n) (hn : n = 24 ∨ n = 16 ∨ n = 8 ∨ n = 0) : ((x.toUInt32 >>> s).toInt32 &&& 255).toInt = (x.toInt / (2 ^ n : Nat)) % 256 := by
  rw [zt_and]
  have h1 : (x.toUInt32 >>> s).toInt32.toBitVec.toNat = x.toBitVec.toNat / 2 ^ n := by
    show (x.toUInt32 >>> s).toBitVec.toNat = _
    rw [UInt32.toBitVec_shiftRight]
    show (x.toBitVec >>> (s.toBitVec % 32)).toNat = _
    rw [BitVec.ushiftRight_eq', h, BitVec.toNat_ushiftRight, Nat.shiftRight_eq_div_pow]
  have h2 : (x.toUInt32 >>> s).toInt32.toInt = if 2 * (x.toUInt32 >>> s).toInt32.toBitVec.toNat < 4294967296 then ((x.toUInt32 >>> s).toInt32.toBitVec.toNat : Int) else ((x.toUInt32 >>> s).toInt32.toBitVec.toNat : Int) - 4294967296 := by
    show (x.toUInt32 >>> s).toInt32.toBitVec.toInt = _
    rw [BitVec.toInt_eq_toNat_cond]
    rfl
  have h3 : x.toInt = if 2 * x.toBitVec.toNat < 4294967296 then (x.toBitVec.toNat : Int) else (x.toBitVec.toNat : Int) - 4294967296 := by
    show x.toBitVec.toInt = _
    rw [BitVec.toInt_eq_toNat_cond]
    rfl
  rw [h2, h1, h3]
  rcases hn with rfl | rfl | rfl | rfl <;> simp only [show (2 : Nat) ^ 24 = 16777216 by decide, show (2 : Nat) ^ 16 = 65536 by decide, show (2 : Nat) ^ 8 = 256 by decide, show (2 : Nat) ^ 0 = 1 by decide] <;> split <;> split <;> omega
theorem zt_mB (b : Int32) : (mB b).toInt = if b.toInt % 256 < 128 then b.toInt % 256 else b.toInt % 256 - 256 := by
  unfold mB
  rw [Int8.toInt_toInt32, Int32.toInt_toInt8, Int8.toInt_toInt32, Int32.toInt_toInt8]
  rw [show (2 : Nat) ^ 8 = 256 by decide] 
  rw [Int.bmod_bmod]
  rw [Int.bmod_def]
  split <;> split <;> omega
theorem zt_nb {a b : Int32} (ha : a.toInt = b.toInt % 256) : nb a = nb (mB b) := by
  have hm := zt_mB b
  have a0 : 0 ≤ a ∧ a < 128 ↔ b.toInt % 256 < 128 := by
    rw [Int32.le_iff_toInt_le, Int32.lt_iff_toInt_lt, ha, show (0 : Int32).toInt = 0 by decide, show (128 : Int32).toInt = 128 by decide]
    omega
  have m0 : 0 ≤ mB b ∧ mB b < 128 ↔ b.toInt % 256 < 128 := by
    rw [Int32.le_iff_toInt_le, Int32.lt_iff_toInt_lt, hm, show (0 : Int32).toInt = 0 by decide, show (128 : Int32).toInt = 128 by decide]
    split <;> omega
  unfold nb
  by_cases c : b.toInt % 256 < 128
  · rw [if_pos (a0.mpr c), if_pos (m0.mpr c), ← Int32.toInt_inj, ha, hm, if_pos c]
  · rw [if_neg (fun q => c (a0.mp q)), if_neg (fun q => c (m0.mp q))]
theorem zt_byte (x : Int32) : nb (cByte x 24) = nb (mB (x >>> (24 &&& 31))) ∧ nb (cByte x (24 + -8)) = nb (mB (x >>> (16 &&& 31))) ∧ nb (cByte x (24 + -8 + -8)) = nb (mB (x >>> (8 &&& 31))) ∧ nb (cByte x (24 + -8 + -8 + -8)) = nb (mB x) := by
  obtain ⟨s1, s2, s3⟩ := zt_sh x
  refine ⟨zt_nb ?_, zt_nb ?_, zt_nb ?_, zt_nb ?_⟩
  · rw [show (24 : Int32) &&& 31 = 24 by decide, s1]
    exact zt_ush x _ 24 (by decide) (by decide)
  · rw [show (16 : Int32) &&& 31 = 16 by decide, s2]
    exact zt_ush x _ 16 (by decide) (by decide)
  · rw [show (8 : Int32) &&& 31 = 8 by decide, s3]
    exact zt_ush x _ 8 (by decide) (by decide)
  · have := zt_ush x ((24 + -8 + -8 + -8 : Int32).toUInt32 &&& Int32.toUInt32 31) 0 (by decide) (by decide)
    rw [show ((2 ^ 0 : Nat) : Int) = 1 by decide, Int.ediv_one] at this
    exact this
theorem zFeed {I J : px_I} {x : Int32} (h5 : I 70 5 = J 103 25) (h : ∀ j : Nat, nb (I 71 j) = nb (J 121 j)) : cApp I x 70 5 = mPut J x 103 25 ∧ ∀ j : Nat, nb (cApp I x 71 j) = nb (mPut J x 121 j) := by
  obtain ⟨b1, b2, b3, b4⟩ := zt_byte x
  refine ⟨by rw [cApp_5, mPut_25, h5], fun j => ?_⟩
  have a71 : ∀ (K : px_I) (b : Int32) (j : Nat), cAp K b 71 j = if j = (K 70 5).toNatClampNeg then b else K 71 j := fun K b j => by unfold cAp; simp [px_ur]
  unfold cApp
  rw [a71, a71, a71, a71, cAp_5, cAp_5, cAp_5, h5]
  have e1 : J 103 25 + 1 + 1 = J 103 25 + 2 := by grind
  have e2 : J 103 25 + 2 + 1 = J 103 25 + 3 := by grind
  rw [e1, e2]
  unfold mPut
  rw [px_u_ne (by decide), px_ur, if_pos rfl]
  by_cases c4 : j = (J 103 25 + 3).toNatClampNeg
  · rw [if_pos c4, if_pos c4]; exact b4
  rw [if_neg c4, if_neg c4, px_ur, if_pos rfl]
  by_cases c3 : j = (J 103 25 + 2).toNatClampNeg
  · rw [if_pos c3, if_pos c3]; exact b3
  rw [if_neg c3, if_neg c3, px_ur, if_pos rfl]
  by_cases c2 : j = (J 103 25 + 1).toNatClampNeg
  · rw [if_pos c2, if_pos c2]; exact b2
  rw [if_neg c2, if_neg c2, px_ur, if_pos rfl]
  by_cases c1 : j = (J 103 25).toNatClampNeg
  · rw [if_pos c1, if_pos c1]; exact b1
  rw [if_neg c1, if_neg c1]
  exact h j
/-! both ways come to the same -/
def zr0 : zS := (0, 0, -1, 0, fun _ => false)
/-- the reference's way -/
theorem yWay.A {I I2 : px_I} {w r : Int32} (h : yWay I I2 w r) : ∃ z, Zr (byR (yW0 I)) (nR (yW0 I)) zr0 z ∧ ((z.1 = 0 ∧ r = z.2.2.2.2.2.1 ∧ I2 103 33 = 0 ∧ I2 103 34 = -1 ∧ ∀ k, I2 129 k = px_u I 129 w.toNatClampNeg 1 129 k) ∨ (1 ≤ z.1 ∧ r = -1 ∧ I2 103 33 = z.1 ∧ (I2 103 34).toNatClampNeg = z.2.1 ∧ 0 ≤ I2 103 34 ∧ ∀ k, I2 129 k = I 129 k)) := by
  obtain ⟨Ia, Ib, Ic, ⟨i1, i2, i3⟩, n1, l1, fr, e1⟩ := h
  obtain ⟨m1, m2, m3, m4⟩ := id n1
  have i121 : Ia 121 = I 121 := funext fun j => (i3 121 j (Or.inl (by decide)) (fun q => absurd q.1 (by decide))).trans (by unfold yW0; simp [px_ur])
  have w121 : yW0 I 121 = I 121 := by unfold yW0; funext j; simp [px_ur]
  have eb : byR Ia = byR (yW0 I) := by unfold byR; rw [i1, i121, w121]
  have en : nR Ia = nR (yW0 I) := by unfold nR; rw [i1]
  have a27 : Ia 103 27 = 0 := by rw [i1]; unfold yW0; simp [px_ur]
  have f26 : Ib 103 26 = Ia 103 26 := m1.f 26 (by decide)
  have hT : yT (byR (yW0 I)) (nR (yW0 I)) Ib 0 := by
    rw [eb, en, a27, xz0] at m4
    refine ⟨m4, ?_, ?_, m3.1.1⟩
    · rw [← eb]; unfold byR; rw [f26, m1.o 121 (by decide)]
    · rw [← en]; unfold nR; rw [f26]
  have hS : yS Ib 0 (-1) 0 (fun _ => false) := by
    refine ⟨?_, ?_, ?_, by decide, fun _ => rfl, by decide, fun q => absurd q (by decide), fun q => absurd rfl q, fun q q1 q2 => absurd (Int32.lt_of_le_of_lt q1 q2) (by decide), fun l hl => ?_, ?_⟩
    · rw [m1.f 31 (by decide), i1]; unfold yW0; simp [px_ur]
    · rw [m1.f 39 (by decide), i1]; unfold yW0; simp [px_ur]
    · rw [m1.f 72 (by decide), i1]; unfold yW0; simp [px_ur]
    · have e := i2 (Int32.ofNat l)
      have t : (Int32.ofNat l).toInt = l := Int32.toInt_ofNat_of_lt (by omega)
      have l0 : (0 : Int32) ≤ Int32.ofNat l := Int32.le_iff_toInt_le.mpr (by rw [t, show (0 : Int32).toInt = 0 by decide]; omega)
      have l8 : Int32.ofNat l < 8 := Int32.lt_iff_toInt_lt.mpr (by rw [t, show (8 : Int32).toInt = 8 by decide]; omega)
      have ln : (Int32.ofNat l).toNatClampNeg = l := by have := xnat l0; omega
      have e := e l0 l8
      rw [ln] at e
      rw [m1.o 124 (by decide), e]
      exact ⟨fun q => absurd q Bool.false_ne_true, fun q => absurd q (by decide)⟩
    · rw [m1.f 32 (by decide), i1]; unfold yW0; simp [px_ur]
  obtain ⟨z, z1, z2⟩ := l1.A hT hS
  have c129 : ∀ k, Ic 129 k = I 129 k := fun k => (fr 129 k (Or.inr (by decide)) (fun q => absurd q.1 (by decide))).trans (by unfold yW0; simp [px_ur])
  refine ⟨z, z1, ?_⟩
  unfold yE1 at e1
  rcases z2 with ⟨a1, a2, a3, a4⟩ | ⟨a1, a2, a3, a4⟩
  · rcases e1 with ⟨b1, -⟩ | ⟨-, b2, J, b3, rfl⟩
    · rw [a2] at b1; exact absurd b1 (by decide)
    · have j103 : J 103 = mE (yE0 Ic) 22 0 103 := b3.2.2 103 (by decide) (by decide)
      have j129 : J 129 = mE (yE0 Ic) 22 0 129 := b3.2.2 129 (by decide) (by decide)
      refine Or.inl ⟨a1, ?_, ?_, ?_, fun k => ?_⟩
      · rw [b2, ← a4]; unfold yE0; simp [px_ur]
      · rw [px_u_ne (by decide), j103, mE_f rfl (by decide)]; unfold yE0; simp [px_ur]; exact a2
      · rw [px_u_ne (by decide), j103, mE_f rfl (by decide)]; unfold yE0; simp [px_ur]; exact a3
      · rw [px_ur, if_pos rfl, px_ur, if_pos rfl]
        by_cases e : k = w.toNatClampNeg
        · rw [if_pos e, if_pos e]
        · rw [if_neg e, if_neg e, j129, mE_b rfl (by decide) (by decide) (by decide)]
          unfold yE0
          rw [px_u_ne (by decide), px_u_ne (by decide)]
          exact c129 k
  · rcases e1 with ⟨b1, b2, rfl⟩ | ⟨b1, -⟩
    · refine Or.inr ⟨a1, b2, ?_, ?_, ?_, fun k => ?_⟩
      · unfold yE0; simp [px_ur]; exact a2
      · unfold yE0; simp [px_ur]; exact a3
      · unfold yE0; simp [px_ur]; exact a4
      · unfold yE0
        rw [px_u_ne (by decide), px_u_ne (by decide)]
        exact c129 k
    · rw [a2] at b1
      exact absurd (show 0 < z.1 by grind) b1
/-- what a way says, in the class and in the reference -/
def qWb (i : Int32) (I : px_I) (x : Int32) (I2 : px_I) : Prop := (¬ (0 ≤ i ∧ i < 6) ∧ x = -1 ∧ I2 76 14 = I 76 14 ∧ I2 76 15 = I 76 15) ∨ ((0 ≤ i ∧ i < 6) ∧ ∃ z, Zr (byC I) (nC I) zr0 z ∧ ((z.1 = 0 ∧ x = z.2.2.2.2.2.1 ∧ I2 76 14 = 0 ∧ I2 76 15 = -1) ∨ (1 ≤ z.1 ∧ x = -1 ∧ I2 76 14 = z.1 ∧ (I2 76 15).toNatClampNeg = z.2.1 ∧ 0 ≤ I2 76 15)))
def qWk (w : Int32) (I : px_I) (r : Int32) (I2 : px_I) : Prop := (¬ (0 ≤ w ∧ w ≤ 5) ∧ r = -1 ∧ I2 = I) ∨ ((0 ≤ w ∧ w ≤ 5) ∧ ∃ z, Zr (byR (yW0 I)) (nR (yW0 I)) zr0 z ∧ ((z.1 = 0 ∧ r = z.2.2.2.2.2.1 ∧ I2 103 33 = 0 ∧ I2 103 34 = -1 ∧ ∀ k, I2 129 k = px_u I 129 w.toNatClampNeg 1 129 k) ∨ (1 ≤ z.1 ∧ r = -1 ∧ I2 103 33 = z.1 ∧ (I2 103 34).toNatClampNeg = z.2.1 ∧ 0 ≤ I2 103 34 ∧ ∀ k, I2 129 k = I 129 k)))
theorem zBy {I J : px_I} (h5 : I 70 5 = J 103 25) (h : ∀ j : Nat, nb (I 71 j) = nb (J 121 j)) : byC I = byR (yW0 J) ∧ nC I = nR (yW0 J) := by
  have e26 : yW0 J 103 26 = J 103 25 := by unfold yW0; simp [px_ur]
  have e121 : yW0 J 121 = J 121 := by unfold yW0; funext j; simp [px_ur]
  refine ⟨?_, ?_⟩
  · funext i
    unfold byC byR
    rw [e26, e121, h5, h i]
  · unfold nC nR
    rw [e26, h5]
theorem qW_eq {i : Int32} {I I2 J J2 : px_I} {x y : Int32} (h5 : I 70 5 = J 103 25) (h : ∀ j : Nat, nb (I 71 j) = nb (J 121 j)) (f1 : I 76 14 = J 103 33) (f2 : I 76 15 = J 103 34) (p : qWb i I x I2) (q : qWk i J y J2) : x = y ∧ I2 76 14 = J2 103 33 ∧ I2 76 15 = J2 103 34 := by
  obtain ⟨e1, e2⟩ := zBy h5 h
  rcases p with ⟨a, a1, a2, a3⟩ | ⟨a, z, a1, a2⟩
  · rcases q with ⟨b, b1, rfl⟩ | ⟨b, -⟩
    · exact ⟨by rw [a1, b1], by rw [a2, f1], by rw [a3, f2]⟩
    · exact absurd (by grind) a
  · rcases q with ⟨b, -⟩ | ⟨b, z', b1, b2⟩
    · exact absurd (by grind) b
    · rw [e1, e2] at a1
      have := Zr.det a1 b1
      subst this
      rcases a2 with ⟨c1, c2, c3, c4⟩ | ⟨c1, c2, c3, c4, c5⟩
      · rcases b2 with ⟨d1, d2, d3, d4, -⟩ | ⟨d1, -⟩
        · exact ⟨by rw [c2, d2], by rw [c3, d3], by rw [c4, d4]⟩
        · rw [c1] at d1; exact absurd d1 (by decide)
      · rcases b2 with ⟨d1, -⟩ | ⟨d1, d2, d3, d4, d5, -⟩
        · rw [d1] at c1; exact absurd c1 (by decide)
        · refine ⟨by rw [c2, d2], by rw [c3, d3], ?_⟩
          have x1 := xnat c5
          have x2 := xnat d5
          rw [← Int32.toInt_inj]; omega
theorem qW_x {i : Int32} {I I2 J J2 : px_I} {x y : Int32} (h5 : I 70 5 = J 103 25) (h : ∀ j : Nat, nb (I 71 j) = nb (J 121 j)) (p : qWb i I x I2) (q : qWk i J y J2) : x = y := by
  obtain ⟨e1, e2⟩ := zBy h5 h
  rcases p with ⟨a, a1, a2, a3⟩ | ⟨a, z, a1, a2⟩
  · rcases q with ⟨b, b1, rfl⟩ | ⟨b, -⟩
    · rw [a1, b1]
    · exact absurd (by grind) a
  · rcases q with ⟨b, -⟩ | ⟨b, z', b1, b2⟩
    · exact absurd (by grind) b
    · rw [e1, e2] at a1
      have := Zr.det a1 b1
      subst this
      rcases a2 with ⟨c1, c2, c3, c4⟩ | ⟨c1, c2, c3, c4, c5⟩
      · rcases b2 with ⟨d1, d2, d3, d4, -⟩ | ⟨d1, -⟩
        · rw [c2, d2]
        · rw [c1] at d1; exact absurd d1 (by decide)
      · rcases b2 with ⟨d1, -⟩ | ⟨d1, d2, d3, d4, d5, -⟩
        · rw [d1] at c1; exact absurd c1 (by decide)
        · rw [c2, d2]
