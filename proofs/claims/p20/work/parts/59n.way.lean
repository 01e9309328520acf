/-! a byte of four, by shifts and by cutting down -/
theorem zt_and (v : Int32) : (v &&& 255).toInt = v.toInt % 256 := by
  have h1 : (v &&& 255).toBitVec.toNat = v.toBitVec.toNat % 256 := by
    rw [Int32.toBitVec_and, BitVec.toNat_and]
    exact Nat.and_two_pow_sub_one_eq_mod _ 8
  have h2 : (v &&& 255).toInt = ((v &&& 255).toBitVec.toNat : Int) := by
    show (v &&& 255).toBitVec.toInt = _
    rw [BitVec.toInt_eq_toNat_of_lt]
    omega
  have h3 : v.toInt = if 2 * v.toBitVec.toNat < 4294967296 then (v.toBitVec.toNat : Int) else (v.toBitVec.toNat : Int) - 4294967296 := by
    show v.toBitVec.toInt = _
    rw [BitVec.toInt_eq_toNat_cond]
    rfl
  rw [h2, h1, h3]
  split <;> omega
theorem zt_sh (x : Int32) : (x >>> (24 : Int32)).toInt = x.toInt / 16777216 ∧ (x >>> (16 : Int32)).toInt = x.toInt / 65536 ∧ (x >>> (8 : Int32)).toInt = x.toInt / 256 := by
  have k : ∀ (s : Int32) (n : Nat), (s.toBitVec.smod 32).toNat = n → (x >>> s).toInt = x.toInt / (2 ^ n : Nat) := fun s n h => by
    show (x >>> s).toBitVec.toInt = _
    rw [Int32.toBitVec_shiftRight]
    unfold BitVec.sshiftRight'
    rw [h, BitVec.toInt_sshiftRight, Int.shiftRight_eq_div_pow]
    rfl
  exact ⟨k 24 24 (by decide), k 16 16 (by decide), k 8 8 (by decide)⟩
theorem zt_ush (x : Int32) (s : UInt32) (n : Nat) (h : (s.toBitVec % 32).toNat = n) (hn : n = 24 ∨ n = 16 ∨ n = 8 ∨ n = 0) : ((x.toUInt32 >>> s).toInt32 &&& 255).toInt = (x.toInt / (2 ^ n : Nat)) % 256 := by
  rw [zt_and]
  have h1 : (x.toUInt32 >>> s).toInt32.toBitVec.toNat = x.toBitVec.toNat / 2 ^ n := by
    show (x.toUInt32 >>> s).toBitVec.toNat = _
    rw [UInt32.toBitVec_shiftRight]
    show (x.toBitVec >>> (s.toBitVec % 32)).toNat = _
    rw [BitVec.ushiftRight_eq', h, BitVec.toNat_ushiftRight, Nat.shiftRight_eq_div_pow]
  have h2 : (x.toUInt32 >>> s).toInt32.toInt = if 2 * (x.toUInt32 >>> s).toInt32.toBitVec.toNat < 4294967296 then ((x.toUInt32 >>> s).toInt32.toBitVec.toNat : Int) else ((x.toUInt32 >>> s).toInt32.toBitVec.toNat : Int) - 4294967296 := by
    show (x.toUInt32 >>> s).toInt32.toBitVec.toInt = _
    rw [BitVec.toInt_eq_toNat_cond]
    rfl
  have h3 : x.toInt = if 2 * x.toBitVec.toNat < 4294967296 then (x.toBitVec.toNat : Int) else (x.toBitVec.toNat : Int) - 4294967296 := by
    show x.toBitVec.toInt = _
    rw [BitVec.toInt_eq_toNat_cond]
    rfl
  rw [h2, h1, h3]
  rcases hn with rfl | rfl | rfl | rfl <;> simp only [show (2 : Nat) ^ 24 = 16777216 by decide, show (2 : Nat) ^ 16 = 65536 by decide, show (2 : Nat) ^ 8 = 256 by decide, show (2 : Nat) ^ 0 = 1 by decide] <;> split <;> split <;> omega
theorem zt_mB (b : Int32) : (mB b).toInt = if b.toInt % 256 < 128 then b.toInt % 256 else b.toInt % 256 - 256 := by
  unfold mB
  rw [Int8.toInt_toInt32, Int32.toInt_toInt8, Int8.toInt_toInt32, Int32.toInt_toInt8]
  rw [show (2 : Nat) ^ 8 = 256 by decide] 
  rw [Int.bmod_bmod]
  rw [Int.bmod_def]
  split <;> split <;> omega
theorem zt_nb {a b : Int32} (ha : a.toInt = b.toInt % 256) : nb a = nb (mB b) := by
  have hm := zt_mB b
  have a0 : 0 ≤ a ∧ a < 128 ↔ b.toInt % 256 < 128 := by
    rw [Int32.le_iff_toInt_le, Int32.lt_iff_toInt_lt, ha, show (0 : Int32).toInt = 0 by decide, show (128 : Int32).toInt = 128 by decide]
    omega
  have m0 : 0 ≤ mB b ∧ mB b < 128 ↔ b.toInt % 256 < 128 := by
    rw [Int32.le_iff_toInt_le, Int32.lt_iff_toInt_lt, hm, show (0 : Int32).toInt = 0 by decide, show (128 : Int32).toInt = 128 by decide]
    split <;> omega
  unfold nb
  by_cases c : b.toInt % 256 < 128
  · rw [if_pos (a0.mpr c), if_pos (m0.mpr c), ← Int32.toInt_inj, ha, hm, if_pos c]
  · rw [if_neg (fun q => c (a0.mp q)), if_neg (fun q => c (m0.mp q))]
theorem zt_byte (x : Int32) : nb (cByte x 24) = nb (mB (x >>> (24 &&& 31))) ∧ nb (cByte x (24 + -8)) = nb (mB (x >>> (16 &&& 31))) ∧ nb (cByte x (24 + -8 + -8)) = nb (mB (x >>> (8 &&& 31))) ∧ nb (cByte x (24 + -8 + -8 + -8)) = nb (mB x) := by
  obtain ⟨s1, s2, s3⟩ := zt_sh x
  refine ⟨zt_nb ?_, zt_nb ?_, zt_nb ?_, zt_nb ?_⟩
  · rw [show (24 : Int32) &&& 31 = 24 by decide, s1]
    exact zt_ush x _ 24 (by decide) (by decide)
  · rw [show (16 : Int32) &&& 31 = 16 by decide, s2]
    exact zt_ush x _ 16 (by decide) (by decide)
  · rw [show (8 : Int32) &&& 31 = 8 by decide, s3]
    exact zt_ush x _ 8 (by decide) (by decide)
  · have := zt_ush x ((24 + -8 + -8 + -8 : Int32).toUInt32 &&& Int32.toUInt32 31) 0 (by decide) (by decide)
    rw [show ((2 ^ 0 : Nat) : Int) = 1 by decide, Int.ediv_one] at this
    exact this
theorem zFeed {I J : px_I} {x : Int32} (h5 : I 70 5 = J 103 25) (h : ∀ j : Nat, nb (I 71 j) = nb (J 121 j)) : cApp I x 70 5 = mPut J x 103 25 ∧ ∀ j : Nat, nb (cApp I x 71 j) = nb (mPut J x 121 j) := by
  obtain ⟨b1, b2, b3, b4⟩ := zt_byte x
  refine ⟨by rw [cApp_5, mPut_25, h5], fun j => ?_⟩
  have a71 : ∀ (K : px_I) (b : Int32) (j : Nat), cAp K b 71 j = if j = (K 70 5).toNatClampNeg then b else K 71 j := fun K b j => by unfold cAp; simp [px_ur]
  unfold cApp
  rw [a71, a71, a71, a71, cAp_5, cAp_5, cAp_5, h5]
  have e1 : J 103 25 + 1 + 1 = J 103 25 + 2 := by grind
  have e2 : J 103 25 + 2 + 1 = J 103 25 + 3 := by grind
  rw [e1, e2]
  unfold mPut
  rw [px_u_ne (by decide), px_ur, if_pos rfl]
  by_cases c4 : j = (J 103 25 + 3).toNatClampNeg
  · rw [if_pos c4, if_pos c4]; exact b4
  rw [if_neg c4, if_neg c4, px_ur, if_pos rfl]
  by_cases c3 : j = (J 103 25 + 2).toNatClampNeg
  · rw [if_pos c3, if_pos c3]; exact b3
  rw [if_neg c3, if_neg c3, px_ur, if_pos rfl]
  by_cases c2 : j = (J 103 25 + 1).toNatClampNeg
  · rw [if_pos c2, if_pos c2]; exact b2
  rw [if_neg c2, if_neg c2, px_ur, if_pos rfl]
  by_cases c1 : j = (J 103 25).toNatClampNeg
  · rw [if_pos c1, if_pos c1]; exact b1
  rw [if_neg c1, if_neg c1]
  exact h j
/-! both ways come to the same -/
def zr0 : zS := (0, 0, -1, 0, fun _ => false)
/-- the reference's way -/
theorem yWay.A {I I2 : px_I} {w r : Int32} (h : yWay I I2 w r) : ∃ z, Zr (byR (yW0 I)) (nR (yW0 I)) zr0 z ∧ ((z.1 = 0 ∧ r = z.2.2.2.2.2.1 ∧ I2 103 33 = 0 ∧ I2 103 34 = -1 ∧ ∀ k, I2 129 k = px_u I 129 w.toNatClampNeg 1 129 k) ∨ (1 ≤ z.1 ∧ r = -1 ∧ I2 103 33 = z.1 ∧ (I2 103 34).toNatClampNeg = z.2.1 ∧ 0 ≤ I2 103 34 ∧ ∀ k, I2 129 k = I 129 k)) := by
  obtain ⟨Ia, Ib, Ic, ⟨i1, i2, i3⟩, n1, l1, fr, e1⟩ := h
  obtain ⟨m1, m2, m3, m4⟩ := id n1
  have i121 : Ia 121 = I 121 := funext fun j => (i3 121 j (Or.inl (by decide)) (fun q => absurd q.1 (by decide))).trans (by unfold yW0; simp [px_ur])
  have w121 : yW0 I 121 = I 121 := by unfold yW0; funext j; simp [px_ur]
  have eb : byR Ia = byR (yW0 I) := by unfold byR; rw [i1, i121, w121]
  have en : nR Ia = nR (yW0 I) := by unfold nR; rw [i1]
  have a27 : Ia 103 27 = 0 := by rw [i1]; unfold yW0; simp [px_ur]
  have f26 : Ib 103 26 = Ia 103 26 := m1.f 26 (by decide)
  have hT : yT (byR (yW0 I)) (nR (yW0 I)) Ib 0 := by
    rw [eb, en, a27, xz0] at m4
    refine ⟨m4, ?_, ?_, m3.1.1⟩
    · rw [← eb]; unfold byR; rw [f26, m1.o 121 (by decide)]
    · rw [← en]; unfold nR; rw [f26]
  have hS : yS Ib 0 (-1) 0 (fun _ => false) := by
    refine ⟨?_, ?_, ?_, by decide, fun _ => rfl, by decide, fun q => absurd q (by decide), fun q => absurd rfl q, fun q q1 q2 => absurd (Int32.lt_of_le_of_lt q1 q2) (by decide), fun l hl => ?_, ?_⟩
    · rw [m1.f 31 (by decide), i1]; unfold yW0; simp [px_ur]
    · rw [m1.f 39 (by decide), i1]; unfold yW0; simp [px_ur]
    · rw [m1.f 72 (by decide), i1]; unfold yW0; simp [px_ur]
    · have e := i2 (Int32.ofNat l)
      have t : (Int32.ofNat l).toInt = l := Int32.toInt_ofNat_of_lt (by omega)
      have l0 : (0 : Int32) ≤ Int32.ofNat l := Int32.le_iff_toInt_le.mpr (by rw [t, show (0 : Int32).toInt = 0 by decide]; omega)
      have l8 : Int32.ofNat l < 8 := Int32.lt_iff_toInt_lt.mpr (by rw [t, show (8 : Int32).toInt = 8 by decide]; omega)
      have ln : (Int32.ofNat l).toNatClampNeg = l := by have := xnat l0; omega
      have e := e l0 l8
      rw [ln] at e
      rw [m1.o 124 (by decide), e]
      exact ⟨fun q => absurd q Bool.false_ne_true, fun q => absurd q (by decide)⟩
    · rw [m1.f 32 (by decide), i1]; unfold yW0; simp [px_ur]
  obtain ⟨z, z1, z2⟩ := l1.A hT hS
  have c129 : ∀ k, Ic 129 k = I 129 k := fun k => (fr 129 k (Or.inr (by decide)) (fun q => absurd q.1 (by decide))).trans (by unfold yW0; simp [px_ur])
  refine ⟨z, z1, ?_⟩
  unfold yE1 at e1
  rcases z2 with ⟨a1, a2, a3, a4⟩ | ⟨a1, a2, a3, a4⟩
  · rcases e1 with ⟨b1, -⟩ | ⟨-, b2, J, b3, rfl⟩
    · rw [a2] at b1; exact absurd b1 (by decide)
    · have j103 : J 103 = mE (yE0 Ic) 22 0 103 := b3.2.2 103 (by decide) (by decide)
      have j129 : J 129 = mE (yE0 Ic) 22 0 129 := b3.2.2 129 (by decide) (by decide)
      refine Or.inl ⟨a1, ?_, ?_, ?_, fun k => ?_⟩
      · rw [b2, ← a4]; unfold yE0; simp [px_ur]
      · rw [px_u_ne (by decide), j103, mE_f rfl (by decide)]; unfold yE0; simp [px_ur]; exact a2
      · rw [px_u_ne (by decide), j103, mE_f rfl (by decide)]; unfold yE0; simp [px_ur]; exact a3
      · rw [px_ur, if_pos rfl, px_ur, if_pos rfl]
        by_cases e : k = w.toNatClampNeg
        · rw [if_pos e, if_pos e]
        · rw [if_neg e, if_neg e, j129, mE_b rfl (by decide) (by decide) (by decide)]
          unfold yE0
          rw [px_u_ne (by decide), px_u_ne (by decide)]
          exact c129 k
  · rcases e1 with ⟨b1, b2, rfl⟩ | ⟨b1, -⟩
    · refine Or.inr ⟨a1, b2, ?_, ?_, ?_, fun k => ?_⟩
      · unfold yE0; simp [px_ur]; exact a2
      · unfold yE0; simp [px_ur]; exact a3
      · unfold yE0; simp [px_ur]; exact a4
      · unfold yE0
        rw [px_u_ne (by decide), px_u_ne (by decide)]
        exact c129 k
    · rw [a2] at b1
      exact absurd (show 0 < z.1 by grind) b1
/-- what a way says, in the class and in the reference -/
def qWb (i : Int32) (I : px_I) (x : Int32) (I2 : px_I) : Prop := (¬ (0 ≤ i ∧ i < 6) ∧ x = -1 ∧ I2 76 14 = I 76 14 ∧ I2 76 15 = I 76 15) ∨ ((0 ≤ i ∧ i < 6) ∧ ∃ z, Zr (byC I) (nC I) zr0 z ∧ ((z.1 = 0 ∧ x = z.2.2.2.2.2.1 ∧ I2 76 14 = 0 ∧ I2 76 15 = -1) ∨ (1 ≤ z.1 ∧ x = -1 ∧ I2 76 14 = z.1 ∧ (I2 76 15).toNatClampNeg = z.2.1 ∧ 0 ≤ I2 76 15)))
def qWk (w : Int32) (I : px_I) (r : Int32) (I2 : px_I) : Prop := (¬ (0 ≤ w ∧ w ≤ 5) ∧ r = -1 ∧ I2 = I) ∨ ((0 ≤ w ∧ w ≤ 5) ∧ ∃ z, Zr (byR (yW0 I)) (nR (yW0 I)) zr0 z ∧ ((z.1 = 0 ∧ r = z.2.2.2.2.2.1 ∧ I2 103 33 = 0 ∧ I2 103 34 = -1 ∧ ∀ k, I2 129 k = px_u I 129 w.toNatClampNeg 1 129 k) ∨ (1 ≤ z.1 ∧ r = -1 ∧ I2 103 33 = z.1 ∧ (I2 103 34).toNatClampNeg = z.2.1 ∧ 0 ≤ I2 103 34 ∧ ∀ k, I2 129 k = I 129 k)))
theorem zBy {I J : px_I} (h5 : I 70 5 = J 103 25) (h : ∀ j : Nat, nb (I 71 j) = nb (J 121 j)) : byC I = byR (yW0 J) ∧ nC I = nR (yW0 J) := by
  have e26 : yW0 J 103 26 = J 103 25 := by unfold yW0; simp [px_ur]
  have e121 : yW0 J 121 = J 121 := by unfold yW0; funext j; simp [px_ur]
  refine ⟨?_, ?_⟩
  · funext i
    unfold byC byR
    rw [e26, e121, h5, h i]
  · unfold nC nR
    rw [e26, h5]
theorem qW_eq {i : Int32} {I I2 J J2 : px_I} {x y : Int32} (h5 : I 70 5 = J 103 25) (h : ∀ j : Nat, nb (I 71 j) = nb (J 121 j)) (f1 : I 76 14 = J 103 33) (f2 : I 76 15 = J 103 34) (p : qWb i I x I2) (q : qWk i J y J2) : x = y ∧ I2 76 14 = J2 103 33 ∧ I2 76 15 = J2 103 34 := by
  obtain ⟨e1, e2⟩ := zBy h5 h
  rcases p with ⟨a, a1, a2, a3⟩ | ⟨a, z, a1, a2⟩
  · rcases q with ⟨b, b1, rfl⟩ | ⟨b, -⟩
    · exact ⟨by rw [a1, b1], by rw [a2, f1], by rw [a3, f2]⟩
    · exact absurd (by grind) a
  · rcases q with ⟨b, -⟩ | ⟨b, z', b1, b2⟩
    · exact absurd (by grind) b
    · rw [e1, e2] at a1
      have := Zr.det a1 b1
      subst this
      rcases a2 with ⟨c1, c2, c3, c4⟩ | ⟨c1, c2, c3, c4, c5⟩
      · rcases b2 with ⟨d1, d2, d3, d4, -⟩ | ⟨d1, -⟩
        · exact ⟨by rw [c2, d2], by rw [c3, d3], by rw [c4, d4]⟩
        · rw [c1] at d1; exact absurd d1 (by decide)
      · rcases b2 with ⟨d1, -⟩ | ⟨d1, d2, d3, d4, d5, -⟩
        · rw [d1] at c1; exact absurd c1 (by decide)
        · refine ⟨by rw [c2, d2], by rw [c3, d3], ?_⟩
          have x1 := xnat c5
          have x2 := xnat d5
          rw [← Int32.toInt_inj]; omega
theorem qW_x {i : Int32} {I I2 J J2 : px_I} {x y : Int32} (h5 : I 70 5 = J 103 25) (h : ∀ j : Nat, nb (I 71 j) = nb (J 121 j)) (p : qWb i I x I2) (q : qWk i J y J2) : x = y := by
  obtain ⟨e1, e2⟩ := zBy h5 h
  rcases p with ⟨a, a1, a2, a3⟩ | ⟨a, z, a1, a2⟩
  · rcases q with ⟨b, b1, rfl⟩ | ⟨b, -⟩
    · rw [a1, b1]
    · exact absurd (by grind) a
  · rcases q with ⟨b, -⟩ | ⟨b, z', b1, b2⟩
    · exact absurd (by grind) b
    · rw [e1, e2] at a1
      have := Zr.det a1 b1
      subst this
      rcases a2 with ⟨c1, c2, c3, c4⟩ | ⟨c1, c2, c3, c4, c5⟩
      · rcases b2 with ⟨d1, d2, d3, d4, -⟩ | ⟨d1, -⟩
        · rw [c2, d2]
        · rw [c1] at d1; exact absurd d1 (by decide)
      · rcases b2 with ⟨d1, -⟩ | ⟨d1, d2, d3, d4, d5, -⟩
        · rw [d1] at c1; exact absurd c1 (by decide)
        · rw [c2, d2]

/-! the class's way, whole -/
theorem c_rep89 {n w : Nat} {I : px_I} {L : px_L} {R : px_R} {i : Int32} {r : Option Value} {n2 : Nat} {I2 : px_I} {L2 : px_L} {R2 : px_R} (hn : 147 ≤ n) (h : ∃ I1, cKF I I1 ∧ ((∃ x, R 89 i.toNatClampNeg = some x ∧ r = some (.ref x) ∧ n2 = n ∧ I2 = I1 ∧ L2 = L ∧ R2 = px_u R 89 i.toNatClampNeg (some w)) ∨ (R 89 i.toNatClampNeg = none ∧ r = some (.ref n) ∧ n2 = n + 3 ∧ mkW n I1 L (px_u R 89 i.toNatClampNeg (some w)) I2 L2 R2))) : ∀ k, R2 89 k = px_u R 89 i.toNatClampNeg (some w) 89 k := by
  obtain ⟨I1, -, h2⟩ := h
  rcases h2 with ⟨x, -, -, -, -, -, rfl⟩ | ⟨-, -, -, hm⟩
  · exact fun _ => rfl
  · intro k
    rw [(hm.1 89 (by omega) (by omega) (by omega)).2.2]
def xWy (w : Nat) (i : Int32) (I : px_I) (R : px_R) (r : Option Value) (I2 : px_I) (R2 : px_R) : Prop := (¬ (0 ≤ i ∧ i < 6) ∧ r = some (.int (-1)) ∧ I2 = I ∧ R2 = R) ∨ ((0 ≤ i ∧ i < 6) ∧ ∃ J, xRead w I J ∧ (∀ j, I2 76 j = J 76 j) ∧ ((J 76 14 = 0 ∧ r = some (.int (J 76 13)) ∧ ∀ k, R2 89 k = px_u R 89 i.toNatClampNeg (some w) 89 k) ∨ (¬ J 76 14 = 0 ∧ r = some (.int (-1)) ∧ R2 = R)))

set_option maxRecDepth 100000 in
theorem bs_way1 {n : Nat} {I : px_I} {L : px_L} {R : px_R} {w : Nat} (hg : px_G n (cRW R w)) (hw : cWay n w) (i : Int32) {k : Nat} (hn : n = 147 + 3 * k) (hT : cTold n I (cRW R w)) (hl : 0 ≤ I 70 5 ∧ I 70 5 ≤ 400) (hd : cRd w I) : px_K M_X11_way [.ref 32, .int i] n I L (cRW R w) (fun r n2 I2 L2 R2 => ((∃ x, r = some (.int x)) ∧ kI n2 I2 R2 ∧ n ≤ n2 ∧ kWF I I2 ∧ (∀ b, b < 147 → L2 b = L b) ∧ kRF (cRW R w) R2 ∧ I2 70 5 = (if 0 ≤ i ∧ i < 6 then 0 else I 70 5)) ∧ xWy w i I (cRW R w) r I2 R2) := by
  refine px_of (plainFor_of_name np_RX11) (fun _ _ _ => trivial) rfl ?_
  refine px_cVP (ci := 5) rfl q_X11_way_0 hg rfl trivial lk_11_181 nm_X5_hasPlace (c_hasPlace hg _) rfl rfl (px_lit hg rfl) rfl rfl rfl ⟨rfl, rfl⟩ ?_
  intro x5 h5
  refine px_ne rfl q_X11_way_8 hg rfl trivial (fun c8 => ?_) (fun c8 => ?_)
  · replace h5 := px_bt h5 c8
    refine px_cVS (ci := 4) rfl q_X11_way_13 hg rfl trivial lk_11_184 nm_X4_read (xs_read hg hw hl hd) rfl rfl (px_lit hg rfl) rfl rfl rfl ⟨rfl, rfl⟩ ?_
    intro x17 I17 L17 h17
    obtain ⟨h17a, rfl, h17c, h17d, h17e, h17f⟩ := h17
    have hT5 : cTold n (px_u I17 70 5 0) (cRW R w) := fun j hj y hy => by
      obtain ⟨t1, t2, t3⟩ := h17d.told h17c hw hT j hj y hy
      exact ⟨t1, t2, t3.eq (px_u_ne (by omega)) (px_u_ne (by omega))⟩
    have hv5 : cWv (px_u I17 70 5 0) w := by
      have hz : cWv I17 w := ⟨h17c.op.2.2.2.2.2.2.2.2.1, h17c.op.2.2.2.2.2.2.2.2.2⟩
      have h0 := h17c.1
      exact hz.eq (px_u_ne (by omega)) (px_u_ne (by omega))
    have x5 : ∀ j, (px_u I17 70 5 0) 76 j = I17 76 j := fun j => by rw [px_u_ne (by decide)]
    refine px_ne rfl q_X11_way_20 hg rfl trivial (fun c30 => ?_) (fun c30 => ?_)
    · refine px_cVG (ci := 5) rfl q_X11_way_35 hg rfl trivial lk_11_192 nm_X5_replace (c_replace hg hn i w h5 hw.1) rfl rfl (px_lit hg rfl) rfl rfl rfl ?_
      intro r51 n51 I51 L51 R51 h51
      have h89 := c_rep89 hg.1 h51
      obtain ⟨d, rfl, hK⟩ := c_rep hn hg hT5 hw h17c.1 hv5 i h5 h51
      have hgS := hg
      have hg : px_G n51 R51 := hK.2.2.1
      refine px_pF (on := 11) (ci := 4) (kf := 1) (idx := 188) rfl (by decide +kernel) (by decide) (px_lit hg rfl) rfl (Or.inl ⟨_, rfl⟩) (Or.inl rfl) ?_
      have hg : px_G n51 (px_u R51 76 1 (some d)) := px_G76 hg
      refine px_ri rfl q_X11_way_57 rfl rfl rfl hg rfl trivial ?_
      exact ⟨wy_c hgS hw h5 h17c h17d hK _, Or.inr ⟨h5, I17, h17e, fun j => (hK.2.2.2.2.2.2.1 76 j (by have := hgS.1; unfold px_nb at this; omega) (by decide)).trans (x5 j), Or.inl ⟨h17f.mp (by grind), by rw [← x5 13, ← hK.2.2.2.2.2.2.1 76 13 (by have := hgS.1; unfold px_nb at this; omega) (by decide)], fun k => by rw [px_u_ne (by decide)]; exact h89 k⟩⟩⟩
    · refine px_ri rfl q_X11_way_33 rfl rfl rfl hg rfl trivial ?_
      exact ⟨wy_b hn hg hw hl h5 h17c h17d hT5 _, Or.inr ⟨h5, I17, h17e, x5, Or.inr ⟨fun z => absurd (h17f.mpr z) (by grind), rfl, rfl⟩⟩⟩
  · replace h5 := px_bf h5 c8
    refine px_ri rfl q_X11_way_11 rfl rfl rfl hg rfl trivial ?_
    exact ⟨wy_a hn hg hw hT hl hd h5 _, Or.inl ⟨h5, rfl, rfl, rfl⟩⟩

theorem bs_way {n : Nat} {I : px_I} {L : px_L} {R : px_R} (h : kI n I R) (i : Int32) : px_K M_X11_way [.ref 32, .int i] n I L R (fun r n2 I2 L2 R2 => ((∃ x, r = some (.int x)) ∧ kI n2 I2 R2 ∧ n ≤ n2 ∧ kWF I I2 ∧ (∀ b, b < 147 → L2 b = L b) ∧ kRF R R2 ∧ I2 70 5 = (if 0 ≤ i ∧ i < 6 then 0 else I 70 5)) ∧ ∃ w, R 76 1 = some w ∧ (w = 77 ∨ 147 ≤ w) ∧ (0 ≤ I 70 5 ∧ I 70 5 ≤ 400) ∧ xWy w i I R r I2 R2) := by
  obtain ⟨⟨k, hn⟩, hg, ⟨w, h76, hw, hd⟩, hT, hl⟩ := h
  have e := cRW_id h76
  have h2 := bs_way1 (R := R) (w := w) (L := L) (by rw [e]; exact hg) hw i hn (by rw [e]; exact hT) hl hd
  rw [e] at h2
  exact px_K.mono h2 (fun r n2 I2 L2 R2 ⟨h3, h4⟩ => ⟨h3, w, h76, hd.1, hl, h4⟩)
theorem xWy.q {w : Nat} {i : Int32} {I I2 : px_I} {R R2 : px_R} {x : Int32} (hw : w = 77 ∨ 147 ≤ w) (hl : 0 ≤ I 70 5 ∧ I 70 5 ≤ 400) (h : xWy w i I R (some (.int x)) I2 R2) : qWb i I x I2 := by
  rcases h with ⟨a, b, rfl, -⟩ | ⟨a, J, b, c, d⟩
  · exact Or.inl ⟨a, Value.int.inj (Option.some.inj b), rfl, rfl⟩
  · obtain ⟨z, z1, z2⟩ := xRead.A hw hl b
    refine Or.inr ⟨a, z, z1, ?_⟩
    rw [c, c]
    rcases z2 with ⟨y1, y2, y3, y4⟩ | ⟨y1, y2, y3, y4⟩
    · rcases d with ⟨-, d2, -⟩ | ⟨d1, -⟩
      · exact Or.inl ⟨y1, (Value.int.inj (Option.some.inj d2)).trans y4, y2, y3⟩
      · exact absurd y2 d1
    · rcases d with ⟨d1, -⟩ | ⟨-, d2, -⟩
      · rw [d1] at y2; rw [← y2] at y1; exact absurd y1 (by decide)
      · exact Or.inr ⟨y1, Value.int.inj (Option.some.inj d2), y2, y3, y4⟩
def wR (i : Int32) (R : px_R) (I2 : px_I) (R2 : px_R) : Prop := (((0 ≤ i ∧ i < 6) ∧ I2 76 14 = 0) ∧ ∃ d, ∀ k, R2 89 k = px_u R 89 i.toNatClampNeg (some d) 89 k) ∨ (¬ ((0 ≤ i ∧ i < 6) ∧ I2 76 14 = 0) ∧ ∀ k, R2 89 k = R 89 k)
theorem xWy.R {w : Nat} {i : Int32} {I I2 : px_I} {R R2 : px_R} {r : Option Value} (h : xWy w i I R r I2 R2) : wR i R I2 R2 := by
  rcases h with ⟨a, -, -, rfl⟩ | ⟨a, J, -, c, d⟩
  · exact Or.inr ⟨fun z => a z.1, fun _ => rfl⟩
  · rcases d with ⟨d1, -, d3⟩ | ⟨d1, -, rfl⟩
    · exact Or.inl ⟨⟨a, (c 14).trans d1⟩, w, d3⟩
    · exact Or.inr ⟨fun z => d1 ((c 14).symm.trans z.2), fun _ => rfl⟩
def pbs_way (i : Int32) (I : px_I) (L : px_L) : Int32 → px_I → px_L → Prop := (fun x I2 L2 => (kWF I I2 ∧ (∀ b, b < 147 → L2 b = L b) ∧ I2 70 5 = (if 0 ≤ i ∧ i < 6 then 0 else I 70 5)) ∧ qWb i I x I2)
def pks_way (w : Int32) (I : px_I) (L : px_L) : Int32 → px_I → px_L → Prop := (fun r I2 L2 => (L2 = L ∧ ((¬ (0 ≤ w ∧ w ≤ 5) ∧ r = -1 ∧ I2 = I) ∨ ((0 ≤ w ∧ w ≤ 5) ∧ mWayPost I I2 w))) ∧ qWk w I r I2)
theorem pbs_way.old {i x : Int32} {I I2 : px_I} {L L2 : px_L} (q : pbs_way i I L x I2 L2) : pb_way i I L x I2 L2 := q.1
theorem pks_way.old {w x : Int32} {I I2 : px_I} {L L2 : px_L} (q : pks_way w I L x I2 L2) : pk_way w I L x I2 L2 := q.1
theorem jbs_way {n : Nat} {I : px_I} {L : px_L} {R : px_R} (hj : jJ n I R) (i : Int32) : px_K M_X11_way [.ref 32, .int i] n I L R (jB n I L (pbs_way i I L)) :=
  px_K.mono (bs_way hj.1 i) (fun r n2 I2 L2 R2 ⟨⟨⟨x, hx⟩, h1, h2, h3, h4, h5, h6⟩, w, w1, w2, w3, w4⟩ => ⟨x, hx, ⟨h1, by
    have s := hj.s
    unfold cSt at *
    rw [h3 33 7 (by omega) (by omega) (by omega) (by omega) (by omega), h3 33 8 (by omega) (by omega) (by omega) (by omega) (by omega)]; exact s, by
    have s := hj.l
    unfold cGal at *
    rw [h3 41 13 (by omega) (by omega) (by omega) (by omega) (by omega), h3 41 15 (by omega) (by omega) (by omega) (by omega) (by omega), h3 55 13 (by omega) (by omega) (by omega) (by omega) (by omega), h3 55 15 (by omega) (by omega) (by omega) (by omega) (by omega)]; exact s, by
    have p := hj.2.2.2.1
    unfold swp at *
    rw [h5 97 1 (by omega) (by omega) (by omega), h5 97 2 (by omega) (by omega) (by omega)]; exact p, hj.m.cells (fun b j hb => h3 b j (by unfold mCell at hb; omega) (by unfold mCell at hb; omega) (by unfold mCell at hb; omega) (by unfold mCell at hb; omega) (by unfold mCell at hb; omega))⟩, h2, ⟨fun b h7 h8 => funext fun j => h3 b j h8 (by omega) (by omega) (by omega) (by omega), fun b h7 h8 => h4 b h8⟩, ⟨h3, h4, h6⟩, by rw [hx] at w4; exact w4.q w2 w3⟩)
theorem jks_way {n : Nat} {I : px_I} {L : px_L} {R : px_R} (hj : jJ n I R) (w : Int32) : px_K M_X12_way [.ref 103, .int w] n I L R (jK n I L R (pks_way w I L)) :=
  jKS (px_KS.mono (ks_way hj.g w hj.m.2.2.2.2.2.2.1 hj.m.2.2.2.2.2.1) (fun r I2 L2 h => by
    obtain ⟨rfl, h⟩ := h
    rcases h with ⟨a1, a2, a3⟩ | ⟨a1, a2, a3⟩
    · exact ⟨⟨rfl, Or.inl ⟨a1, a2, a3⟩⟩, Or.inl ⟨a1, a2, a3⟩⟩
    · exact ⟨⟨rfl, Or.inr ⟨a1, a2⟩⟩, Or.inr ⟨a1, a3.A⟩⟩)) hj (fun x I2 L2 h => by
    replace h := h.1
    obtain ⟨rfl, h⟩ := h
    rcases h with ⟨a1, a2, rfl⟩ | ⟨a1, a2, a3, a4, a5⟩
    · exact ⟨hj.m, fun _ _ => rfl, fun _ _ => rfl⟩
    · obtain ⟨m1, m2, m3, m4, m5, m6, m7, m8⟩ := hj.m
      have o : ∀ z : Nat, z ≠ 103 → (z < 122 ∨ 131 < z) → I2 z = I z := fun z h1 h2 => funext fun j => a2 z j h2 (by omega)
      have q : ∀ j, (j < 25 ∨ 72 < j ∨ (40 ≤ j ∧ j ≤ 70)) → I2 103 j = I 103 j := fun j h1 => a2 103 j (by omega) (by omega)
      exact ⟨⟨m1.k (q 1 (by omega)) (q 2 (by omega)) (o 105 (by omega) (by omega)) (o 106 (by omega) (by omega)), m2.k (o 110 (by omega) (by omega)) (o 111 (by omega) (by omega)) (o 112 (by omega) (by omega)) (o 113 (by omega) (by omega)) (o 114 (by omega) (by omega)), m3.k (o 116 (by omega) (by omega)), m4.k (q 16 (by omega)) (o 117 (by omega) (by omega)) (o 118 (by omega) (by omega)) (o 110 (by omega) (by omega)), m5.k (q 59 (by omega)) (q 60 (by omega)) (q 61 (by omega)) (o 137 (by omega) (by omega)), a4, by rw [a3]; decide, by rw [q 63 (by omega)]; exact m8⟩, fun z hz => o z (by omega) (by omega), fun _ _ => rfl⟩)



set_option maxRecDepth 100000 in
theorem lcs_way {N : Nat} {xs : Nat → Int32} {n cu su : Nat} {I : px_I} {L : px_L} {R : px_R} {Q : px_Q} {i : Int32} (hi : lwI N i) (hcu : cu ≤ 490000) (hsu : su ≤ 6900000) (hj : jJ n I R) (kk : ∀ (x : Int32) (n2 : Nat) I2 L2 R2 (y : Int32) I3 L3, jJ n2 I3 R2 → frB I I2 L L2 → pbs_way (ag xs i 1) I L x I2 L2 → frK I2 I3 L2 L3 → pks_way (ag xs i 1) I2 L2 y I3 L3 → px (M_law N xs) (cu + 3) (su + 404) 1868 (lwL i) [] n2 I3 L3 R2 Q) : px (M_law N xs) cu su 1039 (lwL i) [] n I L R Q := by
  have hg := hj.g
  refine px_b (on := 13) rfl q_law_1039 hg rfl trivial ?_
  refine px_argC q_law_1040 hg hi (by decide) ?_
  refine px_kB q_law_1045 lk_13_93 nm_X11_way (jbs_way hj _) rfl rfl hg rfl (rkL rfl rfl rfl rfl (by omega) (by omega) rfl) ?_
  intro x n2 I2 L2 R2 hj2 f1 p1
  have hg := hj2.g
  refine px_b (on := 13) rfl q_law_1048 hg rfl trivial ?_
  refine px_argC q_law_1050 hg hi (by decide) ?_
  refine px_kK q_law_1055 lk_13_96 nm_X12_way (jks_way hj2 _) rfl rfl hg rfl (rkL rfl rfl rfl rfl (by show cu + 3 ≤ 500000; omega) (by show su + 404 ≤ 7000000; omega) rfl) ?_
  intro y I3 L3 hj3 f2 p2
  have hg := hj3.g
  refine px_b (on := 13) rfl q_law_1058 hg rfl trivial ?_
  exact px_wid (cu2 := cu + 3) (su2 := su + 404) (by show cu + 3 + 0 ≤ cu + 3; omega) (by show su + 404 + 0 ≤ su + 404; omega) (kk x n2 I2 L2 R2 y I3 L3 hj3 f1 p1 f2 p2)
