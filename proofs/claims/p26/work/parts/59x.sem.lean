/-! what stays in its bounds -/
def nice (V : Nat → Int64) : Prop := (∀ k, k < 3 → -100000000 ≤ (V k).toInt ∧ (V k).toInt ≤ 100000000) ∧ (∀ k, 3 ≤ k → k < 7 → 0 ≤ (V k).toInt ∧ (V k).toInt ≤ 100000000) ∧ (0 ≤ (V 7).toInt ∧ (V 7).toInt ≤ 15) ∧ (0 ≤ (V 8).toInt ∧ (V 8).toInt ≤ 5000)
def wide (V : Nat → Int64) : Prop := (∀ k, k < 3 → -3000000000 ≤ (V k).toInt ∧ (V k).toInt ≤ 3000000000) ∧ (∀ k, 3 ≤ k → k < 7 → 0 ≤ (V k).toInt) ∧ (0 ≤ (V 7).toInt ∧ (V 7).toInt ≤ 15) ∧ (0 ≤ (V 8).toInt ∧ (V 8).toInt ≤ 5000)
/-- the tools -/
def tOk (T : Nat → Int32) : Prop := ∀ k, k < 5 → 0 ≤ (T k).toInt ∧ (T k).toInt ≤ 10000
theorem i64_mul {a b : Int64} {A B : Int} (ha : 0 ≤ a.toInt ∧ a.toInt ≤ A) (hb : 0 ≤ b.toInt ∧ b.toInt ≤ B) (h : A * B ≤ 4000000000000000000) : (a * b).toInt = a.toInt * b.toInt ∧ 0 ≤ a.toInt * b.toInt ∧ a.toInt * b.toInt ≤ A * B := by
  have p0 : 0 ≤ a.toInt * b.toInt := Int.mul_nonneg ha.1 hb.1
  have p1 : a.toInt * b.toInt ≤ A * B := Int.mul_le_mul ha.2 hb.2 hb.1 (Int.le_trans ha.1 ha.2)
  refine ⟨?_, p0, p1⟩
  rw [Int64.toInt_mul]
  exact Int.bmod_eq_of_le (by omega) (by omega)
theorem i64_up {a : Int64} {A : Int} {c : Int64} {C : Int} (hC : c.toInt = C) (hc : 2 ≤ C ∧ C ≤ 1000) (ha : 0 ≤ a.toInt ∧ a.toInt ≤ A) (h : A ≤ 4000000000000000000) : 0 ≤ (wUp a c).toInt ∧ (wUp a c).toInt ≤ A := by
  unfold wUp
  have s1 : (a + c).toInt = a.toInt + C := by rw [Int64.toInt_add, hC]; exact Int.bmod_eq_of_le (by omega) (by omega)
  have s2 : (a + c - 1).toInt = a.toInt + C - 1 := by rw [Int64.toInt_sub, s1, show (1 : Int64).toInt = 1 by decide]; exact Int.bmod_eq_of_le (by omega) (by omega)
  have d : ((a + c - 1) / c).toInt = (a.toInt + C - 1) / C := by
    rw [Int64.toInt_div_of_ne_right _ _ (fun q => by rw [q] at hC; rw [← hC] at hc; exact absurd hc.1 (by decide)), s2, hC]
    exact Int.tdiv_eq_ediv_of_nonneg (by omega)
  rw [d]
  refine ⟨Int.ediv_nonneg (by omega) (by omega), ?_⟩
  rcases Int.lt_or_le 0 a.toInt with z | z
  · have := Int.ediv_lt_of_lt_mul (a := a.toInt + C - 1) (b := a.toInt + 1) (c := C) (by omega) (by
      have : a.toInt * 2 ≤ a.toInt * C := Int.mul_le_mul_of_nonneg_left hc.1 (by omega)
      rw [Int.add_mul]
      omega)
    omega
  · have z0 : a.toInt = 0 := by omega
    rw [z0]
    have := Int.ediv_lt_of_lt_mul (a := 0 + C - 1) (b := 1) (c := C) (by omega) (by omega)
    omega
theorem aR_in (x : Int32) : -1000 ≤ (aR x).toInt ∧ (aR x).toInt ≤ 1000 := by
  have q : ∀ y, -1000 ≤ (aQ y).toInt ∧ (aQ y).toInt ≤ 1000 ∧ (0 - aQ y).toInt = -(aQ y).toInt := fun y => by
    unfold aQ
    repeat' split
    all_goals decide
  unfold aR
  split
  · have := q (aH x - aH x / 8 * 8); omega
  · have := q (aH x - aH x / 8 * 8); omega
theorem wAb_in {x : Int32} (h : -1000 ≤ x.toInt ∧ x.toInt ≤ 1000) : 0 ≤ (wAb x).toInt64.toInt ∧ (wAb x).toInt64.toInt ≤ 1000 := by
  rw [Int32.toInt_toInt64]
  unfold wAb
  split
  · rename_i c
    have c2 := Int32.lt_iff_toInt_lt.mp c
    rw [show (0 : Int32).toInt = 0 by decide] at c2
    rw [Int32.toInt_sub, show (0 : Int32).toInt = 0 by decide, Int.bmod_eq_of_le (by omega) (by omega)]
    omega
  · rename_i c
    have c2 := Int32.le_iff_toInt_le.mp (Int32.not_lt.mp c)
    rw [show (0 : Int32).toInt = 0 by decide] at c2
    omega
theorem wMn_in {a b : Int64} (ha : 0 ≤ a.toInt) (hb : 0 ≤ b.toInt) : 0 ≤ (wMn a b).toInt := by
  unfold wMn
  split
  · exact hb
  · exact ha
theorem wide_step {T : Nat → Int32} {V : Nat → Int64} {o v : Int32} (hT : tOk T) (hV : nice V) (hv : 0 ≤ v.toInt ∧ v.toInt ≤ 1000000) (ho : 1 ≤ o ∧ o ≤ 6) (h8 : (V 8).toInt < 5000) : wide (rSt T o v V) ∧ (rSt T o v V 8).toInt = (V 8).toInt + 1 := by
  obtain ⟨v1, v2, v3, v4⟩ := hV
  have e8 : (V 8 + 1).toInt = (V 8).toInt + 1 := by rw [Int64.toInt_add, show (1 : Int64).toInt = 1 by decide]; exact Int.bmod_eq_of_le (by omega) (by omega)
  have a0 := v1 0 (by decide)
  have a1 := v1 1 (by decide)
  have a2 := v1 2 (by decide)
  have a3 := v2 3 (by decide) (by decide)
  have a4 := v2 4 (by decide) (by decide)
  have a5 := v2 5 (by decide) (by decide)
  have a6 := v2 6 (by decide) (by decide)
  have hv64 : 0 ≤ v.toInt64.toInt ∧ v.toInt64.toInt ≤ 1000000 := by rw [Int32.toInt_toInt64]; exact hv
  have t64 : ∀ k, k < 5 → 0 ≤ (T k).toInt64.toInt ∧ (T k).toInt64.toInt ≤ 10000 := fun k hk => by rw [Int32.toInt_toInt64]; exact hT k hk
  have fin : ∀ W : Nat → Int64, (-3000000000 ≤ (W 0).toInt ∧ (W 0).toInt ≤ 3000000000) → (-3000000000 ≤ (W 1).toInt ∧ (W 1).toInt ≤ 3000000000) → (-3000000000 ≤ (W 2).toInt ∧ (W 2).toInt ≤ 3000000000) → 0 ≤ (W 3).toInt → 0 ≤ (W 4).toInt → 0 ≤ (W 5).toInt → 0 ≤ (W 6).toInt → (0 ≤ (W 7).toInt ∧ (W 7).toInt ≤ 15) → W 8 = V 8 + 1 → wide W ∧ (W 8).toInt = (V 8).toInt + 1 := fun W b0 b1 b2 b3 b4 b5 b6 b7 b8 => by
    refine ⟨⟨fun k hk => ?_, fun k k3 k7 => ?_, b7, ?_⟩, by rw [b8, e8]⟩
    · rcases (by omega : k = 0 ∨ k = 1 ∨ k = 2) with rfl | rfl | rfl <;> assumption
    · rcases (by omega : k = 3 ∨ k = 4 ∨ k = 5 ∨ k = 6) with rfl | rfl | rfl | rfl <;> assumption
    · rw [b8, e8]; omega
  have lin : ∀ (a : Int64) (x : Int32), (-100000000 ≤ a.toInt ∧ a.toInt ≤ 100000000) → (-1000 ≤ x.toInt ∧ x.toInt ≤ 1000) → -3000000000 ≤ (a + v.toInt64 * x.toInt64).toInt ∧ (a + v.toInt64 * x.toInt64).toInt ≤ 3000000000 := fun a x ha hx => by
    have m1 : -1000000000 ≤ v.toInt * x.toInt ∧ v.toInt * x.toInt ≤ 1000000000 := by
      have q1 : v.toInt * x.toInt ≤ v.toInt * 1000 := Int.mul_le_mul_of_nonneg_left hx.2 hv.1
      have q2 : v.toInt * (-1000) ≤ v.toInt * x.toInt := Int.mul_le_mul_of_nonneg_left hx.1 hv.1
      omega
    have m2 : (v.toInt64 * x.toInt64).toInt = v.toInt * x.toInt := by
      rw [Int64.toInt_mul, Int32.toInt_toInt64, Int32.toInt_toInt64]
      exact Int.bmod_eq_of_le (by omega) (by omega)
    rw [Int64.toInt_add, m2, Int.bmod_eq_of_le (by omega) (by omega)]
    omega
  have upE : ∀ (a : Int64) (x y : Int32), (0 ≤ a.toInt ∧ a.toInt ≤ 100000000) → (-1000 ≤ x.toInt ∧ x.toInt ≤ 1000) → (-1000 ≤ y.toInt ∧ y.toInt ≤ 1000) → 0 ≤ (a + wUp (wUp (v.toInt64 * (T 0).toInt64) 10 * (wAb x).toInt64 + wUp (v.toInt64 * V 6) 10 * (wAb y).toInt64) 1000).toInt := fun a x y ha hx hy => by
    have m1 := i64_mul (A := 1000000) (B := 10000) hv64 (t64 0 (by decide)) (by decide)
    have u1 := i64_up (c := 10) (C := 10) (A := 1000000 * 10000) (by decide) (by decide) (by rw [m1.1]; exact m1.2) (by decide)
    have m2 := i64_mul (A := 1000000) (B := 100000000) hv64 a6 (by decide)
    have u2 := i64_up (c := 10) (C := 10) (A := 1000000 * 100000000) (by decide) (by decide) (by rw [m2.1]; exact m2.2) (by decide)
    have m3 := i64_mul (A := 1000000 * 10000) (B := 1000) u1 (wAb_in hx) (by decide)
    have m4 := i64_mul (A := 1000000 * 100000000) (B := 1000) u2 (wAb_in hy) (by decide)
    have s1 : (wUp (v.toInt64 * (T 0).toInt64) 10 * (wAb x).toInt64 + wUp (v.toInt64 * V 6) 10 * (wAb y).toInt64).toInt = (wUp (v.toInt64 * (T 0).toInt64) 10).toInt * (wAb x).toInt64.toInt + (wUp (v.toInt64 * V 6) 10).toInt * (wAb y).toInt64.toInt := by
      rw [Int64.toInt_add, m3.1, m4.1]
      exact Int.bmod_eq_of_le (by omega) (by omega)
    have u3 := i64_up (c := 1000) (C := 1000) (A := 1000000 * 10000 * 1000 + 1000000 * 100000000 * 1000) (a := wUp (v.toInt64 * (T 0).toInt64) 10 * (wAb x).toInt64 + wUp (v.toInt64 * V 6) 10 * (wAb y).toInt64) (by decide) (by decide) (by rw [s1]; omega) (by decide)
    rw [Int64.toInt_add, Int.bmod_eq_of_le (by omega) (by omega)]
    omega
  have oc : o = 1 ∨ o = 2 ∨ o = 3 ∨ o = 4 ∨ o = 5 ∨ o = 6 := by grind
  rcases oc with rfl | rfl | rfl | rfl | rfl | rfl
  · refine fin _ ?_ ?_ ?_ ?_ ?_ ?_ ?_ ?_ ?_
    · simp [rSt, rDo, gO, -Int64.toInt_add, -Int64.toInt_sub, -Int64.toInt_mul, -Int64.toInt_div, -Int32.toInt_toInt64]; exact lin _ _ a0 (aR_in _)
    · simp [rSt, rDo, gO, -Int64.toInt_add, -Int64.toInt_sub, -Int64.toInt_mul, -Int64.toInt_div, -Int32.toInt_toInt64]; exact lin _ _ a1 (aR_in _)
    · simp [rSt, rDo, gO, -Int64.toInt_add, -Int64.toInt_sub, -Int64.toInt_mul, -Int64.toInt_div, -Int32.toInt_toInt64]; omega
    · simp [rSt, rDo, gO, -Int64.toInt_add, -Int64.toInt_sub, -Int64.toInt_mul, -Int64.toInt_div, -Int32.toInt_toInt64]; exact upE _ _ _ a3 (aR_in _) (aR_in _)
    · simp [rSt, rDo, gO, -Int64.toInt_add, -Int64.toInt_sub, -Int64.toInt_mul, -Int64.toInt_div, -Int32.toInt_toInt64]; exact upE _ _ _ a4 (aR_in _) (aR_in _)
    · simp [rSt, rDo, gO, -Int64.toInt_add, -Int64.toInt_sub, -Int64.toInt_mul, -Int64.toInt_div, -Int32.toInt_toInt64]
      have m1 := i64_mul (A := 1000000) (B := 10000) hv64 (t64 1 (by decide)) (by decide)
      have u1 := i64_up (c := 10) (C := 10) (A := 1000000 * 10000) (a := v.toInt64 * (T 1).toInt64) (by decide) (by decide) (by rw [m1.1]; exact m1.2) (by decide)
      rw [Int64.toInt_add, Int.bmod_eq_of_le (by omega) (by omega)]
      omega
    · simp [rSt, rDo, gO, -Int64.toInt_add, -Int64.toInt_sub, -Int64.toInt_mul, -Int64.toInt_div, -Int32.toInt_toInt64]; omega
    · simp [rSt, rDo, gO, -Int64.toInt_add, -Int64.toInt_sub, -Int64.toInt_mul, -Int64.toInt_div, -Int32.toInt_toInt64]; exact v3
    · simp [rSt, rDo, gO, -Int64.toInt_add, -Int64.toInt_sub, -Int64.toInt_mul, -Int64.toInt_div, -Int32.toInt_toInt64]
  · refine fin _ ?_ ?_ ?_ ?_ ?_ ?_ ?_ ?_ ?_
    · simp [rSt, rDo, -Int64.toInt_add, -Int64.toInt_sub, -Int64.toInt_mul, -Int64.toInt_div, -Int32.toInt_toInt64]; omega
    · simp [rSt, rDo, -Int64.toInt_add, -Int64.toInt_sub, -Int64.toInt_mul, -Int64.toInt_div, -Int32.toInt_toInt64]; omega
    · simp [rSt, rDo, -Int64.toInt_add, -Int64.toInt_sub, -Int64.toInt_mul, -Int64.toInt_div, -Int32.toInt_toInt64]; omega
    · simp [rSt, rDo, -Int64.toInt_add, -Int64.toInt_sub, -Int64.toInt_mul, -Int64.toInt_div, -Int32.toInt_toInt64]; omega
    · simp [rSt, rDo, -Int64.toInt_add, -Int64.toInt_sub, -Int64.toInt_mul, -Int64.toInt_div, -Int32.toInt_toInt64]; omega
    · simp [rSt, rDo, -Int64.toInt_add, -Int64.toInt_sub, -Int64.toInt_mul, -Int64.toInt_div, -Int32.toInt_toInt64]; omega
    · simp [rSt, rDo, -Int64.toInt_add, -Int64.toInt_sub, -Int64.toInt_mul, -Int64.toInt_div, -Int32.toInt_toInt64]
      have t2 := t64 2 (by decide)
      rw [Int64.toInt_add, Int.bmod_eq_of_le (by omega) (by omega)]
      omega
    · simp [rSt, rDo, -Int64.toInt_add, -Int64.toInt_sub, -Int64.toInt_mul, -Int64.toInt_div, -Int32.toInt_toInt64]
      have s1 : (V 7 + v.toInt64).toInt = (V 7).toInt + v.toInt := by rw [Int64.toInt_add, Int32.toInt_toInt64]; exact Int.bmod_eq_of_le (by omega) (by omega)
      have d : ((V 7 + v.toInt64) / 16).toInt = ((V 7).toInt + v.toInt) / 16 := by
        rw [Int64.toInt_div_of_ne_right _ _ (by decide), s1, show (16 : Int64).toInt = 16 by decide]
        exact Int.tdiv_eq_ediv_of_nonneg (by omega)
      have m : ((V 7 + v.toInt64) / 16 * 16).toInt = ((V 7).toInt + v.toInt) / 16 * 16 := by
        rw [Int64.toInt_mul, d, show (16 : Int64).toInt = 16 by decide, Int.bmod_eq_of_le (by omega) (by omega)]
      rw [Int64.toInt_sub, s1, m, Int.bmod_eq_of_le (by omega) (by omega)]
      omega
    · simp [rSt, rDo, -Int64.toInt_add, -Int64.toInt_sub, -Int64.toInt_mul, -Int64.toInt_div, -Int32.toInt_toInt64]
  · refine fin _ ?_ ?_ ?_ ?_ ?_ ?_ ?_ ?_ ?_
    · simp [rSt, rDo, -Int64.toInt_add, -Int64.toInt_sub, -Int64.toInt_mul, -Int64.toInt_div, -Int32.toInt_toInt64]; omega
    · simp [rSt, rDo, -Int64.toInt_add, -Int64.toInt_sub, -Int64.toInt_mul, -Int64.toInt_div, -Int32.toInt_toInt64]; omega
    · simp [rSt, rDo, -Int64.toInt_add, -Int64.toInt_sub, -Int64.toInt_mul, -Int64.toInt_div, -Int32.toInt_toInt64]
      rw [Int64.toInt_add, Int.bmod_eq_of_le (by omega) (by omega)]
      omega
    · simp [rSt, rDo, -Int64.toInt_add, -Int64.toInt_sub, -Int64.toInt_mul, -Int64.toInt_div, -Int32.toInt_toInt64]; omega
    · simp [rSt, rDo, -Int64.toInt_add, -Int64.toInt_sub, -Int64.toInt_mul, -Int64.toInt_div, -Int32.toInt_toInt64]; omega
    · simp [rSt, rDo, -Int64.toInt_add, -Int64.toInt_sub, -Int64.toInt_mul, -Int64.toInt_div, -Int32.toInt_toInt64]; omega
    · simp [rSt, rDo, -Int64.toInt_add, -Int64.toInt_sub, -Int64.toInt_mul, -Int64.toInt_div, -Int32.toInt_toInt64]; omega
    · simp [rSt, rDo, -Int64.toInt_add, -Int64.toInt_sub, -Int64.toInt_mul, -Int64.toInt_div, -Int32.toInt_toInt64]; exact v3
    · simp [rSt, rDo, -Int64.toInt_add, -Int64.toInt_sub, -Int64.toInt_mul, -Int64.toInt_div, -Int32.toInt_toInt64]
  · refine fin _ ?_ ?_ ?_ ?_ ?_ ?_ ?_ ?_ ?_
    · simp [rSt, rDo, -Int64.toInt_add, -Int64.toInt_sub, -Int64.toInt_mul, -Int64.toInt_div, -Int32.toInt_toInt64]; omega
    · simp [rSt, rDo, -Int64.toInt_add, -Int64.toInt_sub, -Int64.toInt_mul, -Int64.toInt_div, -Int32.toInt_toInt64]; omega
    · simp [rSt, rDo, -Int64.toInt_add, -Int64.toInt_sub, -Int64.toInt_mul, -Int64.toInt_div, -Int32.toInt_toInt64]
      rw [Int64.toInt_sub, Int.bmod_eq_of_le (by omega) (by omega)]
      omega
    · simp [rSt, rDo, -Int64.toInt_add, -Int64.toInt_sub, -Int64.toInt_mul, -Int64.toInt_div, -Int32.toInt_toInt64]; omega
    · simp [rSt, rDo, -Int64.toInt_add, -Int64.toInt_sub, -Int64.toInt_mul, -Int64.toInt_div, -Int32.toInt_toInt64]; omega
    · simp [rSt, rDo, -Int64.toInt_add, -Int64.toInt_sub, -Int64.toInt_mul, -Int64.toInt_div, -Int32.toInt_toInt64]; omega
    · simp [rSt, rDo, -Int64.toInt_add, -Int64.toInt_sub, -Int64.toInt_mul, -Int64.toInt_div, -Int32.toInt_toInt64]; omega
    · simp [rSt, rDo, -Int64.toInt_add, -Int64.toInt_sub, -Int64.toInt_mul, -Int64.toInt_div, -Int32.toInt_toInt64]; exact v3
    · simp [rSt, rDo, -Int64.toInt_add, -Int64.toInt_sub, -Int64.toInt_mul, -Int64.toInt_div, -Int32.toInt_toInt64]
  · refine fin _ ?_ ?_ ?_ ?_ ?_ ?_ ?_ ?_ ?_
    · simp [rSt, rDo, -Int64.toInt_add, -Int64.toInt_sub, -Int64.toInt_mul, -Int64.toInt_div, -Int32.toInt_toInt64]; omega
    · simp [rSt, rDo, -Int64.toInt_add, -Int64.toInt_sub, -Int64.toInt_mul, -Int64.toInt_div, -Int32.toInt_toInt64]; omega
    · simp [rSt, rDo, -Int64.toInt_add, -Int64.toInt_sub, -Int64.toInt_mul, -Int64.toInt_div, -Int32.toInt_toInt64]; omega
    · simp [rSt, rDo, -Int64.toInt_add, -Int64.toInt_sub, -Int64.toInt_mul, -Int64.toInt_div, -Int32.toInt_toInt64]; exact wMn_in a3.1 (t64 3 (by decide)).1
    · simp [rSt, rDo, -Int64.toInt_add, -Int64.toInt_sub, -Int64.toInt_mul, -Int64.toInt_div, -Int32.toInt_toInt64]; exact wMn_in a4.1 (t64 3 (by decide)).1
    · simp [rSt, rDo, -Int64.toInt_add, -Int64.toInt_sub, -Int64.toInt_mul, -Int64.toInt_div, -Int32.toInt_toInt64]; omega
    · simp [rSt, rDo, -Int64.toInt_add, -Int64.toInt_sub, -Int64.toInt_mul, -Int64.toInt_div, -Int32.toInt_toInt64]; exact wMn_in a6.1 (t64 2 (by decide)).1
    · simp [rSt, rDo, -Int64.toInt_add, -Int64.toInt_sub, -Int64.toInt_mul, -Int64.toInt_div, -Int32.toInt_toInt64]; exact v3
    · simp [rSt, rDo, -Int64.toInt_add, -Int64.toInt_sub, -Int64.toInt_mul, -Int64.toInt_div, -Int32.toInt_toInt64]
  · refine fin _ ?_ ?_ ?_ ?_ ?_ ?_ ?_ ?_ ?_
    · simp [rSt, rDo, -Int64.toInt_add, -Int64.toInt_sub, -Int64.toInt_mul, -Int64.toInt_div, -Int32.toInt_toInt64]; omega
    · simp [rSt, rDo, -Int64.toInt_add, -Int64.toInt_sub, -Int64.toInt_mul, -Int64.toInt_div, -Int32.toInt_toInt64]; omega
    · simp [rSt, rDo, -Int64.toInt_add, -Int64.toInt_sub, -Int64.toInt_mul, -Int64.toInt_div, -Int32.toInt_toInt64]; omega
    · simp [rSt, rDo, -Int64.toInt_add, -Int64.toInt_sub, -Int64.toInt_mul, -Int64.toInt_div, -Int32.toInt_toInt64]; omega
    · simp [rSt, rDo, -Int64.toInt_add, -Int64.toInt_sub, -Int64.toInt_mul, -Int64.toInt_div, -Int32.toInt_toInt64]; omega
    · simp [rSt, rDo, -Int64.toInt_add, -Int64.toInt_sub, -Int64.toInt_mul, -Int64.toInt_div, -Int32.toInt_toInt64]; omega
    · simp [rSt, rDo, -Int64.toInt_add, -Int64.toInt_sub, -Int64.toInt_mul, -Int64.toInt_div, -Int32.toInt_toInt64]; exact wMn_in a6.1 (t64 4 (by decide)).1
    · simp [rSt, rDo, -Int64.toInt_add, -Int64.toInt_sub, -Int64.toInt_mul, -Int64.toInt_div, -Int32.toInt_toInt64]; exact v3
    · simp [rSt, rDo, -Int64.toInt_add, -Int64.toInt_sub, -Int64.toInt_mul, -Int64.toInt_div, -Int32.toInt_toInt64]
theorem rBy1_i {V : Nat → Int64} {k : Nat} : rBy1 V k ↔ (100000000 < (V k).toInt ∨ (V k).toInt < -100000000) := by
  unfold rBy1
  rw [Int64.lt_iff_toInt_lt, Int64.lt_iff_toInt_lt, show (100000000 : Int64).toInt = 100000000 by decide, show (-100000000 : Int64).toInt = -100000000 by decide]
theorem wide_nice {V : Nat → Int64} (h : wide V) (hb : ¬ rBb V 7 = true) : nice V := by
  rw [rBb_iff] at hb
  simp only [rByN, rBy1_i] at hb
  obtain ⟨h1, h2, h3, h4⟩ := h
  refine ⟨fun k hk => ?_, fun k k3 k7 => ?_, h3, h4⟩
  · rcases (by omega : k = 0 ∨ k = 1 ∨ k = 2) with rfl | rfl | rfl <;> omega
  · have := h2 k k3 k7
    rcases (by omega : k = 3 ∨ k = 4 ∨ k = 5 ∨ k = 6) with rfl | rfl | rfl | rfl <;> omega
theorem wAL_i {x : Int64} (h : -3000000000 ≤ x.toInt ∧ x.toInt ≤ 3000000000) : ¬ 100000000 < wAL x ↔ (-100000000 ≤ x.toInt ∧ x.toInt ≤ 100000000) := by
  unfold wAL
  split
  · rename_i c
    have c2 := Int64.lt_iff_toInt_lt.mp c
    rw [show (0 : Int64).toInt = 0 by decide] at c2
    rw [Int64.lt_iff_toInt_lt, Int64.toInt_neg, show (100000000 : Int64).toInt = 100000000 by decide, Int.bmod_eq_of_le (by omega) (by omega)]
    omega
  · rename_i c
    have c2 := Int64.le_iff_toInt_le.mp (Int64.not_lt.mp c)
    rw [show (0 : Int64).toInt = 0 by decide] at c2
    rw [Int64.lt_iff_toInt_lt, show (100000000 : Int64).toInt = 100000000 by decide]
    omega
theorem cNear_iff {I : px_I} {L : px_L} (h : wide (cV I L)) : cNear L ↔ ¬ rBb (cV I L) 7 = true := by
  rw [rBb_iff]
  simp only [rByN, rBy1_i]
  obtain ⟨h1, h2, h3, h4⟩ := h
  have e : ∀ k, k < 7 → cV I L k = L 86 (8 + k) := fun k hk => by unfold cV; rw [if_pos hk]
  have b0 := h1 0 (by decide)
  have b1 := h1 1 (by decide)
  have b2 := h1 2 (by decide)
  have b3 := h2 3 (by decide) (by decide)
  have b4 := h2 4 (by decide) (by decide)
  have b5 := h2 5 (by decide) (by decide)
  have b6 := h2 6 (by decide) (by decide)
  rw [Int64.lt_iff_toInt_lt, show (5000 : Int64).toInt = 5000 by decide]
  rw [e 0 (by decide)] at b0 ⊢
  rw [e 1 (by decide)] at b1 ⊢
  rw [e 2 (by decide)] at b2 ⊢
  rw [e 3 (by decide)] at b3 ⊢
  rw [e 4 (by decide)] at b4 ⊢
  rw [e 5 (by decide)] at b5 ⊢
  rw [e 6 (by decide)] at b6 ⊢
  unfold cNear
  rw [wAL_i b0, wAL_i b1, wAL_i b2, Int64.le_iff_toInt_le, Int64.le_iff_toInt_le, Int64.le_iff_toInt_le, Int64.le_iff_toInt_le, show (100000000 : Int64).toInt = 100000000 by decide]
  simp only [Nat.reduceAdd, Nat.add_zero] at *
  omega
