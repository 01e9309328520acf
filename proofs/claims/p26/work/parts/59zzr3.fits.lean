/-! both: a gap is small, so the sums are the same in both widths -/
def gSl (G : Int32) : Prop := G = -2000000000 ∨ (-25000000 ≤ G.toInt ∧ G.toInt ≤ 25000000)
theorem i64a {x y : Int64} (h1 : -1000000000000 ≤ x.toInt ∧ x.toInt ≤ 1000000000000) (h2 : -1000000000000 ≤ y.toInt ∧ y.toInt ≤ 1000000000000) : (x + y).toInt = x.toInt + y.toInt := by rw [Int64.toInt_add]; exact Int.bmod_eq_of_le (by omega) (by omega)
theorem i64s {x y : Int64} (h1 : -1000000000000 ≤ x.toInt ∧ x.toInt ≤ 1000000000000) (h2 : -1000000000000 ≤ y.toInt ∧ y.toInt ≤ 1000000000000) : (x - y).toInt = x.toInt - y.toInt := by rw [Int64.toInt_sub]; exact Int.bmod_eq_of_le (by omega) (by omega)
theorem i64n {x : Int64} (h1 : -1000000000000 ≤ x.toInt ∧ x.toInt ≤ 1000000000000) : (-x).toInt = -x.toInt := by rw [Int64.toInt_neg]; exact Int.bmod_eq_of_le (by omega) (by omega)
theorem i64w {x : Int64} (h : -2000000000 ≤ x.toInt ∧ x.toInt ≤ 2000000000) : x = x.toInt32.toInt64 := by
  refine Int64.toInt_inj.mp ?_
  rw [Int32.toInt_toInt64, Int64.toInt_toInt32]
  exact (Int.bmod_eq_of_le (by omega) (by omega)).symm
theorem m64 : (-2000000000 : Int64) = (-2000000000 : Int32).toInt64 := by decide
theorem eV_bV {T : Nat → Int32} {za zb : zL} {ha hb G x h : Int32} (hx : 0 ≤ x ∧ x ≤ 2) (hha : 0 ≤ ha ∧ ha ≤ 15) (hhb : 0 ≤ hb ∧ hb ≤ 15) (hG : gSl G) : eV G (fD T za (V0 ha)) (fD T zb (V0 hb)) x h = (bV G (fun q => aRes T za ha q.toNatClampNeg) (fun q => aRes T zb hb q.toNatClampNeg) x h).toInt64 := by
  unfold bV
  cases h1 : fD T za (V0 ha) with
  | none =>
    rw [if_pos (Or.inr (Or.inl (aRes_n h1)))]
    exact m64
  | some A =>
    cases h2 : fD T zb (V0 hb) with
    | none =>
      rw [if_pos (Or.inr (Or.inr (aRes_n h2)))]
      exact m64
    | some B =>
      have n1 : x.toNatClampNeg < 6 ∧ (3 + x).toNatClampNeg < 6 := by rcases x2 hx with rfl | rfl | rfl <;> decide
      have a1 := done_ne hha h1 (q := x.toNatClampNeg) (by omega)
      have a2 := done_ne hhb h2 (q := x.toNatClampNeg) (by omega)
      have a3 := done_ne hha h1 (q := (3 + x).toNatClampNeg) (by omega)
      have a4 := done_ne hhb h2 (q := (3 + x).toNatClampNeg) (by omega)
      show (if G = -2000000000 then -2000000000 else G.toInt64 + B x.toNatClampNeg - A x.toNatClampNeg + (if h = 0 then -(A (3 + x).toNatClampNeg + B (3 + x).toNatClampNeg) else A (3 + x).toNatClampNeg + B (3 + x).toNatClampNeg)) = _
      simp only [aRes_s h1, aRes_s h2]
      by_cases c : G = -2000000000
      · rw [if_pos c, if_pos (Or.inl c)]; decide
      · have n3 : ¬ (G = -2000000000 ∨ (A x.toNatClampNeg).toInt32 = -2000000000 ∨ (B x.toNatClampNeg).toInt32 = -2000000000) := fun z => z.elim c (fun z => z.elim a1.2.2 a2.2.2)
        rw [if_neg c, if_neg n3]
        have g := hG.resolve_left c
        have gi : G.toInt64.toInt = G.toInt := Int32.toInt_toInt64 G
        have s1 := i64a (x := G.toInt64) (y := B x.toNatClampNeg) (by omega) (by omega)
        have s2 := i64s (x := G.toInt64 + B x.toNatClampNeg) (y := A x.toNatClampNeg) (by omega) (by omega)
        have s3 := i64a (x := A (3 + x).toNatClampNeg) (y := B (3 + x).toNatClampNeg) (by omega) (by omega)
        by_cases c0 : h = 0
        · rw [if_pos c0, if_pos c0]
          have s4 := i64n (x := A (3 + x).toNatClampNeg + B (3 + x).toNatClampNeg) (by omega)
          have s5 := i64a (x := G.toInt64 + B x.toNatClampNeg - A x.toNatClampNeg) (y := -(A (3 + x).toNatClampNeg + B (3 + x).toNatClampNeg)) (by omega) (by omega)
          rw [i64w (x := G.toInt64 + B x.toNatClampNeg - A x.toNatClampNeg + -(A (3 + x).toNatClampNeg + B (3 + x).toNatClampNeg)) (by omega)]
          simp [Int64.toInt32_add, Int64.toInt32_sub, Int64.toInt32_neg]
        · rw [if_neg c0, if_neg c0]
          have s5 := i64a (x := G.toInt64 + B x.toNatClampNeg - A x.toNatClampNeg) (y := A (3 + x).toNatClampNeg + B (3 + x).toNatClampNeg) (by omega) (by omega)
          rw [i64w (x := G.toInt64 + B x.toNatClampNeg - A x.toNatClampNeg + (A (3 + x).toNatClampNeg + B (3 + x).toNatClampNeg)) (by omega)]
          simp [Int64.toInt32_add, Int64.toInt32_sub]
theorem gC_sl {I : px_I} {x f t d h : Int32} (hS : cSt I) (hO : cSo I) (hf : 0 ≤ f ∧ f < I 33 7) (ht : 0 ≤ t ∧ t < I 33 7) : gSl (gC I x f t d h) := by
  by_cases g : cGd I x d (-1)
  · unfold gC
    rw [gP_t g]
    obtain ⟨n24, -, -⟩ := hS.nums
    have iv := fAll_inv n24 (gS_B n24 (hO.ok x d (-1)) (I 33 8).toNatClampNeg (Nat.le_refl _)) g
    have f24 : 0 ≤ f ∧ f < 24 := by have := hS.1; grind
    have t24 : 0 ≤ t ∧ t < 24 := by have := hS.1; grind
    have fn : f.toNatClampNeg < (I 33 7).toNatClampNeg := by
      have a1 := px_nat hf.1
      have a2 := px_nat (x := I 33 7) (by grind)
      have a3 := Int32.lt_iff_toInt_lt.mp hf.2
      omega
    have tn : t.toNatClampNeg < (I 33 7).toNatClampNeg := by
      have a1 := px_nat ht.1
      have a2 := px_nat (x := I 33 7) (by grind)
      have a3 := Int32.lt_iff_toInt_lt.mp ht.2
      omega
    have sml : ∀ i j : Nat, i < (I 33 7).toNatClampNeg → j < (I 33 7).toNatClampNeg → (cD I x d (-1) (24 * i + j)).toInt < 1000000000000 → -25000000 ≤ (cD I x d (-1) (24 * i + j)).toInt ∧ (cD I x d (-1) (24 * i + j)).toInt ≤ 25000000 := fun i j hi hj hF => by
      have b1 : (cD I x d (-1) (24 * i + j)).toInt ≤ 25000000 := iv.small n24 hi hj hF
      have q2 := iv.2.2.2 i j hi hj hF
      have b2 : (cD I x d (-1) (24 * j + i)).toInt ≤ 25000000 := iv.small n24 hj hi q2
      have b3 : (cD I x d (-1) (24 * i + i)).toInt ≤ (cD I x d (-1) (24 * i + j)).toInt + (cD I x d (-1) (24 * j + i)).toInt := iv.2.2.1 j hj i i hi hi hF q2
      have b4 := Int64.le_iff_toInt_le.mp (g i hi)
      rw [show (0 : Int64).toInt = 0 by decide, show 25 * i = 24 * i + i by omega] at b4
      omega
    have tin : ∀ v : Int64, -25000000 ≤ v.toInt ∧ v.toInt ≤ 25000000 → gSl v.toInt32 := fun v hv => Or.inr (by
      rw [Int64.toInt_toInt32, Int.bmod_eq_of_le (by omega) (by omega)]; exact hv)
    unfold mGp
    rw [(px_24 f24 t24).1, (px_24 t24 f24).1]
    by_cases c : h = 0
    · rw [if_neg (fun z => z c)]
      by_cases c2 : 1000000000000 ≤ cD I x d (-1) (24 * t.toNatClampNeg + f.toNatClampNeg)
      · rw [if_pos c2]; exact Or.inl rfl
      · rw [if_neg c2]
        have q : (cD I x d (-1) (24 * t.toNatClampNeg + f.toNatClampNeg)).toInt < 1000000000000 := by
          rw [Int64.le_iff_toInt_le, px_far] at c2; omega
        have s := sml _ _ tn fn q
        exact tin _ (by rw [i64n (by omega)]; omega)
    · rw [if_pos c]
      by_cases c2 : 1000000000000 ≤ cD I x d (-1) (24 * f.toNatClampNeg + t.toNatClampNeg)
      · rw [if_pos c2]; exact Or.inl rfl
      · rw [if_neg c2]
        have q : (cD I x d (-1) (24 * f.toNatClampNeg + t.toNatClampNeg)).toInt < 1000000000000 := by
          rw [Int64.le_iff_toInt_le, px_far] at c2; omega
        exact tin _ (sml _ _ fn tn q)
  · exact Or.inl (gP_f g)
theorem i64eq {x : Int32} : x.toInt64 = -2000000000 ↔ x = -2000000000 := by
  constructor
  · intro e
    refine Int32.toInt_inj.mp ?_
    rw [← Int32.toInt_toInt64, e]; decide
  · rintro rfl; decide
theorem i64le {x y : Int32} : x.toInt64 ≤ y.toInt64 ↔ x ≤ y := by rw [Int64.le_iff_toInt_le, Int32.toInt_toInt64, Int32.toInt_toInt64, ← Int32.le_iff_toInt_le]
/-- both answer the same -/
theorem fits_eq {I I2 : px_I} {R : px_R} {Z : Nat → zL} {a f b t : Int32} (hS : cSt I) (hO : cSo I) (hA : cMt I R a f b t) (e0 : I 32 10 = I2 103 0) (eG : ∀ x h, gC I x f t (I 32 10) h = gR I2 x f t (I2 103 0) h) (eT : ∀ k, k < 5 → cTl I k = tR I2 k) (e3 : ∀ k : Nat, k < 3 → I 93 k = I2 135 k) (e4 : ∀ k : Nat, k < 3 → I 94 k = I2 136 k) : cJ I Z a f b t = kJd I2 Z a f b t := by
  have one : ∀ x h : Int32, 0 ≤ x → x < 3 → kV I2 Z a f b t x h = (cB I Z a f b t x h).toInt64 := fun x h x0 x1 => by
    unfold kV cB
    rw [← eG, eV_bV (x3 x0 x1) (px_rm16 hA.1.1.1) (px_rm16 hA.2.1.1.1) (gC_sl hS hO hA.2.2.1 hA.2.2.2)]
    exact congrArg Int32.toInt64 (bV_eq rfl (aRes_t eT _ _ _) (aRes_t eT _ _ _) (aRes_t eT _ _ _) (aRes_t eT _ _ _)).symm
  have n3 : ∀ x : Int32, 0 ≤ x → x < 3 → x.toNatClampNeg < 3 := fun x x0 x1 => by rcases x2 (x3 x0 x1) with rfl | rfl | rfl <;> decide
  refine jF_c (fun x x0 x1 => ?_) (fun x x0 x1 => ?_)
  · unfold cFr kFr
    rw [one x 0 x0 x1, one x 1 x0 x1, i64eq, i64eq]
  · unfold cOu kOu
    rw [one x 0 x0 x1, one x 1 x0 x1, i64le, i64le, e3 _ (n3 x x0 x1), e4 _ (n3 x x0 x1)]
    constructor
    · rintro (z | z) ⟨z1, z2⟩ <;> grind
    · intro z
      by_cases c : I2 136 x.toNatClampNeg < cB I Z a f b t x 0
      · exact Or.inl c
      · refine Or.inr (Classical.byContradiction fun c2 => z ⟨by grind, by grind⟩)
