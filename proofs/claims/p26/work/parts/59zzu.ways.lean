/-! how many pairs -/
noncomputable def wB (P : Int32 → Int32 → Prop) (a : Int32) : Nat → Int32
  | 0 => 0
  | k + 1 => wB P a k + jjI (P a (Int32.ofNat k)) 1 0
noncomputable def wA (P : Int32 → Int32 → Prop) : Nat → Int32
  | 0 => 0
  | k + 1 => wA P k + wB P (Int32.ofNat k) 6
theorem wB_t {P : Int32 → Int32 → Prop} {a i : Int32} (h0 : 0 ≤ i) (h1 : i < 6) (h : P a i) : wB P a (i + 1).toNatClampNeg = wB P a i.toNatClampNeg + 1 := by
  obtain ⟨e1, e2⟩ := px_tnS h0 (by grind)
  rw [e1]
  show wB P a i.toNatClampNeg + jjI (P a (Int32.ofNat i.toNatClampNeg)) 1 0 = _
  rw [e2, jjI_t h]
theorem wB_f {P : Int32 → Int32 → Prop} {a i : Int32} (h0 : 0 ≤ i) (h1 : i < 6) (h : ¬ P a i) : wB P a (i + 1).toNatClampNeg = wB P a i.toNatClampNeg := by
  obtain ⟨e1, e2⟩ := px_tnS h0 (by grind)
  rw [e1]
  show wB P a i.toNatClampNeg + jjI (P a (Int32.ofNat i.toNatClampNeg)) 1 0 = _
  rw [e2, jjI_f h, Int32.add_zero]
theorem wA_s {P : Int32 → Int32 → Prop} {a : Int32} (h0 : 0 ≤ a) (h1 : a < 6) : wA P (a + 1).toNatClampNeg = wA P a.toNatClampNeg + wB P a 6 := by
  obtain ⟨e1, e2⟩ := px_tnS h0 (by grind)
  rw [e1]
  show wA P a.toNatClampNeg + wB P (Int32.ofNat a.toNatClampNeg) 6 = _
  rw [e2]
theorem o6 {k : Nat} (h : k < 6) : 0 ≤ Int32.ofNat k ∧ Int32.ofNat k < 6 := by
  rcases (by omega : k = 0 ∨ k = 1 ∨ k = 2 ∨ k = 3 ∨ k = 4 ∨ k = 5) with rfl | rfl | rfl | rfl | rfl | rfl <;> decide
theorem wB_c {P P2 : Int32 → Int32 → Prop} {a : Int32} (h : ∀ b : Int32, 0 ≤ b → b < 6 → (P a b ↔ P2 a b)) : ∀ k : Nat, k ≤ 6 → wB P a k = wB P2 a k
  | 0, _ => rfl
  | k + 1, hk => by
    show wB P a k + jjI (P a (Int32.ofNat k)) 1 0 = wB P2 a k + jjI (P2 a (Int32.ofNat k)) 1 0
    rw [wB_c h k (by omega), propext (h _ (o6 (by omega)).1 (o6 (by omega)).2)]
theorem wA_c {P P2 : Int32 → Int32 → Prop} (h : ∀ a b : Int32, 0 ≤ a → a < 6 → 0 ≤ b → b < 6 → (P a b ↔ P2 a b)) : ∀ k : Nat, k ≤ 6 → wA P k = wA P2 k
  | 0, _ => rfl
  | k + 1, hk => by
    show wA P k + wB P (Int32.ofNat k) 6 = wA P2 k + wB P2 (Int32.ofNat k) 6
    rw [wA_c h k (by omega), wB_c (fun b b0 b1 => h _ b (o6 (by omega)).1 (o6 (by omega)).2 b0 b1) 6 (by omega)]
theorem q16 {a x : Int32} (ha : 0 ≤ a ∧ a < 6) (hx : 0 ≤ x ∧ x ≤ 15) : 0 ≤ 16 * a + x ∧ 16 * a + x ≤ 95 ∧ (16 * a + x) / 16 = a := by
  have a0 := Int32.le_iff_toInt_le.mp ha.1
  have a1 := Int32.lt_iff_toInt_lt.mp ha.2
  have b0 := Int32.le_iff_toInt_le.mp hx.1
  have b1 := Int32.le_iff_toInt_le.mp hx.2
  rw [show (0 : Int32).toInt = 0 by decide] at a0 b0
  rw [show (6 : Int32).toInt = 6 by decide] at a1
  rw [show (15 : Int32).toInt = 15 by decide] at b1
  have m1 : (16 * a).toInt = 16 * a.toInt := by rw [Int32.toInt_mul, show (16 : Int32).toInt = 16 by decide]; exact Int.bmod_eq_of_le (by omega) (by omega)
  have m2 : (16 * a + x).toInt = 16 * a.toInt + x.toInt := by rw [Int32.toInt_add, m1]; exact Int.bmod_eq_of_le (by omega) (by omega)
  have n0 : 0 ≤ 16 * a + x := Int32.le_iff_toInt_le.mpr (by rw [m2, show (0 : Int32).toInt = 0 by decide]; omega)
  have n1 : 16 * a + x ≤ 95 := Int32.le_iff_toInt_le.mpr (by rw [m2, show (95 : Int32).toInt = 95 by decide]; omega)
  have d := (px_dvI (x := 16 * a + x) (k := 16) (by decide) n0).1
  rw [show (16 : Int32).toInt = 16 by decide, m2] at d
  exact ⟨n0, n1, Int32.toInt_inj.mp (by rw [d]; omega)⟩
/-- the class: one pair -/
def cP (I : px_I) (R : px_R) (Z : Nat → zL) (x f y t v a b : Int32) : Prop := cTd R (16 * a + x) ∧ cTd R (16 * b + y) ∧ cJ I Z (16 * a + x) f (16 * b + y) t = v
theorem pairs_in {I I1 I2 : px_I} {R : px_R} {Z : Nat → zL} {a f b t : Int32} (ha : cTd R a) (hb : cTd R b) (h2 : cHas I2 R Z) (hm : cMI I1 I2) (ka : ¬ I2 90 a.toNatClampNeg = 0) (kb : ¬ I2 90 b.toNatClampNeg = 0) (hg : cGI I I1) (hl : ∀ x : Int32, 0 ≤ x → x ≤ 2 → I1 95 x.toNatClampNeg = gC I x f t (I 32 10) 0 ∧ I1 96 x.toNatClampNeg = gC I x f t (I 32 10) 1) : jF (gFr I2 a b) (gOu I2 a b) = cJ I Z a f b t := by
  have e86 : ∀ k, k < 5 → cTl I1 k = cTl I k := fun k hk => by unfold cTl; rw [hg 86 (by decide) (by decide)]
  have ea : ∀ q : Int32, 0 ≤ q ∧ q ≤ 8 → an I2 a q = cA I Z a q := fun q hq => (an_in h2 hm ha ka rfl hq).trans (aRes_t e86 _ _ _)
  have eb : ∀ q : Int32, 0 ≤ q ∧ q ≤ 8 → an I2 b q = cA I Z b q := fun q hq => (an_in h2 hm hb kb rfl hq).trans (aRes_t e86 _ _ _)
  have o0 : ∀ x : Int32, 0 ≤ x → x < 3 → jjB I2 a b x 0 = cB I Z a f b t x 0 := fun x x0 x1 => by
    obtain ⟨q1, q2⟩ := x8 (x3 x0 x1)
    refine bV_eq ?_ (ea _ q1) (eb _ q1) (ea _ q2) (eb _ q2)
    rw [if_pos rfl, hm 95 _ (by decide) (by decide) (by decide) (by decide) (by omega)]
    exact (hl x x0 (x3 x0 x1).2).1
  have o1 : ∀ x : Int32, 0 ≤ x → x < 3 → jjB I2 a b x 1 = cB I Z a f b t x 1 := fun x x0 x1 => by
    obtain ⟨q1, q2⟩ := x8 (x3 x0 x1)
    refine bV_eq ?_ (ea _ q1) (eb _ q1) (ea _ q2) (eb _ q2)
    rw [if_neg (show ¬ (1 : Int32) = 0 by decide), hm 96 _ (by decide) (by decide) (by decide) (by decide) (by omega)]
    exact (hl x x0 (x3 x0 x1).2).2
  have r3 : ∀ k, I2 93 k = I 93 k := fun k => by rw [hm 93 k (by decide) (by decide) (by decide) (by decide) (by omega), hg 93 (by decide) (by decide)]
  have r4 : ∀ k, I2 94 k = I 94 k := fun k => by rw [hm 94 k (by decide) (by decide) (by decide) (by decide) (by omega), hg 94 (by decide) (by decide)]
  refine jF_c (fun x x0 x1 => ?_) (fun x x0 x1 => ?_)
  · unfold gFr cFr
    rw [o0 x x0 x1, o1 x x0 x1]
  · unfold gOu cOu
    rw [o0 x x0 x1, o1 x x0 x1, r3, r4]
noncomputable def cWs (I : px_I) (R : px_R) (Z : Nat → zL) (a f b t x : Int32) : Int32 := jjN (((0 ≤ a ∧ a ≤ 15) ∧ (0 ≤ b ∧ b ≤ 15) ∧ (0 ≤ x ∧ x ≤ 2)) ∧ (0 ≤ f ∧ f < I 33 7) ∧ (0 ≤ t ∧ t < I 33 7)) (wA (cP I R Z a f b t x) 6)
/-- the reference: one pair -/
def kPr (I : px_I) (Z : Nat → zL) (a f b t x i k : Int32) : Prop := I 129 i.toNatClampNeg = 1 ∧ I 129 k.toNatClampNeg = 1 ∧ kFt I Z (16 * i + a) f (16 * k + b) t = x
noncomputable def kWs (I : px_I) (Z : Nat → zL) (a f b t x : Int32) : Int32 := jjN ((0 ≤ a ∧ a ≤ 15) ∧ (0 ≤ b ∧ b ≤ 15) ∧ (0 ≤ f ∧ f ≤ I 103 1 - 1) ∧ (0 ≤ t ∧ t ≤ I 103 1 - 1) ∧ (0 ≤ x ∧ x ≤ 2)) (wA (kPr I Z a f b t x) 6)
theorem mXI.H {I I2 : px_I} {Z : Nat → zL} (h : mXI I I2) (hZ : mHas I Z) : mHas I2 Z := hZ.eq (funext fun j => h 129 j (by decide) (by decide) (by omega)) (funext fun j => h 130 j (by decide) (by decide) (by omega)) (funext fun j => h 131 j (by decide) (by decide) (by omega))
theorem kFt_same {I I2 : px_I} {Z : Nat → zL} (h : mXI I I2) (a f b t : Int32) : kFt I2 Z a f b t = kFt I Z a f b t := by
  have e9 : ∀ k, I2 129 k = I 129 k := fun k => h 129 k (by decide) (by decide) (by omega)
  have v : ∀ x q : Int32, kV I2 Z a f b t x q = kV I Z a f b t x q := fun x q => by
    unfold kV
    rw [gR_same h, h 103 0 (by decide) (by decide) (by decide), fD_t (tR_same h), fD_t (tR_same h)]
  have r5 : ∀ k, I2 135 k = I 135 k := fun k => h 135 k (by decide) (by decide) (by omega)
  have r6 : ∀ k, I2 136 k = I 136 k := fun k => h 136 k (by decide) (by decide) (by omega)
  unfold kFt
  refine jjN_c ?_ (jF_c (fun x x0 x1 => ?_) (fun x x0 x1 => ?_))
  · unfold kAs
    rw [e9, e9, h 103 1 (by decide) (by decide) (by decide)]
  · unfold kFr
    rw [v, v]
  · unfold kOu
    rw [v, v, r5, r6]
theorem ways_eq {I I2 : px_I} {L L2 : px_L} {R : px_R} {Z : Nat → zL} {a f b t x : Int32} (hw : wyP I R Z) (f1 : frB I I2 L L2) (h7 : I 33 7 = I2 103 1) (hS : cSt I) (hO : cSo I) (ha : 0 ≤ a ∧ a ≤ 15) (hb : 0 ≤ b ∧ b ≤ 15) (hf : 0 ≤ f ∧ f < I 33 7) (ht : 0 ≤ t ∧ t < I 33 7) (e0 : I 32 10 = I2 103 0) (eG : ∀ x h, gC I x f t (I 32 10) h = gR I2 x f t (I2 103 0) h) (eT : ∀ k, k < 5 → cTl I k = tR I2 k) (e3 : ∀ k : Nat, k < 3 → I 93 k = I2 135 k) (e4 : ∀ k : Nat, k < 3 → I 94 k = I2 136 k) : wA (cP I R Z a f b t x) 6 = wA (kPr I2 Z a f b t x) 6 := wA_c (fun i k i0 i1 k0 k1 => by
  obtain ⟨p1, p2, p3⟩ := q16 ⟨i0, i1⟩ ha
  obtain ⟨q1, q2, q3⟩ := q16 ⟨k0, k1⟩ hb
  have hA := ask_eq (a := 16 * i + a) (f := f) (b := 16 * k + b) (t := t) hw f1 h7 hS
  constructor
  · rintro ⟨h1, h2, h3⟩
    have m : cMt I R (16 * i + a) f (16 * k + b) t := ⟨h1, h2, hf, ht⟩
    have w := hA.mp m
    obtain ⟨-, -, ⟨-, w1⟩, ⟨-, w2⟩, -⟩ := id w
    rw [p3] at w1
    rw [q3] at w2
    exact ⟨w1, w2, (jjN_t w).trans ((fits_eq hS hO m e0 eG eT e3 e4).symm.trans h3)⟩
  · rintro ⟨h1, h2, h3⟩
    have s7 : 1 ≤ I 33 7 ∧ I 33 7 ≤ 24 := hS.1
    have w : kAs I2 (16 * i + a) f (16 * k + b) t := ⟨⟨p1, p2⟩, ⟨q1, q2⟩, ⟨by rw [p3]; exact ⟨i0, by grind⟩, by rw [p3]; exact h1⟩, ⟨by rw [q3]; exact ⟨k0, by grind⟩, by rw [q3]; exact h2⟩, by rw [← h7]; grind, by rw [← h7]; grind⟩
    have m := hA.mpr w
    exact ⟨m.1, m.2.1, (fits_eq hS hO m e0 eG eT e3 e4).trans ((jjN_t w).symm.trans h3)⟩) 6 (by decide)
