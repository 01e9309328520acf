/-! the reference -/
def eV (G : Int32) (A B : Option (Nat → Int64)) (x h : Int32) : Int64 := match A with
  | none => -2000000000
  | some V => match B with
    | none => -2000000000
    | some W => if G = -2000000000 then -2000000000 else G.toInt64 + W x.toNatClampNeg - V x.toNatClampNeg + (if h = 0 then -(V (3 + x).toNatClampNeg + W (3 + x).toNatClampNeg) else V (3 + x).toNatClampNeg + W (3 + x).toNatClampNeg)
theorem eV_2 {G : Int32} {A : Option (Nat → Int64)} {x h : Int32} : eV G A none x h = -2000000000 := by cases A <;> rfl
def lM (I : px_I) (L : px_L) (Gf : Int32 → Int32 → Int32) (x h : Int32) : Int64 := mV I L (Gf x h) x h
def lFr (I : px_I) (L : px_L) (Gf : Int32 → Int32 → Int32) (x : Int32) : Prop := lM I L Gf x 0 = -2000000000 ∨ lM I L Gf x 1 = -2000000000
def lOu (I : px_I) (L : px_L) (Gf : Int32 → Int32 → Int32) (x : Int32) : Prop := ¬ (lM I L Gf x 0 ≤ (I 136 x.toNatClampNeg).toInt64 ∧ (I 135 x.toNatClampNeg).toInt64 ≤ lM I L Gf x 1)
noncomputable def gG (I : px_I) (f t x h : Int32) : Int32 := gR I x f t (I 103 0) h
theorem gG_same {I I2 : px_I} (h : mXI I I2) (f t x v : Int32) : gG I2 f t x v = gG I f t x v := by
  unfold gG
  rw [gR_same h, h 103 0 (by decide) (by decide) (by decide)]
theorem lM_same {I0 I1 : px_I} {L0 L1 : px_L} {f t x h : Int32} (hI : mXI I0 I1) (hL : mDL L0 L1) (e : I1 103 74 = I0 103 74) : mV I1 L1 (gR I1 x f t (I1 103 0) h) x h = lM I0 L0 (gG I0 f t) x h := by
  have q := gG_same hI f t x h
  unfold gG at q
  unfold lM gG
  rw [q]
  unfold mV
  rw [e, hL 132 (by decide), hL 144 (by decide)]
noncomputable def kV (I : px_I) (Z : Nat → zL) (a f b t x h : Int32) : Int64 := eV (gR I x f t (I 103 0) h) (fD (tR I) (Z (a / 16).toNatClampNeg) (V0 (a - a / 16 * 16))) (fD (tR I) (Z (b / 16).toNatClampNeg) (V0 (b - b / 16 * 16))) x h
def kFr (I : px_I) (Z : Nat → zL) (a f b t x : Int32) : Prop := kV I Z a f b t x 0 = -2000000000 ∨ kV I Z a f b t x 1 = -2000000000
def kOu (I : px_I) (Z : Nat → zL) (a f b t x : Int32) : Prop := ¬ (kV I Z a f b t x 0 ≤ (I 136 x.toNatClampNeg).toInt64 ∧ (I 135 x.toNatClampNeg).toInt64 ≤ kV I Z a f b t x 1)
noncomputable def kJd (I : px_I) (Z : Nat → zL) (a f b t : Int32) : Int32 := jF (kFr I Z a f b t) (kOu I Z a f b t)
noncomputable def kFt (I : px_I) (Z : Nat → zL) (a f b t : Int32) : Int32 := jjN (kAs I a f b t) (kJd I Z a f b t)
theorem mV_eV {T : Nat → Int32} {za zb : zL} {ha hb G x h : Int32} {I2 : px_I} {L2 : px_L} (hx : 0 ≤ x ∧ x ≤ 2) (hb9 : bothR T za zb ha hb I2 L2) : mV I2 L2 G x h = eV G (fD T za (V0 ha)) (fD T zb (V0 hb)) x h := by
  unfold mV
  rcases hb9 with ⟨e, h9⟩ | ⟨e, A, B, h1, h2, h3, h4⟩
  · rw [if_pos (Or.inl e)]
    rcases h9 with n | n
    · rw [n]; rfl
    · rw [n]; exact eV_2.symm
  · have e0 : ¬ I2 103 74 = 0 := by rw [e]; decide
    have n1 : x.toNatClampNeg < 6 ∧ (3 + x).toNatClampNeg < 6 := by rcases x2 hx with rfl | rfl | rfl <;> decide
    rw [h1, h2]
    show _ = if G = -2000000000 then -2000000000 else G.toInt64 + B x.toNatClampNeg - A x.toNatClampNeg + (if h = 0 then -(A (3 + x).toNatClampNeg + B (3 + x).toNatClampNeg) else A (3 + x).toNatClampNeg + B (3 + x).toNatClampNeg)
    by_cases c : G = -2000000000
    · rw [if_pos (Or.inr c), if_pos c]
    · have n2 : ¬ (I2 103 74 = 0 ∨ G = -2000000000) := fun z => z.elim e0 c
      rw [if_neg n2, if_neg c, h3 _ n1.1, h3 _ n1.2, h4 _ (by omega), h4 _ (by omega)]
theorem kFt_in {I I2 : px_I} {L2 : px_L} {Z : Nat → zL} {a f b t : Int32} (hX : mXI I I2) (hb9 : bothR (tR I) (Z (a / 16).toNatClampNeg) (Z (b / 16).toNatClampNeg) (a - a / 16 * 16) (b - b / 16 * 16) I2 L2) : jF (lFr I2 L2 (gG I2 f t)) (lOu I2 L2 (gG I2 f t)) = kJd I Z a f b t := by
  have one : ∀ x h : Int32, 0 ≤ x → x < 3 → lM I2 L2 (gG I2 f t) x h = kV I Z a f b t x h := fun x h x0 x1 => by
    unfold lM kV
    rw [gG_same hX]
    exact mV_eV (x3 x0 x1) hb9
  have r5 : ∀ k, I2 135 k = I 135 k := fun k => hX 135 k (by decide) (by decide) (by omega)
  have r6 : ∀ k, I2 136 k = I 136 k := fun k => hX 136 k (by decide) (by decide) (by omega)
  refine jF_c (fun x x0 x1 => ?_) (fun x x0 x1 => ?_)
  · unfold lFr kFr
    rw [one x 0 x0 x1, one x 1 x0 x1]
  · unfold lOu kOu
    rw [one x 0 x0 x1, one x 1 x0 x1, r5, r6]
