/-! the class -/
def jjB (I : px_I) (a b x h : Int32) : Int32 := bV (if h = 0 then I 95 x.toNatClampNeg else I 96 x.toNatClampNeg) (an I a) (an I b) x h
def gFr (I : px_I) (a b x : Int32) : Prop := jjB I a b x 0 = -2000000000 ∨ jjB I a b x 1 = -2000000000
def gOu (I : px_I) (a b x : Int32) : Prop := I 94 x.toNatClampNeg < jjB I a b x 0 ∨ jjB I a b x 1 < I 93 x.toNatClampNeg
noncomputable def cB (I : px_I) (Z : Nat → zL) (a f b t x h : Int32) : Int32 := bV (gC I x f t (I 32 10) h) (cA I Z a) (cA I Z b) x h
def cFr (I : px_I) (Z : Nat → zL) (a f b t x : Int32) : Prop := cB I Z a f b t x 0 = -2000000000 ∨ cB I Z a f b t x 1 = -2000000000
def cOu (I : px_I) (Z : Nat → zL) (a f b t x : Int32) : Prop := I 94 x.toNatClampNeg < cB I Z a f b t x 0 ∨ cB I Z a f b t x 1 < I 93 x.toNatClampNeg
noncomputable def cJ (I : px_I) (Z : Nat → zL) (a f b t : Int32) : Int32 := jF (cFr I Z a f b t) (cOu I Z a f b t)
noncomputable def cFt (I : px_I) (R : px_R) (Z : Nat → zL) (a f b t : Int32) : Int32 := jjN (cMt I R a f b t) (cJ I Z a f b t)
theorem x3 {x : Int32} (h0 : 0 ≤ x) (h1 : x < 3) : 0 ≤ x ∧ x ≤ 2 := by grind
theorem fits_in {I I1 I2 : px_I} {R : px_R} {Z : Nat → zL} {a f b t : Int32} (hM : cMt I R a f b t) (h1 : cHas I1 R Z) (hm : cMI I I1) (ka : ¬ I1 90 a.toNatClampNeg = 0) (kb : ¬ I1 90 b.toNatClampNeg = 0) (hg : cGI I1 I2) (hl : ∀ x : Int32, 0 ≤ x → x ≤ 2 → I2 95 x.toNatClampNeg = gC I1 x f t (I1 32 10) 0 ∧ I2 96 x.toNatClampNeg = gC I1 x f t (I1 32 10) 1) : jF (gFr I2 a b) (gOu I2 a b) = cJ I Z a f b t := by
  have one : ∀ x h : Int32, 0 ≤ x → x < 3 → jjB I2 a b x h = cB I Z a f b t x h := fun x h x0 x1 => meet_in (x3 x0 x1) hM h1 hm ka kb hg hl mGp_1
  have r3 : ∀ k, I2 93 k = I 93 k := fun k => by rw [hg 93 (by decide) (by decide)]; exact hm 93 k (by decide) (by decide) (by decide) (by decide) (by omega)
  have r4 : ∀ k, I2 94 k = I 94 k := fun k => by rw [hg 94 (by decide) (by decide)]; exact hm 94 k (by decide) (by decide) (by decide) (by decide) (by omega)
  refine jF_c (fun x x0 x1 => ?_) (fun x x0 x1 => ?_)
  · unfold gFr cFr
    rw [one x 0 x0 x1, one x 1 x0 x1]
  · unfold gOu cOu
    rw [one x 0 x0 x1, one x 1 x0 x1, r3, r4]
