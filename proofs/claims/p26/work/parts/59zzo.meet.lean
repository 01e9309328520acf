/-! where two runs can meet -/
noncomputable def gP (G : Prop) (x : Int32) : Int32 := @ite Int32 G (Classical.propDecidable G) x (-2000000000)
theorem gP_t {G : Prop} {x : Int32} (h : G) : gP G x = x := @if_pos G (Classical.propDecidable G) h Int32 x (-2000000000)
theorem gP_f {G : Prop} {x : Int32} (h : ¬ G) : gP G x = -2000000000 := @if_neg G (Classical.propDecidable G) h Int32 x (-2000000000)
theorem gP_c {G G2 : Prop} {x x2 : Int32} (h : G ↔ G2) (e : x = x2) : gP G x = gP G2 x2 := by rw [propext h, e]
noncomputable def gC (I : px_I) (x f t d h : Int32) : Int32 := gP (cGd I x d (-1)) (mGp (cD I x d (-1)) f t h)
noncomputable def gR (I : px_I) (x f t d h : Int32) : Int32 := gP (mGd I x d (-1)) (mGp (mD I x d (-1)) f t h)
theorem gC_of {I : px_I} {x f t d h r : Int32} (h1 : (cGd I x d (-1) ∧ r = mGp (cD I x d (-1)) f t h) ∨ (¬ cGd I x d (-1) ∧ r = -2000000000)) : r = gC I x f t d h := by
  unfold gC
  rcases h1 with ⟨a, b⟩ | ⟨a, b⟩
  · rw [gP_t a]; exact b
  · rw [gP_f a]; exact b
theorem cD_same {I I2 : px_I} (h : ∀ b, 33 ≤ b → b ≤ 39 → I2 b = I b) (a k w : Int32) : cD I2 a k w = cD I a k w := by
  unfold cD
  rw [h 33 (by decide) (by decide), h 34 (by decide) (by decide), h 35 (by decide) (by decide), h 36 (by decide) (by decide), h 37 (by decide) (by decide), h 38 (by decide) (by decide), h 39 (by decide) (by decide)]
theorem gC_same {I I2 : px_I} (h : ∀ b, 33 ≤ b → b ≤ 39 → I2 b = I b) (x f t d v : Int32) : gC I2 x f t d v = gC I x f t d v := by
  unfold gC cGd
  rw [cD_same h, h 33 (by decide) (by decide)]
theorem cSo_same {I I2 : px_I} (h : ∀ b, 33 ≤ b → b ≤ 39 → I2 b = I b) (hs : cSo I) : cSo I2 := by
  unfold cSo at *
  rw [h 33 (by decide) (by decide), h 35 (by decide) (by decide), h 36 (by decide) (by decide), h 37 (by decide) (by decide), h 38 (by decide) (by decide)]
  exact hs
theorem cSt_same {I I2 : px_I} (h : ∀ b, 33 ≤ b → b ≤ 39 → I2 b = I b) (hs : cSt I) : cSt I2 := by
  unfold cSt at *
  rw [h 33 (by decide) (by decide)]
  exact hs
def bV (G : Int32) (A B : Int32 → Int32) (x h : Int32) : Int32 := if G = -2000000000 ∨ A x = -2000000000 ∨ B x = -2000000000 then -2000000000 else G + B x - A x + (if h = 0 then 0 - (A (3 + x) + B (3 + x)) else A (3 + x) + B (3 + x))
theorem bV_eq {G G2 : Int32} {A B A2 B2 : Int32 → Int32} {x h : Int32} (e0 : G = G2) (e1 : A x = A2 x) (e2 : B x = B2 x) (e3 : A (3 + x) = A2 (3 + x)) (e4 : B (3 + x) = B2 (3 + x)) : bV G A B x h = bV G2 A2 B2 x h := by
  unfold bV
  rw [e0, e1, e2, e3, e4]
def an (I : px_I) (s q : Int32) : Int32 := if 0 ≤ s * 9 + q ∧ s * 9 + q ≤ 863 then I 91 (s * 9 + q).toNatClampNeg else -2000000000
def cA (I : px_I) (Z : Nat → zL) (s q : Int32) : Int32 := aRes (cTl I) (Z (s / 16).toNatClampNeg) (s - s / 16 * 16) q.toNatClampNeg
def kAn (I : px_I) (Z : Nat → zL) (s q : Int32) : Int32 := aRes (tR I) (Z (s / 16).toNatClampNeg) (s - s / 16 * 16) q.toNatClampNeg
/-- what is answered of a run that was kept -/
theorem an_in {I I1 I2 : px_I} {R : px_R} {Z : Nat → zL} {s q : Int32} (h1 : cHas I1 R Z) (hm : cMI I I1) (hd : cTd R s) (hk : ¬ I1 90 s.toNatClampNeg = 0) (e91 : I2 91 = I1 91) (hq : 0 ≤ q ∧ q ≤ 8) : an I2 s q = cA I Z s q := by
  obtain ⟨⟨s0, -, s6⟩, t⟩ := hd
  obtain ⟨e1, e2, e3, e4, e5, e6, e7⟩ := s16 s0 s6
  obtain ⟨x, hx⟩ := Option.ne_none_iff_exists'.mp t
  have q1 := xnat hq.1
  have q2 := Int32.le_iff_toInt_le.mp hq.2
  rw [show (8 : Int32).toInt = 8 by decide] at q2
  have a1 := Int32.le_iff_toInt_le.mp e6
  have a2 := Int32.le_iff_toInt_le.mp e7
  have q0 := Int32.le_iff_toInt_le.mp hq.1
  rw [show (0 : Int32).toInt = 0 by decide] at a1 q0
  rw [show (855 : Int32).toInt = 855 by decide] at a2
  have m4 : (s * 9 + q).toInt = (s * 9).toInt + q.toInt := by rw [Int32.toInt_add]; exact Int.bmod_eq_of_le (by omega) (by omega)
  have p0 : 0 ≤ s * 9 + q := Int32.le_iff_toInt_le.mpr (by rw [m4, show (0 : Int32).toInt = 0 by decide]; omega)
  have p1 : s * 9 + q ≤ 863 := Int32.le_iff_toInt_le.mpr (by rw [m4, show (863 : Int32).toInt = 863 by decide]; omega)
  have x4 := xnat p0
  have x5 := xnat e6
  rw [m4] at x4
  have en : (s * 9 + q).toNatClampNeg = 9 * (16 * (s / 16).toNatClampNeg + (s - s / 16 * 16).toNatClampNeg) + q.toNatClampNeg := by omega
  rw [e1] at hk
  have z := h1.2.2 _ e2 x hx _ e3 hk q.toNatClampNeg (by omega)
  rw [e4] at z
  unfold an cA
  rw [if_pos ⟨p0, p1⟩, e91, en, z]
  exact aRes_t (fun k hk => hm 86 (3 + k) (by decide) (by decide) (by decide) (by decide) (by omega)) _ _ _
noncomputable def cMv (I : px_I) (R : px_R) (Z : Nat → zL) (a f b t x h : Int32) : Int32 := gP ((0 ≤ x ∧ x ≤ 2) ∧ cMt I R a f b t) (bV (gC I x f t (I 32 10) h) (cA I Z a) (cA I Z b) x h)
theorem x2 {x : Int32} (h : 0 ≤ x ∧ x ≤ 2) : x = 0 ∨ x = 1 ∨ x = 2 := by grind
theorem x8 {x : Int32} (h : 0 ≤ x ∧ x ≤ 2) : (0 ≤ x ∧ x ≤ 8) ∧ (0 ≤ 3 + x ∧ 3 + x ≤ 8) := by rcases x2 h with rfl | rfl | rfl <;> decide
theorem meet_in {I I1 I2 : px_I} {R : px_R} {Z : Nat → zL} {a f b t x h : Int32} (hx : 0 ≤ x ∧ x ≤ 2) (hM : cMt I R a f b t) (h1 : cHas I1 R Z) (hm : cMI I I1) (ka : ¬ I1 90 a.toNatClampNeg = 0) (kb : ¬ I1 90 b.toNatClampNeg = 0) (hg : cGI I1 I2) (hl : ∀ x : Int32, 0 ≤ x → x ≤ 2 → I2 95 x.toNatClampNeg = gC I1 x f t (I1 32 10) 0 ∧ I2 96 x.toNatClampNeg = gC I1 x f t (I1 32 10) 1) (hh : ∀ v : Int32, ¬ v = 0 → ∀ D f t, mGp D f t v = mGp D f t 1) : bV (if h = 0 then I2 95 x.toNatClampNeg else I2 96 x.toNatClampNeg) (an I2 a) (an I2 b) x h = bV (gC I x f t (I 32 10) h) (cA I Z a) (cA I Z b) x h := by
  have e91 : I2 91 = I1 91 := hg 91 (by decide) (by decide)
  have fr : ∀ b, 33 ≤ b → b ≤ 39 → I1 b = I b := fun b q1 q2 => funext fun j => hm b j (by omega) (by omega) (by omega) (by omega) (by omega)
  have e32 : I1 32 10 = I 32 10 := hm 32 10 (by decide) (by decide) (by decide) (by decide) (by decide)
  obtain ⟨q1, q2⟩ := x8 hx
  refine bV_eq ?_ (an_in h1 hm hM.1 ka e91 q1) (an_in h1 hm hM.2.1 kb e91 q1) (an_in h1 hm hM.1 ka e91 q2) (an_in h1 hm hM.2.1 kb e91 q2)
  obtain ⟨l1, l2⟩ := hl x hx.1 hx.2
  rw [l1, l2, gC_same fr, gC_same fr, e32]
  by_cases c : h = 0
  · rw [if_pos c, c]
  · rw [if_neg c]
    unfold gC
    exact gP_c Iff.rfl (hh h c _ _ _).symm
theorem mGp_1 : ∀ v : Int32, ¬ v = 0 → ∀ D f t, mGp D f t v = mGp D f t 1 := fun v hv D f t => by
  unfold mGp
  rw [if_pos hv, if_pos (by decide : ¬ (1 : Int32) = 0)]
/-! the reference: both runs -/
theorem rOut.V {T : Nat → Int32} {zs : zL} {s r : Int32} {L2 : px_L} (h : rOut T zs s r L2) : (r = 0 ∧ fD T zs (V0 s) = none) ∨ (r = 1 ∧ ∃ A, fD T zs (V0 s) = some A ∧ ∀ q, q < 9 → L2 132 q = A q) := by
  obtain ⟨W, hW, h⟩ := h
  rcases h with ⟨a, b⟩ | ⟨a, b⟩
  · refine Or.inl ⟨a, ?_⟩
    rcases fD_9 (T := T) zs W (V0 s) hW with ⟨-, c⟩ | ⟨V2, W2, c, -, -⟩
    · exact c
    · rw [b] at c; cases c
  · refine Or.inr ⟨a, ?_⟩
    rcases fD_9 (T := T) zs W (V0 s) hW with ⟨c, -⟩ | ⟨V2, W2, c, d, e⟩
    · rw [b] at c; cases c
    · rw [b] at c
      have c2 := Option.some.inj c
      exact ⟨W2, d, fun q hq => by rw [c2, e q hq]⟩
def bothR (T : Nat → Int32) (za zb : zL) (ha hb : Int32) (I2 : px_I) (L2 : px_L) : Prop := (I2 103 74 = 0 ∧ (fD T za (V0 ha) = none ∨ fD T zb (V0 hb) = none)) ∨ (I2 103 74 = 1 ∧ ∃ A B, fD T za (V0 ha) = some A ∧ fD T zb (V0 hb) = some B ∧ (∀ q, q < 6 → L2 144 q = A q) ∧ ∀ q, q < 9 → L2 132 q = B q)
def mV (I : px_I) (L : px_L) (G x h : Int32) : Int64 := if I 103 74 = 0 ∨ G = -2000000000 then -2000000000 else G.toInt64 + L 132 x.toNatClampNeg - L 144 x.toNatClampNeg + (if h = 0 then -(L 144 (3 + x).toNatClampNeg + L 132 (3 + x).toNatClampNeg) else L 144 (3 + x).toNatClampNeg + L 132 (3 + x).toNatClampNeg)
/-- of a run that is done no place is the mark of none -/
theorem done_ne {T : Nat → Int32} {zs : zL} {s : Int32} (hs : 0 ≤ s ∧ s ≤ 15) {V : Nat → Int64} (h : fD T zs (V0 s) = some V) {q : Nat} (hq : q < 7) : -100000000 ≤ (V q).toInt ∧ (V q).toInt ≤ 100000000 ∧ ¬ (V q).toInt32 = -2000000000 := by
  have ok := fD_ok zs _ V (V0_ok (h := s) (fun _ _ => rfl) hs) h
  have b : -100000000 ≤ V q ∧ V q ≤ 100000000 := by
    unfold rBy at ok
    simp only [rByN, rBy1] at ok
    rcases (by omega : q = 0 ∨ q = 1 ∨ q = 2 ∨ q = 3 ∨ q = 4 ∨ q = 5 ∨ q = 6) with rfl | rfl | rfl | rfl | rfl | rfl | rfl <;> grind
  have b1 := Int64.le_iff_toInt_le.mp b.1
  have b2 := Int64.le_iff_toInt_le.mp b.2
  rw [show (-100000000 : Int64).toInt = -100000000 by decide] at b1
  rw [show (100000000 : Int64).toInt = 100000000 by decide] at b2
  refine ⟨b1, b2, fun e => ?_⟩
  have e2 := congrArg Int32.toInt e
  rw [Int64.toInt_toInt32, show (-2000000000 : Int32).toInt = -2000000000 by decide, Int.bmod_eq_of_le (by omega) (by omega)] at e2
  omega
theorem mV_bV {T : Nat → Int32} {za zb : zL} {ha hb G x h : Int32} {I2 : px_I} {L2 : px_L} (hx : 0 ≤ x ∧ x ≤ 2) (hha : 0 ≤ ha ∧ ha ≤ 15) (hhb : 0 ≤ hb ∧ hb ≤ 15) (hb9 : bothR T za zb ha hb I2 L2) : (mV I2 L2 G x h).toInt32 = bV G (fun q => aRes T za ha q.toNatClampNeg) (fun q => aRes T zb hb q.toNatClampNeg) x h := by
  unfold mV bV
  rcases hb9 with ⟨e, h9⟩ | ⟨e, A, B, h1, h2, h3, h4⟩
  · rw [if_pos (Or.inl e)]
    rcases h9 with n | n
    · rw [if_pos (Or.inr (Or.inl (aRes_n n)))]; decide
    · rw [if_pos (Or.inr (Or.inr (aRes_n n)))]; decide
  · have e0 : ¬ I2 103 74 = 0 := by rw [e]; decide
    have n1 : x.toNatClampNeg < 6 ∧ (3 + x).toNatClampNeg < 6 := by rcases x2 hx with rfl | rfl | rfl <;> decide
    have a1 := done_ne hha h1 (q := x.toNatClampNeg) (by omega)
    have a2 := done_ne hhb h2 (q := x.toNatClampNeg) (by omega)
    simp only [aRes_s h1, aRes_s h2]
    by_cases c : G = -2000000000
    · rw [if_pos (Or.inr c), if_pos (Or.inl c)]; decide
    · have n2 : ¬ (I2 103 74 = 0 ∨ G = -2000000000) := fun z => z.elim e0 c
      have n3 : ¬ (G = -2000000000 ∨ (A x.toNatClampNeg).toInt32 = -2000000000 ∨ (B x.toNatClampNeg).toInt32 = -2000000000) := fun z => z.elim c (fun z => z.elim a1.2.2 a2.2.2)
      rw [if_neg n2, if_neg n3, h3 _ n1.1, h3 _ n1.2, h4 _ (by omega), h4 _ (by omega)]
      by_cases c0 : h = 0
      · rw [if_pos c0, if_pos c0]
        simp [Int64.toInt32_add, Int64.toInt32_sub, Int64.toInt32_neg]
      · rw [if_neg c0, if_neg c0]
        simp [Int64.toInt32_add, Int64.toInt32_sub]
def kAs (I : px_I) (a f b t : Int32) : Prop := (0 ≤ a ∧ a ≤ 95) ∧ (0 ≤ b ∧ b ≤ 95) ∧ ((0 ≤ a / 16 ∧ a / 16 ≤ 5) ∧ I 129 (a / 16).toNatClampNeg = 1) ∧ ((0 ≤ b / 16 ∧ b / 16 ≤ 5) ∧ I 129 (b / 16).toNatClampNeg = 1) ∧ (0 ≤ f ∧ f ≤ I 103 1 - 1) ∧ (0 ≤ t ∧ t ≤ I 103 1 - 1)
noncomputable def kMv (I : px_I) (Z : Nat → zL) (a f b t x h : Int32) : Int32 := gP ((0 ≤ x ∧ x ≤ 2) ∧ kAs I a f b t) (bV (gR I x f t (I 103 0) h) (kAn I Z a) (kAn I Z b) x h)
theorem mD_same {I I2 : px_I} (h : mXI I I2) (a k w : Int32) : mD I2 a k w = mD I a k w := by
  have e : ∀ b, 104 ≤ b → b ≤ 109 → I2 b = I b := fun b q1 q2 => funext fun j => h b j (by omega) (by omega) (by omega)
  unfold mD
  rw [e 104 (by decide) (by decide), e 105 (by decide) (by decide), e 106 (by decide) (by decide), e 107 (by decide) (by decide), e 108 (by decide) (by decide), e 109 (by decide) (by decide), h 103 2 (by decide) (by decide) (by decide), h 103 1 (by decide) (by decide) (by decide)]
theorem gR_same {I I2 : px_I} (h : mXI I I2) (x f t d v : Int32) : gR I2 x f t d v = gR I x f t d v := by
  unfold gR mGd
  rw [mD_same h, h 103 1 (by decide) (by decide) (by decide)]
theorem tR_same {I I2 : px_I} (h : mXI I I2) : ∀ k, k < 5 → tR I2 k = tR I k := fun k hk => h 103 (47 + k) (by decide) (by decide) (by omega)
/-- both ask the same -/
theorem ask_eq {I I2 : px_I} {L L2 : px_L} {R : px_R} {Z : Nat → zL} {a f b t : Int32} (hw : wyP I R Z) (f1 : frB I I2 L L2) (h7 : I 33 7 = I2 103 1) (hs : cSt I) : cMt I R a f b t ↔ kAs I2 a f b t := by
  obtain ⟨-, -, -, fl, -⟩ := hw
  have one : ∀ s : Int32, cTd R s ↔ ((0 ≤ s ∧ s ≤ 95) ∧ ((0 ≤ s / 16 ∧ s / 16 ≤ 5) ∧ I2 129 (s / 16).toNatClampNeg = 1)) := fun s => by
    rw [f1.1 129 (by decide) (by decide)]
    constructor
    · rintro ⟨⟨q1, q2, q3⟩, q4⟩
      have e := px_dvI (x := s) (k := 16) (by decide) q1
      rw [show (16 : Int32).toInt = 16 by decide] at e
      have q := fl (s / 16).toNatClampNeg (px_n6 ⟨q2, q3⟩)
      rw [if_pos (Option.isSome_iff_ne_none.mpr q4)] at q
      have l := Int32.lt_iff_toInt_lt.mp q3
      rw [e.1, show (6 : Int32).toInt = 6 by decide] at l
      exact ⟨⟨q1, Int32.le_iff_toInt_le.mpr (by rw [show (95 : Int32).toInt = 95 by decide]; omega)⟩, ⟨q2, by grind⟩, q⟩
    · rintro ⟨⟨q1, q2⟩, ⟨q3, q5⟩, q4⟩
      have q6 : s / 16 < 6 := by grind
      refine ⟨⟨q1, q3, q6⟩, fun e => ?_⟩
      have q := fl (s / 16).toNatClampNeg (px_n6 ⟨q3, q6⟩)
      rw [e, q4] at q
      exact absurd q (by decide)
  unfold cMt kAs
  rw [one a, one b, ← h7]
  unfold cSt at hs
  constructor
  · rintro ⟨⟨a1, a2⟩, ⟨b1, b2⟩, c, d⟩
    exact ⟨a1, b1, a2, b2, by grind, by grind⟩
  · rintro ⟨a1, b1, a2, b2, c, d⟩
    exact ⟨⟨a1, a2⟩, ⟨b1, b2⟩, by grind, by grind⟩

set_option maxRecDepth 100000 in
theorem ls_look {n : Nat} {R : px_R} (hg : px_G n R) {Q : px_Q} (f t d : Int32) {I : px_I} (L : px_L) (hS : cSt I) (hO : cSo I) (hf : 0 ≤ f ∧ f < I 33 7) (ht : 0 ≤ t ∧ t < I 33 7) (hq : ∀ I2 L2, cGI I I2 → cDL L L2 → (∀ x : Int32, 0 ≤ x → x ≤ 2 → I2 95 x.toNatClampNeg = gC I x f t d 0 ∧ I2 96 x.toNatClampNeg = gC I x f t d 1) → Q none n I2 L2 R) : ∀ i : Int32, i ≤ 3 → 0 ≤ i → ∀ I1 L1, cGI I I1 → cDL L L1 → (∀ x : Int32, 0 ≤ x → x < i → I1 95 x.toNatClampNeg = gC I x f t d 0 ∧ I1 96 x.toNatClampNeg = gC I x f t d 1) → px M_X3_look 0 0 3 [(0, .ref 92), (1, .int f), (2, .int t), (3, .int d), (4, .int i)] [] n I1 L1 R Q := by
  refine px_up 3 (fun i ih hi => ?_)
  intro h0 I1 L1 h1 h2 hv
  have fr : ∀ b, 33 ≤ b → b ≤ 39 → I1 b = I b := fun b q1 q2 => h1 b (by omega) (by omega)
  have s1 := cSt_same fr hS
  have o1 := cSo_same fr hO
  have e33 : I1 33 7 = I 33 7 := by rw [fr 33 (by decide) (by decide)]
  have f1 : 0 ≤ f ∧ f < I1 33 7 := by rw [e33]; exact hf
  have t1 : 0 ≤ t ∧ t < I1 33 7 := by rw [e33]; exact ht
  have fr2 : ∀ v b, 33 ≤ b → b ≤ 39 → px_u I1 95 i.toNatClampNeg v b = I1 b := fun v b q1 q2 => px_u_ne (by omega)
  have e34 : ∀ v, px_u I1 95 i.toNatClampNeg v 33 7 = I1 33 7 := fun v => by rw [fr2 v 33 (by decide) (by decide)]
  refine px_ige rfl q_X3_look_3 hg rfl trivial (fun c6 => ?_) (fun c6 => ?_)
  · refine px_rv rfl q_X3_look_55 rfl rfl rfl hg rfl trivial ?_
    have e9 : i = 3 := by grind
    subst e9
    exact hq _ _ h1 h2 (fun x x0 x1 => hv x x0 (by grind))
  · refine px_cVS (ci := 7) rfl q_X3_look_9 hg rfl trivial lk_3_36 nm_X7_bound (cs_bound hg _ _ _ _ _ s1 o1 f1 t1) rfl rfl (px_lit hg rfl) rfl rfl rfl ⟨rfl, rfl⟩ ?_
    intro x25 I25 L25 h25
    obtain ⟨rfl, h25, h25r⟩ := h25
    refine px_cVS (ci := 7) rfl q_X3_look_28 hg rfl ⟨trivial, (by first | decide | (refine ⟨?_, ?_⟩ <;> grind) | grind)⟩ lk_3_36 nm_X7_bound (cs_bound hg _ _ _ _ _ (cSt_same (fr2 _) s1) (cSo_same (fr2 _) o1) (by rw [e34]; exact f1) (by rw [e34]; exact t1)) rfl rfl (px_lit hg rfl) rfl rfl rfl ⟨rfl, rfl⟩ ?_
    intro x45 I45 L45 h45
    obtain ⟨e45, h45, h45r⟩ := h45
    subst e45
    refine px_b rfl q_X3_look_48 hg rfl ⟨trivial, (by first | decide | (refine ⟨?_, ?_⟩ <;> grind) | grind)⟩ ?_
    refine px_go (ih (i + 1) (by grind) (by grind) (by grind) _ _ ((h1.u5 _ _).u6 _ _) ((h2.trans h25).trans h45) (fun x x0 x1 => ?_)) ⟨rfl, rfl, rfl, rfl, rfl, trivial⟩
    by_cases e : x = i
    · subst e
      rw [px_u_ne (show (95 : Nat) ≠ 96 by decide), px_u_at, px_u_at]
      exact ⟨(gC_of h25r).trans (gC_same fr _ _ _ _ _), (gC_of h45r).trans ((gC_same (fr2 _) _ _ _ _ _).trans (gC_same fr _ _ _ _ _))⟩
    · have en : ¬ x.toNatClampNeg = i.toNatClampNeg := fun q => e (px_inj x0 h0 q)
      rw [px_u_ne (show (95 : Nat) ≠ 96 by decide), px_u_at_ne en, px_u_at_ne en, px_u_ne (show (96 : Nat) ≠ 95 by decide)]
      exact hv x x0 (by grind)

set_option maxRecDepth 100000 in
theorem cs_look {n : Nat} {I : px_I} {L : px_L} {R : px_R} (hg : px_G n R) (f t d : Int32) (hS : cSt I) (hO : cSo I) (hf : 0 ≤ f ∧ f < I 33 7) (ht : 0 ≤ t ∧ t < I 33 7) : px_KV M_X3_look [.ref 92, .int f, .int t, .int d] n I L R (fun I2 L2 => cGI I I2 ∧ cDL L L2 ∧ ∀ x : Int32, 0 ≤ x → x ≤ 2 → I2 95 x.toNatClampNeg = gC I x f t d 0 ∧ I2 96 x.toNatClampNeg = gC I x f t d 1) := by
  refine px_of (plainFor_of_name np_RX3) (fun _ _ _ => trivial) rfl ?_
  refine px_b rfl q_X3_look_0 hg rfl trivial ?_
  exact px_go (ls_look hg f t d L hS hO hf ht (fun I2 L2 h1 h2 h3 => ⟨rfl, rfl, rfl, h1, h2, h3⟩) 0 (by decide) (by decide) I L (fun _ _ _ => rfl) (fun _ _ => rfl) (fun x x0 x1 => absurd (Int32.lt_of_le_of_lt x0 x1) (by decide))) ⟨rfl, rfl, rfl, rfl, rfl, trivial⟩

set_option maxRecDepth 100000 in
theorem cs_boundM {n : Nat} {I : px_I} {L : px_L} {R : px_R} (hg : px_G n R) (a b x h : Int32) (hx : 0 ≤ x ∧ x ≤ 2) : px_KP M_X3_bound [.ref 92, .int a, .int b, .int x, .int h] n I L R (fun r => r = bV (if h = 0 then I 95 x.toNatClampNeg else I 96 x.toNatClampNeg) (an I a) (an I b) x h) := by
  refine px_of (plainFor_of_name np_RX3) (fun _ _ _ => trivial) rfl ?_
  refine px_cSNP rfl q_X3_bound_0 hg rfl trivial lk_3_32 nm_X11_isAxis (c_isAxis hg _) rfl rfl rfl ⟨rfl, rfl⟩ ?_
  intro x1 h1
  refine px_ne rfl q_X3_bound_4 hg rfl trivial (fun c4 => ?_) (fun c4 => ?_)
  · replace h1 := px_bt h1 c4
    refine px_eq rfl q_X3_bound_10 hg rfl trivial (fun c12 => ?_) (fun c12 => ?_)
    · refine px_cVP (ci := 5) rfl q_X3_bound_24 hg rfl ⟨trivial, (by refine ⟨?_, ?_⟩ <;> grind)⟩ lk_3_43 nm_X5_answer (cs_answer hg _ _) rfl rfl (px_lit hg rfl) rfl rfl rfl ⟨rfl, rfl⟩ ?_
      intro x38 h38
      refine px_cVP (ci := 5) rfl q_X3_bound_41 hg rfl trivial lk_3_43 nm_X5_answer (cs_answer hg _ _) rfl rfl (px_lit hg rfl) rfl rfl rfl ⟨rfl, rfl⟩ ?_
      intro x49 h49
      refine px_ieq rfl q_X3_bound_52 hg rfl trivial (fun c58 => ?_) (fun c58 => ?_)
      · refine px_riP rfl q_X3_bound_75 rfl rfl rfl hg rfl trivial ⟨⟨rfl, rfl, rfl, rfl⟩, ?_⟩
        first
          | exact absurd hx (by assumption)
          | (unfold bV an; grind)
      · refine px_ieq rfl q_X3_bound_61 hg rfl trivial (fun c65 => ?_) (fun c65 => ?_)
        · refine px_riP rfl q_X3_bound_75 rfl rfl rfl hg rfl trivial ⟨⟨rfl, rfl, rfl, rfl⟩, ?_⟩
          first
            | exact absurd hx (by assumption)
            | (unfold bV an; grind)
        · refine px_ine rfl q_X3_bound_68 hg rfl trivial (fun c72 => ?_) (fun c72 => ?_)
          · refine px_cVP (ci := 5) rfl q_X3_bound_78 hg rfl trivial lk_3_43 nm_X5_answer (cs_answer hg _ _) rfl rfl (px_lit hg rfl) rfl rfl rfl ⟨rfl, rfl⟩ ?_
            intro x86 h86
            refine px_cVP (ci := 5) rfl q_X3_bound_89 hg rfl trivial lk_3_43 nm_X5_answer (cs_answer hg _ _) rfl rfl (px_lit hg rfl) rfl rfl rfl ⟨rfl, rfl⟩ ?_
            intro x97 h97
            refine px_eq rfl q_X3_bound_100 hg rfl trivial (fun c113 => ?_) (fun c113 => ?_)
            · refine px_riP rfl q_X3_bound_121 rfl rfl rfl hg rfl trivial ⟨⟨rfl, rfl, rfl, rfl⟩, ?_⟩
              first
                | exact absurd hx (by assumption)
                | (unfold bV an; grind)
            · refine px_riP rfl q_X3_bound_116 rfl rfl rfl hg rfl trivial ⟨⟨rfl, rfl, rfl, rfl⟩, ?_⟩
              first
                | exact absurd hx (by assumption)
                | (unfold bV an; grind)
          · refine px_riP rfl q_X3_bound_75 rfl rfl rfl hg rfl trivial ⟨⟨rfl, rfl, rfl, rfl⟩, ?_⟩
            first
              | exact absurd hx (by assumption)
              | (unfold bV an; grind)
    · refine px_cVP (ci := 5) rfl q_X3_bound_15 hg rfl ⟨trivial, (by refine ⟨?_, ?_⟩ <;> grind)⟩ lk_3_43 nm_X5_answer (cs_answer hg _ _) rfl rfl (px_lit hg rfl) rfl rfl rfl ⟨rfl, rfl⟩ ?_
      intro x38 h38
      refine px_cVP (ci := 5) rfl q_X3_bound_41 hg rfl trivial lk_3_43 nm_X5_answer (cs_answer hg _ _) rfl rfl (px_lit hg rfl) rfl rfl rfl ⟨rfl, rfl⟩ ?_
      intro x49 h49
      refine px_ieq rfl q_X3_bound_52 hg rfl trivial (fun c58 => ?_) (fun c58 => ?_)
      · refine px_riP rfl q_X3_bound_75 rfl rfl rfl hg rfl trivial ⟨⟨rfl, rfl, rfl, rfl⟩, ?_⟩
        first
          | exact absurd hx (by assumption)
          | (unfold bV an; grind)
      · refine px_ieq rfl q_X3_bound_61 hg rfl trivial (fun c65 => ?_) (fun c65 => ?_)
        · refine px_riP rfl q_X3_bound_75 rfl rfl rfl hg rfl trivial ⟨⟨rfl, rfl, rfl, rfl⟩, ?_⟩
          first
            | exact absurd hx (by assumption)
            | (unfold bV an; grind)
        · refine px_ine rfl q_X3_bound_68 hg rfl trivial (fun c72 => ?_) (fun c72 => ?_)
          · refine px_cVP (ci := 5) rfl q_X3_bound_78 hg rfl trivial lk_3_43 nm_X5_answer (cs_answer hg _ _) rfl rfl (px_lit hg rfl) rfl rfl rfl ⟨rfl, rfl⟩ ?_
            intro x86 h86
            refine px_cVP (ci := 5) rfl q_X3_bound_89 hg rfl trivial lk_3_43 nm_X5_answer (cs_answer hg _ _) rfl rfl (px_lit hg rfl) rfl rfl rfl ⟨rfl, rfl⟩ ?_
            intro x97 h97
            refine px_eq rfl q_X3_bound_100 hg rfl trivial (fun c113 => ?_) (fun c113 => ?_)
            · refine px_riP rfl q_X3_bound_121 rfl rfl rfl hg rfl trivial ⟨⟨rfl, rfl, rfl, rfl⟩, ?_⟩
              first
                | exact absurd hx (by assumption)
                | (unfold bV an; grind)
            · refine px_riP rfl q_X3_bound_116 rfl rfl rfl hg rfl trivial ⟨⟨rfl, rfl, rfl, rfl⟩, ?_⟩
              first
                | exact absurd hx (by assumption)
                | (unfold bV an; grind)
          · refine px_riP rfl q_X3_bound_75 rfl rfl rfl hg rfl trivial ⟨⟨rfl, rfl, rfl, rfl⟩, ?_⟩
            first
              | exact absurd hx (by assumption)
              | (unfold bV an; grind)
  · replace h1 := px_bf h1 c4
    refine px_riP rfl q_X3_bound_7 rfl rfl rfl hg rfl trivial ⟨⟨rfl, rfl, rfl, rfl⟩, ?_⟩
    first
      | exact absurd hx (by assumption)
      | (unfold bV an; grind)
