/-! sights: which ones count, and what is asked of them -/
def sAc (ax td : Nat → Int32) (a k w : Int32) (i : Nat) : Bool := decide (ax i = a) && decide (td i ≤ k) && decide (Int32.ofNat i ≠ w)
def sNt (r : Nat → Int32) (i : Nat) : Nat := (r i).toNatClampNeg
def sPl (r : Nat → Int32) (i : Nat) : Int64 := (r i).toInt64
def sMi (r : Nat → Int32) (i : Nat) : Int64 := (0 - r i).toInt64
def sD (ax fr to lo hi td : Nat → Int32) (c n : Int32) (a k w : Int32) : Nat → Int64 := gD (sAc ax td a k w) (sNt fr) (sNt to) (sPl hi) (sMi lo) c.toNatClampNeg n.toNatClampNeg
def mD (I : px_I) (a k w : Int32) : Nat → Int64 := sD (I 104) (I 105) (I 106) (I 107) (I 108) (I 109) (I 103 2) (I 103 1) a k w
def mGd (I : px_I) (a k w : Int32) : Prop := fGood (mD I a k w) (I 103 1).toNatClampNeg
def cD (I : px_I) (a k w : Int32) : Nat → Int64 := sD (I 34) (I 35) (I 36) (I 37) (I 38) (I 39) (I 33 8) (I 33 7) a k w
def cGd (I : px_I) (a k w : Int32) : Prop := fGood (cD I a k w) (I 33 7).toNatClampNeg
theorem sAc_iff {ax td : Nat → Int32} {a k w i : Int32} (h0 : 0 ≤ i) (h1 : ¬ 1000 ≤ i) : sAc ax td a k w i.toNatClampNeg = true ↔ (ax i.toNatClampNeg = a ∧ td i.toNatClampNeg ≤ k ∧ i ≠ w) := by
  unfold sAc
  rw [(px_tnS h0 h1).2]
  simp [and_assoc]
theorem sAc_no {ax td : Nat → Int32} {a k w i : Int32} (h0 : 0 ≤ i) (h1 : ¬ 1000 ≤ i) (h : ¬ (ax i.toNatClampNeg = a ∧ td i.toNatClampNeg ≤ k ∧ i ≠ w)) : sAc ax td a k w i.toNatClampNeg = false := by
  cases e : sAc ax td a k w i.toNatClampNeg with
  | false => rfl
  | true => exact absurd ((sAc_iff h0 h1).mp e) h
theorem gS_no {A : Nat → Bool} {f t : Nat → Nat} {p q : Nat → Int64} {k : Nat} (h : A k = false) : gS A f t p q (k + 1) = gS A f t p q k := by
  show (if A k = true then _ else _) = _
  rw [if_neg (by rw [h]; decide)]
theorem gS_yes {A : Nat → Bool} {f t : Nat → Nat} {p q : Nat → Int64} {k : Nat} (h : A k = true) : gS A f t p q (k + 1) = fU1 (fU1 (gS A f t p q k) (24 * f k + t k) (p k)) (24 * t k + f k) (q k) := if_pos h
theorem gS_stay {ax td : Nat → Int32} {a k w i : Int32} {f t : Nat → Nat} {p q : Nat → Int64} {F : Nat → Int64} (h0 : 0 ≤ i) (h1 : ¬ 1000 ≤ i) (hF : feq F (gS (sAc ax td a k w) f t p q i.toNatClampNeg)) (h : ¬ (ax i.toNatClampNeg = a ∧ td i.toNatClampNeg ≤ k ∧ i ≠ w)) : feq F (gS (sAc ax td a k w) f t p q (i + 1).toNatClampNeg) := by
  rw [(px_tnS h0 h1).1, gS_no (sAc_no h0 h1 h)]; exact hF
theorem gS_go {ax fr to lo hi td : Nat → Int32} {a k w i : Int32} {F F1 F2 : Nat → Int64} (h0 : 0 ≤ i) (h1 : ¬ 1000 ≤ i) (hF : feq F (gS (sAc ax td a k w) (sNt fr) (sNt to) (sPl hi) (sMi lo) i.toNatClampNeg)) (h : ax i.toNatClampNeg = a ∧ td i.toNatClampNeg ≤ k ∧ i ≠ w)
    (hf : 0 ≤ fr i.toNatClampNeg ∧ fr i.toNatClampNeg < 24) (ht : 0 ≤ to i.toNatClampNeg ∧ to i.toNatClampNeg < 24) (e1 : F1 = fU1 F (24 * fr i.toNatClampNeg + to i.toNatClampNeg).toNatClampNeg (hi i.toNatClampNeg).toInt64) (e2 : F2 = fU1 F1 (24 * to i.toNatClampNeg + fr i.toNatClampNeg).toNatClampNeg (0 - lo i.toNatClampNeg).toInt64) :
    feq F2 (gS (sAc ax td a k w) (sNt fr) (sNt to) (sPl hi) (sMi lo) (i + 1).toNatClampNeg) := by
  obtain ⟨a1, a2, a3⟩ := px_24 hf ht
  rw [(px_tnS h0 h1).1, gS_yes ((sAc_iff h0 h1).mpr h), e2, e1, a1, (px_24 ht hf).1]
  refine (hF.U ?_).U ?_
  · show 24 * _ + _ < 576; omega
  · show 24 * _ + _ < 576; omega
noncomputable def pdec (P : Prop) : Bool := @decide P (Classical.propDecidable P)
theorem pdec_t {P : Prop} (h : P) : pdec P = true := @decide_eq_true P (Classical.propDecidable P) h
theorem pdec_f {P : Prop} (h : ¬ P) : pdec P = false := @decide_eq_false P (Classical.propDecidable P) h
theorem pdec_eq {P S : Prop} (h : P ↔ S) : pdec P = pdec S := by rw [propext h]
/-- the one of that rank, from k on, of m -/
def bF (T : Nat → Bool) : Nat → Nat → Int32 → Int32
  | 0, _, _ => -1
  | m + 1, k, l => if T k = true then (if l = 0 then Int32.ofNat k else bF T m (k + 1) (l + -1)) else bF T m (k + 1) l
theorem bF_end {T : Nat → Bool} {c k : Nat} {l : Int32} (h : c ≤ k) : bF T (c - k) k l = -1 := by
  rw [show c - k = 0 by omega]; rfl
theorem bF_no {T : Nat → Bool} {c k : Nat} {l : Int32} (h : k < c) (hT : T k = false) : bF T (c - k) k l = bF T (c - (k + 1)) (k + 1) l := by
  rw [show c - k = c - (k + 1) + 1 by omega]
  show (if T k = true then _ else _) = _
  rw [if_neg (by rw [hT]; decide)]
theorem bF_hit {T : Nat → Bool} {c k : Nat} {l : Int32} (h : k < c) (hT : T k = true) (hl : l = 0) : bF T (c - k) k l = Int32.ofNat k := by
  rw [show c - k = c - (k + 1) + 1 by omega]
  show (if T k = true then _ else _) = _
  rw [if_pos hT, if_pos hl]
theorem bF_on {T : Nat → Bool} {c k : Nat} {l : Int32} (h : k < c) (hT : T k = true) (hl : ¬ l = 0) : bF T (c - k) k l = bF T (c - (k + 1)) (k + 1) (l + -1) := by
  rw [show c - k = c - (k + 1) + 1 by omega]
  show (if T k = true then _ else _) = _
  rw [if_pos hT, if_neg hl]
noncomputable def sT (ax td : Nat → Int32) (G : Int32 → Prop) (a k : Int32) (i : Nat) : Bool := decide (ax i = a) && decide (td i ≤ k) && pdec (G (Int32.ofNat i))
theorem sT_t {ax td : Nat → Int32} {G : Int32 → Prop} {a k i : Int32} (h0 : 0 ≤ i) (h1 : ¬ 1000 ≤ i) (e1 : ax i.toNatClampNeg = a) (e2 : td i.toNatClampNeg ≤ k) (e3 : G i) : sT ax td G a k i.toNatClampNeg = true := by
  unfold sT
  rw [(px_tnS h0 h1).2, pdec_t e3]
  simp [e1, e2]
theorem sT_f {ax td : Nat → Int32} {G : Int32 → Prop} {a k i : Int32} (h0 : 0 ≤ i) (h1 : ¬ 1000 ≤ i) (h : ¬ (ax i.toNatClampNeg = a ∧ td i.toNatClampNeg ≤ k) ∨ ¬ G i) : sT ax td G a k i.toNatClampNeg = false := by
  unfold sT
  rw [(px_tnS h0 h1).2]
  rcases h with h | h
  · by_cases e1 : ax i.toNatClampNeg = a
    · have e2 : ¬ td i.toNatClampNeg ≤ k := fun e2 => h ⟨e1, e2⟩
      simp [e2]
    · simp [e1]
  · rw [pdec_f h]; simp
def mGp (F : Nat → Int64) (f t h : Int32) : Int32 := if ¬ h = 0 then (if 1000000000000 ≤ F (24 * f + t).toNatClampNeg then -2000000000 else (F (24 * f + t).toNatClampNeg).toInt32) else (if 1000000000000 ≤ F (24 * t + f).toNatClampNeg then -2000000000 else (-(F (24 * t + f).toNatClampNeg)).toInt32)
theorem mGp_eq {F G : Nat → Int64} {f t h : Int32} (hf : 0 ≤ f ∧ f < 24) (ht : 0 ≤ t ∧ t < 24) (e : feq F G) : mGp F f t h = mGp G f t h := by
  unfold mGp
  obtain ⟨a1, a2, a3⟩ := px_24 hf ht
  obtain ⟨b1, b2, b3⟩ := px_24 ht hf
  rw [a1, b1, e _ (by omega), e _ (by omega)]
def qOk (a k : Int32) : Prop := (0 ≤ a ∧ a ≤ 2) ∧ (0 ≤ k ∧ k ≤ 9999)
def qClosed (G : Prop) (a k r : Int32) : Prop := (qOk a k ∧ ((r = 1 ∧ G) ∨ (r = 0 ∧ ¬ G))) ∨ (¬ qOk a k ∧ r = -1)
def qGap (G : Prop) (D : Nat → Int64) (n a f t k h r : Int32) : Prop := ((qOk a k ∧ (0 ≤ f ∧ f < n) ∧ (0 ≤ t ∧ t < n)) ∧ ((G ∧ r = mGp D f t h) ∨ (¬ G ∧ r = -2000000000))) ∨ (¬ (qOk a k ∧ (0 ≤ f ∧ f < n) ∧ (0 ≤ t ∧ t < n)) ∧ r = -2000000000)
def qBl (G : Prop) (T : Nat → Bool) (c : Nat) (a k i r : Int32) : Prop := ((qOk a k ∧ 0 ≤ i) ∧ ((G ∧ r = -1) ∨ (¬ G ∧ r = bF T c 0 i))) ∨ (¬ (qOk a k ∧ 0 ≤ i) ∧ r = -1)
