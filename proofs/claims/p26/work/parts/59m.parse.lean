/-! the class comes to just that -/
theorem tCK (B : Nat → Int32) (n q : Nat) : (tC B n q = 0 ↔ tK B n q = 0) ∧ (tC B n q = 2 ↔ tK B n q = 3) ∧ (tC B n q = 3 ↔ tK B n q = 4 ∧ tV B n q = 59) ∧ (tC B n q = 4 ↔ tK B n q = 4 ∧ tV B n q = 123) ∧ (tC B n q = 5 ↔ tK B n q = 4 ∧ tV B n q = 125) ∧ (tK B n q = 1 → tC B n q = 1) ∧ (tK B n q = 2 → tC B n q = 1) := by
  unfold tC tK tV
  by_cases c0 : n ≤ tS B n q
  · simp only [if_pos c0]
    refine ⟨by decide, by decide, ?_, ?_, ?_, by decide, by decide⟩ <;> exact ⟨fun z => absurd z (by decide), fun z => absurd z.1 (by decide)⟩
  · simp only [if_neg c0]
    by_cases c1 : bL (B (tS B n q)) = true
    · simp only [if_pos c1]
      by_cases c2 : rn bL B n (tS B n q) = tS B n q + 1 ∧ 97 ≤ B (tS B n q) ∧ B (tS B n q) ≤ 104
      · simp only [if_pos c2]
        refine ⟨by decide, by decide, ?_, ?_, ?_, by decide, by decide⟩ <;> exact ⟨fun z => absurd z (by decide), fun z => absurd z.1 (by decide)⟩
      · simp only [if_neg c2]
        by_cases c3 : wId B (tS B n q) (rn bL B n (tS B n q) - tS B n q) < 0
        · simp only [if_pos c3]
          refine ⟨by decide, by decide, ?_, ?_, ?_, by decide, by decide⟩ <;> exact ⟨fun z => absurd z (by decide), fun z => absurd z.1 (by decide)⟩
        · simp only [if_neg c3]
          refine ⟨by decide, by decide, ?_, ?_, ?_, by decide, by decide⟩ <;> exact ⟨fun z => absurd z (by decide), fun z => absurd z.1 (by decide)⟩
    · simp only [if_neg c1]
      by_cases c2 : bD (B (tS B n q)) = true
      · simp only [if_pos c2]
        refine ⟨by decide, by decide, ?_, ?_, ?_, by decide, by decide⟩ <;> exact ⟨fun z => absurd z (by decide), fun z => absurd z.1 (by decide)⟩
      · simp only [if_neg c2]
        generalize B (tS B n q) = x
        grind
theorem tC1 {B : Nat → Int32} {n q : Nat} : tC B n q = 1 ↔ tS B n q < n ∧ bL (B (tS B n q)) = true := by
  unfold tC
  by_cases c0 : n ≤ tS B n q
  · rw [if_pos c0]; exact ⟨fun z => absurd z (by decide), fun z => by omega⟩
  · rw [if_neg c0]
    by_cases c1 : bL (B (tS B n q)) = true
    · rw [if_pos c1]; exact ⟨fun _ => ⟨by omega, c1⟩, fun _ => rfl⟩
    · rw [if_neg c1]
      refine ⟨fun z => absurd z ?_, fun z => absurd z.2 c1⟩
      split
      · decide
      · split
        · decide
        · split
          · decide
          · split <;> decide
theorem tC2V {B : Nat → Int32} {n q : Nat} (h : tC B n q = 2) : tV B n q = nv B n (tS B n q) 0 := by
  have c0 : ¬ n ≤ tS B n q := fun c0 => by unfold tC at h; rw [if_pos c0] at h; exact absurd h (by decide)
  unfold tC at h
  rw [if_neg c0] at h
  unfold tV
  by_cases c1 : bL (B (tS B n q)) = true
  · rw [if_pos c1] at h; exact absurd h (by decide)
  · rw [if_neg c1] at h ⊢
    by_cases c2 : bD (B (tS B n q)) = true
    · rw [if_pos c2]
    · rw [if_neg c2] at h
      exfalso
      revert h
      split
      · decide
      · split
        · decide
        · split <;> decide
theorem tC_ne0 {B : Nat → Int32} {n q : Nat} (h : tS B n q < n) : ¬ tC B n q = 0 := by
  rw [(tCK B n q).1]
  intro z
  unfold tK at z
  rw [if_neg (by omega)] at z
  revert z
  split
  · split
    · decide
    · split <;> decide
  · split
    · decide
    · split <;> decide
/-- what stays small -/
def xB (I : px_I) (d : Int32) : Prop := (∀ q : Nat, q ≤ d.toNatClampNeg → 0 ≤ I 82 q ∧ I 82 q ≤ 5001) ∧ (∀ q : Nat, 1 ≤ q → q ≤ d.toNatClampNeg → 1 ≤ I 81 q ∧ I 81 q ≤ 99) ∧ (∀ l : Nat, l < 8 → -1 ≤ I 84 l ∧ I 84 l ≤ 5001) ∧ I 76 15 = -1
/-- the same view -/
def xV (I J : px_I) : Prop := (∀ b, 70 ≤ b → b ≤ 76 → J b = I b) ∧ J 84 = I 84 ∧ ((0 ≤ I 76 7 ∧ I 76 7 ≤ 8) → xB I (I 76 7) → xB J (I 76 7))
theorem xV.rfl' {I : px_I} : xV I I := ⟨fun _ _ _ => rfl, rfl, fun _ h => h⟩
theorem xV.trans {I J K : px_I} (h : xV I J) (h2 : xV J K) : xV I K := by
  obtain ⟨a1, a2, a3⟩ := h
  obtain ⟨b1, b2, b3⟩ := h2
  refine ⟨fun b q1 q2 => (b1 b q1 q2).trans (a1 b q1 q2), b2.trans a2, fun q1 q2 => ?_⟩
  have e : J 76 7 = I 76 7 := by rw [a1 76 (by decide) (by decide)]
  rw [e] at b3
  exact b3 q1 (a3 q1 q2)
theorem cAdd_o {w b : Nat} {I : px_I} {o v : Int32} (h1 : b ≠ w) (h2 : b ≠ w + 1) (h3 : b ≠ w + 2) : cAdd I w o v b = I b := by
  unfold cAdd
  split
  · rw [px_u_ne h1, px_u_ne h3, px_u_ne h2]
  · rfl
theorem cAdd_V {w : Nat} {I : px_I} {o v : Int32} (hw : w = 77 ∨ 147 ≤ w) : xV I (cAdd I w o v) := by
  have e : ∀ b, b < 77 ∨ (79 < b ∧ b < 147) → cAdd I w o v b = I b := fun b hb => cAdd_o (by omega) (by omega) (by omega)
  refine ⟨fun b _ _ => e b (by omega), e 84 (by omega), fun _ h => ?_⟩
  unfold xB at *
  rw [e 82 (by omega), e 81 (by omega), e 84 (by omega), e 76 (by omega)]
  exact h
theorem cMn_5001 {a m : Int32} (h : 0 ≤ a ∧ a ≤ 5001) (h0 : 0 ≤ m ∧ m ≤ 500000) : 0 ≤ cMn (a + m) 5001 ∧ cMn (a + m) 5001 ≤ 5001 := by
  unfold cMn
  grind
theorem xAS_o {b : Nat} {I : px_I} {m : Int32} (h : b ≠ 82) : xAS I m b = I b := by
  unfold xAS
  split
  · rw [px_u_ne h]
  · rfl
theorem xAS_B {I : px_I} {m : Int32} (h0 : 0 ≤ m ∧ m ≤ 500000) (hd : 0 ≤ I 76 7 ∧ I 76 7 ≤ 8) (h : xB I (I 76 7)) : xB (xAS I m) (I 76 7) := by
  obtain ⟨b1, b2, b3, b4⟩ := h
  refine ⟨fun q hq => ?_, fun q q1 q2 => ?_, fun l hl => ?_, by rw [xAS_o (by decide)]; exact b4⟩
  · unfold xAS
    rw [if_pos hd]
    by_cases e : q = (I 76 7).toNatClampNeg
    · rw [e, px_u_at]
      exact cMn_5001 (b1 _ (Nat.le_refl _)) h0
    · rw [px_u_at_ne e]
      exact b1 q hq
  · rw [xAS_o (by decide)]; exact b2 q q1 q2
  · rw [xAS_o (by decide)]; exact b3 l hl
theorem xAS_V {I : px_I} {m : Int32} (h0 : 0 ≤ m ∧ m ≤ 500000) : xV I (xAS I m) := ⟨fun b _ _ => xAS_o (by omega), xAS_o (by decide), fun hd h => xAS_B h0 hd h⟩
/-- where the reader stands -/
def xT (B : Nat → Int32) (n : Nat) (I : px_I) (p : Nat) : Prop := cTA B n I ∧ byC I = B ∧ nC I = n ∧ n ≤ 400 ∧ (0 ≤ I 70 6 ∧ I 70 6 ≤ 401) ∧ (-1 ≤ I 76 9 ∧ I 76 9 ≤ 400) ∧ (I 76 9 + 1).toNatClampNeg < (I 70 6).toNatClampNeg ∧ tpos I (I 76 9 + 1).toNatClampNeg = p
theorem xT.cg {B : Nat → Int32} {n p : Nat} {I J : px_I} (h : xT B n I p) (h1 : ∀ b, 70 ≤ b → b ≤ 75 → J b = I b) (h2 : J 76 9 = I 76 9) : xT B n J p := by
  obtain ⟨a1, a2, a3, a4, a5, a6, a7, a8⟩ := h
  have e := fun b q1 q2 => h1 b q1 q2
  have tp : ∀ k, tpos J k = tpos I k := fun k => tpos_cg k (fun j _ => ⟨by rw [e 73 (by decide) (by decide)], by rw [e 74 (by decide) (by decide)]⟩)
  refine ⟨?_, ?_, ?_, a4, by rw [e 70 (by decide) (by decide)]; exact a5, by rw [h2]; exact a6, by rw [h2, e 70 (by decide) (by decide)]; exact a7, by rw [h2, tp]; exact a8⟩
  · obtain ⟨N, n1, n2, n3, n4, n5, n6⟩ := a1
    refine ⟨N, by rw [e 70 (by decide) (by decide)]; exact n1, fun k hk => (n2 k hk).cg (fun j _ => ⟨by rw [e 72 (by decide) (by decide)], by rw [e 73 (by decide) (by decide)], by rw [e 74 (by decide) (by decide)], by rw [e 75 (by decide) (by decide)]⟩), by rw [tp]; exact n3, by rw [e 72 (by decide) (by decide)]; exact n4, ?_, by rw [e 73 (by decide) (by decide)]; exact n6⟩
    unfold pl at *
    rw [e 73 (by decide) (by decide)]; exact n5
  · rw [← a2]; unfold byC; rw [e 70 (by decide) (by decide), e 71 (by decide) (by decide)]
  · rw [← a3]; unfold nC; rw [e 70 (by decide) (by decide)]
/-- the token at which it stands -/
def xC (B : Nat → Int32) (n : Nat) (I : px_I) (q : Nat) : Prop := I 76 10 = tC B n q ∧ ((I 76 11).toNatClampNeg = tS B n q ∧ 0 ≤ I 76 11) ∧ (tC B n q = 2 → I 76 12 = tV B n q) ∧ (¬ tC B n q = 0 → xT B n I (tE B n q) ∧ (0 ≤ I 76 9 ∧ I 76 9 ≤ I 70 6 - 1) ∧ OKt B n I (I 76 9).toNatClampNeg ∧ tpos I (I 76 9).toNatClampNeg = q ∧ I 76 11 = I 73 (I 76 9).toNatClampNeg)
theorem xNx_o {I : px_I} {b j : Nat} (h : ¬ (b = 76 ∧ 9 ≤ j ∧ j ≤ 12)) : xNx I b j = I b j := by
  unfold xNx
  split
  · simp only [px_ur]; grind
  · rfl
theorem xNx_r {I : px_I} {b : Nat} (h : b ≠ 76) : xNx I b = I b := funext fun j => xNx_o (fun q => h q.1)
theorem xNx.C {B : Nat → Int32} {n p : Nat} {I : px_I} (h : xT B n I p) : xC B n (xNx I) p := by
  obtain ⟨a1, a2, a3, a4, a5, a6, a7, a8⟩ := id h
  have t0 : 0 ≤ I 76 9 + 1 := by grind
  have x1 := xnat t0
  have x2 := xnat a5.1
  have lt : I 76 9 + 1 < I 70 6 := Int32.lt_iff_toInt_lt.mpr (by omega)
  have hx : xNx I = px_u (px_u (px_u (px_u I 76 9 (I 76 9 + 1)) 76 10 (I 72 (I 76 9 + 1).toNatClampNeg)) 76 11 (I 73 (I 76 9 + 1).toNatClampNeg)) 76 12 (I 75 (I 76 9 + 1).toNatClampNeg) := if_pos lt
  have e9 : xNx I 76 9 = I 76 9 + 1 := by rw [hx]; simp [px_ur]
  have e10 : xNx I 76 10 = I 72 (I 76 9 + 1).toNatClampNeg := by rw [hx]; simp [px_ur]
  have e11 : xNx I 76 11 = I 73 (I 76 9 + 1).toNatClampNeg := by rw [hx]; simp [px_ur]
  have e12 : xNx I 76 12 = I 75 (I 76 9 + 1).toNatClampNeg := by rw [hx]; simp [px_ur]
  obtain ⟨N, n1, n2, n3, n4, n5, n6⟩ := id a1
  have tp : ∀ k, tpos (xNx I) k = tpos I k := fun k => tpos_cg k (fun j _ => ⟨by rw [xNx_r (by decide)], by rw [xNx_r (by decide)]⟩)
  by_cases hk : (I 76 9 + 1).toNatClampNeg < N
  · obtain ⟨k1, k2, k3, k4, k5, k6⟩ := id (n2 _ hk)
    rw [a8] at k2 k4 k5
    refine ⟨by rw [e10]; exact k4, ⟨by rw [e11]; exact k2, by rw [e11]; exact k1.1⟩, fun z => ?_, fun _ => ⟨?_, ?_, ?_, ?_, ?_⟩⟩
    · rw [e12, k6 (by rw [k4]; exact z), k2, tC2V z]
    · have up := (px_tnS t0 (by grind)).1
      refine ⟨?_, ?_, ?_, a4, by rw [xNx_r (by decide)]; exact a5, by rw [e9]; grind, by rw [e9, xNx_r (by decide), up]; omega, ?_⟩
      · refine ⟨N, by rw [xNx_r (by decide)]; exact n1, fun k q => (n2 k q).cg (fun j _ => ⟨by rw [xNx_r (by decide)], by rw [xNx_r (by decide)], by rw [xNx_r (by decide)], by rw [xNx_r (by decide)]⟩), by rw [tp]; exact n3, by rw [xNx_r (by decide)]; exact n4, ?_, by rw [xNx_r (by decide)]; exact n6⟩
        unfold pl at *
        rw [xNx_r (by decide)]; exact n5
      · rw [← a2]; unfold byC; rw [xNx_r (by decide), xNx_r (by decide)]
      · rw [← a3]; unfold nC; rw [xNx_r (by decide)]
      · rw [e9, tp, up]
        exact k5
    · rw [e9, xNx_r (by decide)]; grind
    · rw [e9]
      exact (n2 _ hk).cg (fun j _ => ⟨by rw [xNx_r (by decide)], by rw [xNx_r (by decide)], by rw [xNx_r (by decide)], by rw [xNx_r (by decide)]⟩)
    · rw [e9, tp]; exact a8
    · rw [e11, e9, xNx_r (by decide)]
  · have hN : (I 76 9 + 1).toNatClampNeg = N := by omega
    rw [hN] at a8 e10 e11
    rw [a8] at n3
    have z0 : tC B n p = 0 := by unfold tC; rw [if_pos (by omega)]
    exact ⟨by rw [e10, z0]; exact n4, ⟨by rw [e11, n3]; exact n5, by rw [e11]; exact n6⟩, fun z => by rw [z0] at z; exact absurd z (by decide), fun z => absurd z0 z⟩
/-- at a part -/
def xP (I : px_I) (d o m : Int32) (T : Nat → Bool) : Prop := I 76 14 = 0 ∧ I 76 7 = d ∧ I 76 8 = o ∧ I 76 13 = m ∧ (0 ≤ d ∧ d ≤ 8) ∧ (d = 0 → o = -1) ∧ (-1 ≤ o ∧ o ≤ 7) ∧ (∀ l : Nat, l < 8 → (T l = true ↔ ¬ I 84 l = -1)) ∧ xB I d
theorem xP.cg {I J : px_I} {d o m : Int32} {T : Nat → Bool} (h : xP I d o m T) (h1 : J 76 14 = I 76 14) (h2 : J 76 7 = I 76 7) (h3 : J 76 8 = I 76 8) (h4 : J 76 13 = I 76 13) (h5 : J 84 = I 84) (h6 : xB I d → xB J d) : xP J d o m T := by
  unfold xP at *
  rw [h1, h2, h3, h4, h5]
  exact ⟨h.1, h.2.1, h.2.2.1, h.2.2.2.1, h.2.2.2.2.1, h.2.2.2.2.2.1, h.2.2.2.2.2.2.1, h.2.2.2.2.2.2.2.1, h6 h.2.2.2.2.2.2.2.2⟩
theorem xP.nx {I : px_I} {d o m : Int32} {T : Nat → Bool} (h : xP I d o m T) : xP (xNx I) d o m T := h.cg (xNx_o (by omega)) (xNx_o (by omega)) (xNx_o (by omega)) (xNx_o (by omega)) (xNx_r (by decide)) (fun q => by
  unfold xB at *
  rw [xNx_r (by decide), xNx_r (by decide), xNx_r (by decide), xNx_o (by omega)]
  exact q)
theorem xP.V {I J : px_I} {d o m : Int32} {T : Nat → Bool} (h : xP I d o m T) (hv : xV I J) : xP J d o m T := by
  have e := hv.1 76 (by decide) (by decide)
  refine h.cg (by rw [e]) (by rw [e]) (by rw [e]) (by rw [e]) hv.2.1 (fun q => ?_)
  have e7 := h.2.1
  have := hv.2.2
  rw [e7] at this
  exact this h.2.2.2.2.1 q
theorem xT.V {B : Nat → Int32} {n p : Nat} {I J : px_I} (h : xT B n I p) (hv : xV I J) : xT B n J p := h.cg (fun b q1 q2 => hv.1 b q1 (by omega)) (by rw [hv.1 76 (by decide) (by decide)])
/-- with a fault -/
def xE (I : px_I) (f : Int32) (a : Nat) : Prop := I 76 14 = f ∧ (I 76 15).toNatClampNeg = a ∧ 0 ≤ I 76 15
theorem xE.V {I J : px_I} {f : Int32} {a : Nat} (h : xE I f a) (hv : xV I J) : xE J f a := by
  unfold xE at *
  rw [hv.1 76 (by decide) (by decide)]
  exact h
theorem xE.tk {I : px_I} {f : Int32} {a : Nat} (h : xE I f a) (hf : 1 ≤ f) (k : Int32) : xE (xTk I k) f a := by
  unfold xTk
  rw [if_neg (by rw [h.1]; grind)]
  exact h
theorem xE.fl {I : px_I} {f : Int32} {a : Nat} (h : xE I f a) (hf : 1 ≤ f) (k : Int32) : xE (xFl I k) f a := by
  unfold xFl
  rw [if_neg (by rw [h.1]; grind)]
  exact h
theorem xFl.E {B : Nat → Int32} {n q : Nat} {I : px_I} {f : Int32} (h : xC B n I q) (h0 : I 76 14 = 0) : xE (xFl I f) f (tS B n q) := by
  unfold xFl
  rw [if_pos h0]
  refine ⟨by simp [px_ur], ?_, ?_⟩
  · simp [px_ur]; exact h.2.1.1
  · simp [px_ur]; exact h.2.1.2
theorem xTk.ok {B : Nat → Int32} {n q : Nat} {I : px_I} {k : Int32} (h : xT B n I q) (h0 : I 76 14 = 0) (hk : tC B n q = k) : xTk I k = xNx I := by
  unfold xTk
  rw [if_pos h0, if_pos (by rw [(xNx.C h).1]; exact hk)]
theorem xTk.bad {B : Nat → Int32} {n q : Nat} {I : px_I} {k : Int32} (h : xT B n I q) (h0 : I 76 14 = 0) (hk : ¬ tC B n q = k) : xE (xTk I k) 1 (tS B n q) := by
  have c := xNx.C h
  unfold xTk
  rw [if_pos h0, if_neg (by rw [c.1]; exact hk)]
  exact xFl.E c (by rw [xNx_o (by omega)]; exact h0)
/-- where a part has been read -/
def xO (B : Nat → Int32) (n : Nat) (I2 : px_I) (r : zR) : Prop := (r.1 = -1 ∧ xT B n I2 r.2.2.1 ∧ xP I2 r.2.2.2.1 r.2.2.2.2.1 (r.2.2.2.2.2.1 + (if 0 < r.2.2.2.1 then 1 else 0)) r.2.2.2.2.2.2) ∨ (1 ≤ r.1 ∧ xE I2 r.1 r.2.1)
theorem xO.go {B : Nat → Int32} {n p : Nat} {I2 : px_I} {d o m : Int32} {T : Nat → Bool} (h : xT B n I2 p) (hs : xP I2 d o (m + (if 0 < d then 1 else 0)) T) : xO B n I2 (zgo p d o m T) := Or.inl ⟨rfl, h, hs⟩
theorem xO.bad {B : Nat → Int32} {n a : Nat} {I2 : px_I} {f : Int32} (h : xE I2 f a) (hf : 1 ≤ f) : xO B n I2 (zbad f a) := Or.inr ⟨hf, h⟩
theorem xO.V {B : Nat → Int32} {n : Nat} {I J : px_I} {r : zR} (h : xO B n I r) (hv : xV I J) : xO B n J r := h.imp (fun q => ⟨q.1, q.2.1.V hv, q.2.2.V hv⟩) (fun q => ⟨q.1, q.2.V hv⟩)
/-- the ; behind a step -/
theorem xSO.A {B : Nat → Int32} {n q : Nat} {I : px_I} {d o m : Int32} {T : Nat → Bool} (h : xT B n I q) (hs : xP I d o (m + 1) T) : xO B n (xTk I 3) (zSO B n q d o m T) := by
  unfold zSO
  by_cases c : tC B n q = 3
  · have c1 := (tCK B n q).2.2.1.mp c
    rw [if_pos c1, xTk.ok h hs.1 c]
    refine xO.go ((xNx.C h).2.2.2 (by rw [c]; decide)).1 ?_
    have e : m + (if d = 0 then 1 else 0) + (if 0 < d then 1 else 0) = m + 1 := by have := hs.2.2.2.2.1; grind
    rw [e]
    exact hs.nx
  · rw [if_neg (fun z => c ((tCK B n q).2.2.1.mpr z))]
    exact xO.bad (xTk.bad h hs.1 c) (by decide)
theorem xTN.A {B : Nat → Int32} {n q : Nat} {I : px_I} {w a b : Int32} (h : xT B n I q) (h0 : I 76 14 = 0) (ha : a = yLo w) (hb : b = yHi w) :
    (tK B n q = 3 ∧ (yLo w ≤ tV B n q ∧ tV B n q ≤ yHi w) ∧ xTN I a b = xNx I ∧ xNx I 76 12 = tV B n q) ∨ (tK B n q = 3 ∧ ¬ (yLo w ≤ tV B n q ∧ tV B n q ≤ yHi w) ∧ xE (xTN I a b) 2 (tS B n q)) ∨ (¬ tK B n q = 3 ∧ xE (xTN I a b) 1 (tS B n q)) := by
  have c := xNx.C h
  have z0 : xNx I 76 14 = 0 := by rw [xNx_o (by omega)]; exact h0
  by_cases t : tC B n q = 2
  · have e := xTk.ok h h0 t
    have v := c.2.2.1 t
    unfold xTN
    rw [e, v]
    by_cases r : yLo w ≤ tV B n q ∧ tV B n q ≤ yHi w
    · refine Or.inl ⟨(tCK B n q).2.1.mp t, r, ?_, rfl⟩
      rw [if_neg (fun q => q.2 (by rw [ha, hb]; exact r))]
    · refine Or.inr (Or.inl ⟨(tCK B n q).2.1.mp t, r, ?_⟩)
      rw [if_pos ⟨z0, by rw [ha, hb]; exact r⟩]
      exact xFl.E c z0
  · refine Or.inr (Or.inr ⟨fun q => t ((tCK B n _).2.1.mpr q), ?_⟩)
    have e := xTk.bad (k := 2) h h0 t
    unfold xTN
    rw [if_neg (fun q => by rw [e.1] at q; exact absurd q.1 (by decide))]
    exact e
theorem xRS.A {B : Nat → Int32} {n q w : Nat} {I : px_I} {d o m c oo a b : Int32} {T : Nat → Bool} (hw : w = 77 ∨ 147 ≤ w) (hc : ¬ c = 8) (ha : a = yLo c) (hb : b = yHi c) (h : xT B n I q) (hs : xP I d o (m + 1) T) : xO B n (xRS w I oo a b) (zNm B n c q d o m T) := by
  unfold xRS
  refine xO.V (I := xTk (xTN I a b) 3) ?_ ((cAdd_V hw).trans (xAS_V (by decide)))
  unfold zNm
  rcases xTN.A h hs.1 ha hb with ⟨t1, t2, t3, -⟩ | ⟨t1, t2, t3⟩ | ⟨t1, t3⟩
  · rw [if_pos t1, if_pos t2, if_neg hc, t3]
    exact xSO.A ((xNx.C h).2.2.2 (by rw [(tCK B n q).2.1.mpr t1]; decide)).1 hs.nx
  · rw [if_pos t1, if_neg t2]
    exact xO.bad (t3.tk (by decide) 3) (by decide)
  · rw [if_neg t1]
    exact xO.bad (t3.tk (by decide) 3) (by decide)
theorem xRB.A {B : Nat → Int32} {n q w : Nat} {I : px_I} {d o m oo : Int32} {T : Nat → Bool} (hw : w = 77 ∨ 147 ≤ w) (h : xT B n I q) (hs : xP I d o (m + 1) T) : xO B n (xRB w I oo) (zSO B n q d o m T) := by
  unfold xRB
  exact (xSO.A h hs).V ((cAdd_V hw).trans (xAS_V (by decide)))
theorem xOB_o {w b : Nat} {I : px_I} {t : Int32} (h : b ≠ 76) (h1 : b ≠ 80) (h2 : b ≠ 81) (h3 : b ≠ 82) : xOB w I t b = I b := by
  unfold xOB
  split
  · rw [px_u_ne h3, px_u_ne h2, px_u_ne h1, px_u_ne h]
  · rfl
/-- the { ahead of a block -/
theorem xTO.A {B : Nat → Int32} {n q : Nat} {I : px_I} {d o m : Int32} {T : Nat → Bool} (h : xT B n I q) (hs : xP I d o m T) :
    ((tK B n q = 4 ∧ tV B n q = 123) ∧ ¬ d = 8 ∧ xTO I = xNx I) ∨ ((tK B n q = 4 ∧ tV B n q = 123) ∧ d = 8 ∧ xE (xTO I) 3 (tS B n q)) ∨ (¬ (tK B n q = 4 ∧ tV B n q = 123) ∧ xE (xTO I) 1 (tS B n q)) := by
  have c := xNx.C h
  have z0 : xNx I 76 14 = 0 := by rw [xNx_o (by omega)]; exact hs.1
  have z7 : xNx I 76 7 = d := by rw [xNx_o (by omega)]; exact hs.2.1
  have dr := hs.2.2.2.2.1
  by_cases t : tC B n q = 4
  · have e := xTk.ok h hs.1 t
    have t4 := (tCK B n q).2.2.2.1.mp t
    unfold xTO
    rw [e, z7]
    by_cases r : d = 8
    · refine Or.inr (Or.inl ⟨t4, r, ?_⟩)
      rw [if_pos ⟨z0, by rw [r]; decide⟩]
      exact xFl.E c z0
    · refine Or.inl ⟨t4, r, ?_⟩
      rw [if_neg (fun q => by have := q.2; grind)]
  · refine Or.inr (Or.inr ⟨fun q => t ((tCK B n _).2.2.2.1.mpr q), ?_⟩)
    have e := xTk.bad (k := 4) h hs.1 t
    unfold xTO
    rw [if_neg (fun q => by rw [e.1] at q; exact absurd q.1 (by decide))]
    exact e
/-- a block is opened -/
theorem xOB.A {B : Nat → Int32} {n q w : Nat} {I : px_I} {d o o2 m t : Int32} {T : Nat → Bool} (ht : 1 ≤ t ∧ t ≤ 99) (h : xT B n I q) (hs : xP I d o (m + 1) T) (hd : ¬ d = 8) (ho : -1 ≤ o2 ∧ o2 ≤ 7) (J : px_I) (hJ : J = px_u I 76 8 o2) : xO B n (xOB w J t) (zgo q (d + 1) o2 m T) := by
  obtain ⟨s1, s2, s3, s4, s5, s6, s7, s8, s9⟩ := hs
  have j7 : J 76 7 = d := by rw [hJ]; simp [px_ur]; exact s2
  have d8 : J 76 7 < 8 := by rw [j7]; grind
  have hx : xOB w J t = px_u (px_u (px_u (px_u J 76 7 (J 76 7 + 1)) 80 (J 76 7 + 1).toNatClampNeg (J w 2)) 81 (J 76 7 + 1).toNatClampNeg t) 82 (J 76 7 + 1).toNatClampNeg 0 := if_pos d8
  rw [j7] at hx
  have dn := (px_tnS s5.1 (by grind)).1
  have jb : ∀ b, b ≠ 76 → J b = I b := fun b hb => by rw [hJ, px_u_ne hb]
  have pos : 0 < d + 1 := by grind
  refine xO.go (h.cg (fun b q1 q2 => by rw [xOB_o (by omega) (by omega) (by omega) (by omega), jb b (by omega)]) ?_) ?_
  · rw [hx, hJ]; simp [px_ur]
  · rw [if_pos pos]
    refine ⟨?_, ?_, ?_, ?_, by grind, fun z => by grind, ho, ?_, ?_⟩
    · rw [hx, hJ]; simp [px_ur]; exact s1
    · rw [hx]; simp [px_ur]
    · rw [hx, hJ]; simp [px_ur]
    · rw [hx, hJ]; simp [px_ur]; exact s4
    · rw [xOB_o (by decide) (by decide) (by decide) (by decide), jb 84 (by decide)]; exact s8
    · obtain ⟨b1, b2, b3, b4⟩ := s9
      refine ⟨fun k hk => ?_, fun k k1 k2 => ?_, fun l hl => ?_, by rw [hx, hJ]; simp [px_ur]; exact b4⟩
      · rw [hx]
        by_cases e : k = (d + 1).toNatClampNeg
        · rw [e, px_u_at]; decide
        · rw [px_u_at_ne e, px_u_ne (by decide), px_u_ne (by decide), px_u_ne (by decide), jb 82 (by decide)]
          exact b1 k (by omega)
      · rw [hx, px_u_ne (by decide)]
        by_cases e : k = (d + 1).toNatClampNeg
        · rw [e, px_u_at]; exact ht
        · rw [px_u_at_ne e, px_u_ne (by decide), px_u_ne (by decide), jb 81 (by decide)]
          exact b2 k k1 (by omega)
      · rw [xOB_o (by decide) (by decide) (by decide) (by decide), jb 84 (by decide)]; exact b3 l hl
theorem zu_id {f : px_I} {b k : Nat} {x : Int32} (h : f b k = x) : px_u f b k x = f := by
  funext c j
  rw [px_ur]
  by_cases e : c = b
  · by_cases e2 : j = k
    · rw [if_pos e, if_pos e2, e, e2, h]
    · rw [if_pos e, if_neg e2]
  · rw [if_neg e]
theorem xRR.A {B : Nat → Int32} {n q w : Nat} {I : px_I} {d o m : Int32} {T : Nat → Bool} (hw : w = 77 ∨ 147 ≤ w) (h : xT B n I q) (hs : xP I d o (m + 1) T) : xO B n (xRR w I) (zNm B n 8 q d o m T) := by
  unfold xRR zNm
  rcases xTN.A (w := 8) (a := 1) (b := 99) h hs.1 (by decide) (by decide) with ⟨t1, t2, t3, t4⟩ | ⟨t1, t2, t3⟩ | ⟨t1, t3⟩
  · rw [if_pos t1, if_pos t2, if_pos rfl, t3, t4]
    have hT := ((xNx.C h).2.2.2 (by rw [(tCK B n q).2.1.mpr t1]; decide)).1
    have hS := hs.nx
    unfold zOp
    rcases xTO.A hT hS with ⟨u1, u2, u3⟩ | ⟨u1, u2, u3⟩ | ⟨u1, u3⟩
    · rw [if_pos u1, if_neg u2, u3]
      have hT2 := ((xNx.C hT).2.2.2 (by rw [(tCK B n _).2.2.2.1.mpr u1]; decide)).1
      have hS2 := hS.nx
      unfold xRR2
      rw [if_pos hS2.1]
      have t5 : 1 ≤ tV B n q ∧ tV B n q ≤ 99 := t2
      have fin := xOB.A (w := w) (o2 := o) t5 hT2 hS2 u2 hs.2.2.2.2.2.2.1 (xNx (xNx I)) (zu_id hS2.2.2.1).symm
      split
      · exact fin.V (cAdd_V hw)
      · exact fin
    · rw [if_pos u1, if_pos u2]
      unfold xRR2
      rw [if_neg (by rw [u3.1]; decide)]
      exact xO.bad u3 (by decide)
    · rw [if_neg u1]
      unfold xRR2
      rw [if_neg (by rw [u3.1]; decide)]
      exact xO.bad u3 (by decide)
  · rw [if_pos t1, if_neg t2]
    have e4 : xTk (xTN I 1 99) 4 = xTN I 1 99 := by unfold xTk; rw [if_neg (by rw [t3.1]; decide)]
    have e5 : xTO (xTN I 1 99) = xTN I 1 99 := by unfold xTO; rw [e4, if_neg (fun z => by rw [t3.1] at z; exact absurd z.1 (by decide))]
    rw [e5]
    unfold xRR2
    rw [if_neg (by rw [t3.1]; decide)]
    exact xO.bad t3 (by decide)
  · rw [if_neg t1]
    have e4 : xTk (xTN I 1 99) 4 = xTN I 1 99 := by unfold xTk; rw [if_neg (by rw [t3.1]; decide)]
    have e5 : xTO (xTN I 1 99) = xTN I 1 99 := by unfold xTO; rw [e4, if_neg (fun z => by rw [t3.1] at z; exact absurd z.1 (by decide))]
    rw [e5]
    unfold xRR2
    rw [if_neg (by rw [t3.1]; decide)]
    exact xO.bad t3 (by decide)
/-- the letter that is wanted -/
theorem xBy_B {I : px_I} {i : Int32} {B : Nat → Int32} {n : Nat} (hB : byC I = B) (hn : nC I = n) (h4 : n ≤ 400) (h0 : 0 ≤ i) (hi : i.toNatClampNeg < n) : B i.toNatClampNeg = nb (xBy I i) := by
  have x := xnat h0
  have r : 0 ≤ i ∧ i < 400 := ⟨h0, Int32.lt_iff_toInt_lt.mpr (by rw [show (400 : Int32).toInt = 400 by decide]; omega)⟩
  rw [← hB]
  unfold byC
  rw [show (I 70 5).toNatClampNeg = nC I from rfl, hn, if_pos hi]
  unfold xBy
  rw [if_pos r]
theorem xLh.A {B : Nat → Int32} {n q : Nat} {J : px_I} (h : xC B n J q) (h1 : tC B n q = 1) : (tK B n q = 2 ∧ xLh J = tV B n q) ∨ (¬ tK B n q = 2 ∧ ¬ (0 ≤ xLh J ∧ xLh J ≤ 7)) := by
  obtain ⟨c1, ⟨c2, -⟩, c3, c4⟩ := h
  obtain ⟨hT, k1, k2, k3, k4⟩ := c4 (by rw [h1]; decide)
  obtain ⟨a1, a2, a3, a4, a5, a6, a7, a8⟩ := hT
  obtain ⟨o1, o2, o3, o4, o5, o6⟩ := k2
  rw [k3] at o2 o4 o5
  obtain ⟨l1, l2⟩ := tC1.mp h1
  have p0 : 0 ≤ J 76 11 := by rw [k4]; exact o1.1
  have eB := xBy_B a2 a3 a4 p0 (by rw [c2]; exact l1)
  rw [c2] at eB
  have s0 := xnat o1.2
  have hE : tE B n q = rn bL B n (tS B n q) := by unfold tE; rw [if_neg (by omega), if_pos l2]
  have sz1 : J 74 (J 76 9).toNatClampNeg = 1 ↔ rn bL B n (tS B n q) = tS B n q + 1 := by
    rw [← hE, ← o5, o2, ← Int32.toInt_inj, show (1 : Int32).toInt = 1 by decide]
    unfold sz
    omega
  have lt : (97 ≤ xBy J (J 76 11) ∧ xBy J (J 76 11) ≤ 122) ∨ (65 ≤ xBy J (J 76 11) ∧ xBy J (J 76 11) ≤ 90) := by
    rw [eB] at l2
    exact nb_L.mp l2
  have eB2 : B (tS B n q) = xBy J (J 76 11) := by rw [eB]; exact nb_in (by constructor <;> grind)
  by_cases c : rn bL B n (tS B n q) = tS B n q + 1
  · have eL : xLh J = xBy J (J 76 11) - 97 := if_pos ⟨k1, sz1.mpr c⟩
    rw [eL]
    unfold tK tV
    rw [if_neg (by omega), if_pos l2, if_pos l2]
    by_cases e : 97 ≤ B (tS B n q) ∧ B (tS B n q) ≤ 104
    · rw [if_pos ⟨c, e⟩, if_pos ⟨c, e⟩]
      exact Or.inl ⟨rfl, by rw [eB2]⟩
    · rw [if_neg (fun z => e z.2)]
      refine Or.inr ⟨?_, ?_⟩
      · split <;> decide
      · rw [eB2] at e
        grind
  · have eL : xLh J = -1 := if_neg (fun z => c (sz1.mp z.2))
    rw [eL]
    unfold tK
    rw [if_neg (by omega), if_pos l2, if_neg (fun z => c z.1)]
    refine Or.inr ⟨?_, by decide⟩
    split <;> decide
theorem xTL.A {B : Nat → Int32} {n q : Nat} {I : px_I} {d o m x : Int32} {T : Nat → Bool} (hx : x = 0 ∨ x = 1) (h : xT B n I q) (hs : xP I d o m T) :
    (tK B n q = 2 ∧ (T (tV B n q).toNatClampNeg = true ↔ x = 1) ∧ xTLr (xTk I 1) x = tV B n q ∧ xTLi (xTk I 1) x = xNx I) ∨ (tK B n q = 2 ∧ ¬ (T (tV B n q).toNatClampNeg = true ↔ x = 1) ∧ xTLr (xTk I 1) x = -1 ∧ xE (xTLi (xTk I 1) x) 4 (tS B n q)) ∨ (¬ tK B n q = 2 ∧ xTLr (xTk I 1) x = -1 ∧ xE (xTLi (xTk I 1) x) 1 (tS B n q)) := by
  have c := xNx.C h
  have hS := hs.nx
  by_cases t : tC B n q = 1
  · have e := xTk.ok h hs.1 t
    rw [e]
    have e2 : xLl (xNx I) = xLh (xNx I) := if_pos hS.1
    rcases xLh.A c t with ⟨u1, u2⟩ | ⟨u1, u2⟩
    · have u3 := yLet u1
      have u4 := hS.2.2.2.2.2.2.2.1 _ (yLetN u1)
      have L := e2.trans u2
      have R1 : xTLr (xNx I) x = if (if xNx I 84 (tV B n q).toNatClampNeg = -1 then (0 : Int32) else 1) = x then tV B n q else -1 := by unfold xTLr; rw [L]; exact if_neg (fun z => z u3)
      have R2 : xTLi (xNx I) x = if (if xNx I 84 (tV B n q).toNatClampNeg = -1 then (0 : Int32) else 1) = x then xNx I else xFl (xNx I) 4 := by unfold xTLi; rw [L]; exact if_neg (fun z => z u3)
      rw [R1, R2]
      by_cases v : T (tV B n q).toNatClampNeg = true
      · have w := u4.mp v
        rw [if_neg w]
        by_cases y : x = 1
        · rw [if_pos y.symm, if_pos y.symm]
          exact Or.inl ⟨u1, ⟨fun _ => y, fun _ => v⟩, rfl, rfl⟩
        · rw [if_neg (fun z => y z.symm), if_neg (fun z => y z.symm)]
          exact Or.inr (Or.inl ⟨u1, fun z => y (z.mp v), rfl, xFl.E c hS.1⟩)
      · have w : xNx I 84 (tV B n q).toNatClampNeg = -1 := Classical.not_not.mp (fun z => v (u4.mpr z))
        rw [if_pos w]
        by_cases y : x = 1
        · rw [if_neg (fun z => by rw [y] at z; exact absurd z (by decide)), if_neg (fun z => by rw [y] at z; exact absurd z (by decide))]
          exact Or.inr (Or.inl ⟨u1, fun z => v (z.mpr y), rfl, xFl.E c hS.1⟩)
        · have y0 : x = 0 := hx.resolve_right y
          rw [if_pos y0.symm, if_pos y0.symm]
          exact Or.inl ⟨u1, ⟨fun z => absurd z v, fun z => absurd z y⟩, rfl, rfl⟩
    · have R1 : xTLr (xNx I) x = -1 := by unfold xTLr; rw [e2]; exact if_pos u2
      have R2 : xTLi (xNx I) x = xFl (xNx I) 1 := by unfold xTLi; rw [e2]; exact if_pos u2
      rw [R1, R2]
      exact Or.inr (Or.inr ⟨u1, rfl, xFl.E c hS.1⟩)
  · have e := xTk.bad (k := 1) h hs.1 t
    have e2 : xLl (xTk I 1) = -1 := if_neg (by rw [e.1]; decide)
    have R1 : xTLr (xTk I 1) x = -1 := by unfold xTLr; rw [e2]; exact if_pos (by decide)
    have R2 : xTLi (xTk I 1) x = xFl (xTk I 1) 1 := by unfold xTLi; rw [e2]; exact if_pos (by decide)
    rw [R1, R2]
    exact Or.inr (Or.inr ⟨fun z => t ((tCK B n q).2.2.2.2.2.2 z), rfl, e.fl (by decide) 1⟩)
theorem xRD.A {B : Nat → Int32} {n q w : Nat} {I : px_I} {d o m : Int32} {T : Nat → Bool} (hw : w = 77 ∨ 147 ≤ w) (h : xT B n I q) (hs : xP I d o (m + 1) T) : xO B n (xRD w I) (zDo B n q d o m T) := by
  unfold xRD zDo
  have k2 : ∀ (J : px_I) (l : Int32) (r : zR), (∀ l : Nat, -1 ≤ J 84 l ∧ J 84 l ≤ 5001 ∨ l = l) → xO B n J r → (¬ l = -1 → -1 ≤ J 84 l.toNatClampNeg ∧ J 84 l.toNatClampNeg ≤ 5001) → xO B n (xRD2 w J l) r := fun J l r _ hr hb => by
    unfold xRD2
    by_cases c : ¬ l = -1 ∧ 0 < J 84 l.toNatClampNeg
    · rw [if_pos c, cAdd_o (b := 84) (by omega) (by omega) (by omega)]
      have b := hb c.1
      exact hr.V ((cAdd_V hw).trans (xAS_V ⟨by grind, by grind⟩))
    · rw [if_neg c]; exact hr
  rcases xTL.A (x := 1) (Or.inr rfl) h hs with ⟨u1, u2, u3, u4⟩ | ⟨u1, u2, u3, u4⟩ | ⟨u1, u3, u4⟩
  · rw [if_pos u1, if_pos (u2.mpr rfl), u3, u4]
    have hT := ((xNx.C h).2.2.2 (by rw [(tCK B n q).2.2.2.2.2.2 u1]; decide)).1
    refine k2 _ _ _ (fun _ => Or.inr rfl) (xSO.A hT hs.nx) (fun _ => ?_)
    have fr : xTk (xNx I) 3 84 = I 84 := by
      unfold xTk xFl
      split
      · split
        · rw [xNx_r (by decide), xNx_r (by decide)]
        · split
          · rw [px_u_ne (by decide), px_u_ne (by decide), xNx_r (by decide), xNx_r (by decide)]
          · rw [xNx_r (by decide), xNx_r (by decide)]
      · rw [xNx_r (by decide)]
    rw [fr]
    exact hs.2.2.2.2.2.2.2.2.2.2.1 _ (yLetN u1)
  · rw [if_pos u1, if_neg (fun z => u2 ⟨fun _ => rfl, fun _ => z⟩), u3]
    exact k2 _ _ _ (fun _ => Or.inr rfl) (xO.bad (u4.tk (by decide) 3) (by decide)) (fun z => absurd rfl z)
  · rw [if_neg u1, u3]
    exact k2 _ _ _ (fun _ => Or.inr rfl) (xO.bad (u4.tk (by decide) 3) (by decide)) (fun z => absurd rfl z)
theorem xDf.A {B : Nat → Int32} {n q w : Nat} {I : px_I} {d o m : Int32} {T : Nat → Bool} (hw : w = 77 ∨ 147 ≤ w) (h : xT B n I q) (hs : xP I d o (m + 1) T) : xO B n (xDf w I) (zDf B n q d m T) := by
  unfold xDf zDf
  have bad : ∀ (J : px_I) (f : Int32) (a : Nat) (l : Int32), 1 ≤ f → xE J f a → xO B n (xDf2 w (xTO J) l) (zbad f a) := fun J f a l hf e => by
    have e4 : xTk J 4 = J := by unfold xTk; rw [if_neg (by rw [e.1]; grind)]
    have e5 : xTO J = J := by unfold xTO; rw [e4, if_neg (fun z => by rw [e.1] at z; grind)]
    rw [e5]
    unfold xDf2
    rw [if_neg (by rw [e.1]; grind)]
    exact xO.bad e hf
  rcases xTL.A (x := 0) (Or.inl rfl) h hs with ⟨u1, u2, u3, u4⟩ | ⟨u1, u2, u3, u4⟩ | ⟨u1, u3, u4⟩
  · have nt : ¬ T (tV B n q).toNatClampNeg = true := fun z => absurd (u2.mp z) (by decide)
    rw [if_pos u1, if_neg nt, u3, u4]
    have hT := ((xNx.C h).2.2.2 (by rw [(tCK B n q).2.2.2.2.2.2 u1]; decide)).1
    have hS := hs.nx
    unfold zOp
    rcases xTO.A hT hS with ⟨v1, v2, v3⟩ | ⟨v1, v2, v3⟩ | ⟨v1, v3⟩
    · rw [if_pos v1, if_neg v2, v3]
      have hT2 := ((xNx.C hT).2.2.2 (by rw [(tCK B n _).2.2.2.1.mpr v1]; decide)).1
      have hS2 := hS.nx
      unfold xDf2
      rw [if_pos hS2.1]
      have u5 := yLet u1
      exact (xOB.A (w := w) (o2 := tV B n q) (t := 1) (by decide) hT2 hS2 v2 ⟨by grind, u5.2⟩ _ rfl).V (cAdd_V hw)
    · rw [if_pos v1, if_pos v2]
      unfold xDf2
      rw [if_neg (by rw [v3.1]; decide)]
      exact xO.bad v3 (by decide)
    · rw [if_neg v1]
      unfold xDf2
      rw [if_neg (by rw [v3.1]; decide)]
      exact xO.bad v3 (by decide)
  · rw [if_pos u1, if_pos (Classical.not_not.mp (fun z => u2 ⟨fun y => absurd y z, fun y => absurd y (by decide)⟩)), u3]
    exact bad _ _ _ _ (by decide) u4
  · rw [if_neg u1, u3]
    exact bad _ _ _ _ (by decide) u4
theorem xMul {a b : Int32} (ha : 1 ≤ a ∧ a ≤ 99) (hb : 0 ≤ b ∧ b ≤ 5001) : 0 ≤ a * b ∧ a * b ≤ 500000 := by
  have a1 := Int32.le_iff_toInt_le.mp ha.1
  have a2 := Int32.le_iff_toInt_le.mp ha.2
  have b1 := Int32.le_iff_toInt_le.mp hb.1
  have b2 := Int32.le_iff_toInt_le.mp hb.2
  rw [show (1 : Int32).toInt = 1 by decide] at a1
  rw [show (99 : Int32).toInt = 99 by decide] at a2
  rw [show (0 : Int32).toInt = 0 by decide] at b1
  rw [show (5001 : Int32).toInt = 5001 by decide] at b2
  have p0 : 0 ≤ a.toInt * b.toInt := Int.mul_nonneg (by omega) b1
  have p1 : a.toInt * b.toInt ≤ 99 * 5001 := Int.mul_le_mul a2 b2 b1 (by decide)
  have e : (a * b).toInt = a.toInt * b.toInt := by rw [Int32.toInt_mul]; exact Int.bmod_eq_of_le (by omega) (by omega)
  rw [Int32.le_iff_toInt_le, Int32.le_iff_toInt_le, e, show (0 : Int32).toInt = 0 by decide, show (500000 : Int32).toInt = 500000 by decide]
  omega
/-- a } -/
theorem xCB.A {B : Nat → Int32} {n p w : Nat} {I : px_I} {d o m : Int32} {T : Nat → Bool} (hw : w = 77 ∨ 147 ≤ w) (hd : 0 < d) (h : xT B n I p) (hs : xP I d o (m + 1) T) : xO B n (xCB w I) (if d = 1 ∧ ¬ o = -1 then zgo p (d - 1) (-1) (m + 1) (fun l => if l = o.toNatClampNeg then true else T l) else zgo p (d - 1) o (m + (if d - 1 = 0 then 1 else 0)) T) := by
  obtain ⟨s1, s2, s3, s4, s5, s6, s7, s8, s9⟩ := id hs
  unfold xCB
  rw [s2, if_pos (by grind)]
  have dm := (px_tnS (i := d - 1) (by grind) (by grind)).1
  rw [show d - 1 + 1 = d by grind] at dm
  -- what is left behind the first two writings
  have hK : ∃ K, xCB1 w (px_u I 76 7 (d - 1)) d = K ∧ (∀ b, 70 ≤ b → b ≤ 75 → K b = I b) ∧ (∀ j, K 76 j = px_u I 76 7 (d - 1) 76 j) ∧ (∀ b, 80 ≤ b → b ≤ 84 → K b = I b) := by
    refine ⟨_, rfl, ?_⟩
    unfold xCB1
    split
    · exact ⟨fun b q1 q2 => by rw [px_u_ne (by omega), px_u_ne (by omega)], fun j => by rw [px_u_ne (by omega)], fun b q1 q2 => by rw [px_u_ne (by omega), px_u_ne (by omega)]⟩
    · exact ⟨fun b q1 q2 => by rw [px_u_ne (by omega)], fun j => rfl, fun b q1 q2 => by rw [px_u_ne (by omega)]⟩
  obtain ⟨K, eK, k1, k2, k3⟩ := hK
  rw [eK]
  have K7 : K 76 7 = d - 1 := by rw [k2]; simp [px_ur]
  have K8 : K 76 8 = o := by rw [k2]; simp [px_ur]; exact s3
  have K9 : K 76 9 = I 76 9 := by rw [k2]; simp [px_ur]
  have hT : xT B n K p := h.cg k1 K9
  have hB : xB K (d - 1) := by
    obtain ⟨b1, b2, b3, b4⟩ := s9
    exact ⟨fun q hq => by rw [k3 82 (by decide) (by decide)]; exact b1 q (by omega), fun q q1 q2 => by rw [k3 81 (by decide) (by decide)]; exact b2 q q1 (by omega), fun l hl => by rw [k3 84 (by decide) (by decide)]; exact b3 l hl, by rw [k2]; simp [px_ur]; exact b4⟩
  have hd1 := s9.1 d.toNatClampNeg (Nat.le_refl _)
  have ht1 := s9.2.1 d.toNatClampNeg (by omega) (Nat.le_refl _)
  have K82 : K 82 d.toNatClampNeg = I 82 d.toNatClampNeg := by rw [k3 82 (by decide) (by decide)]
  have K81 : K 81 d.toNatClampNeg = I 81 d.toNatClampNeg := by rw [k3 81 (by decide) (by decide)]
  unfold xCB2
  rw [K7, K8]
  by_cases c : d = 1 ∧ ¬ o = -1
  · rw [if_pos c, if_pos ⟨by rw [c.1]; decide, c.2⟩]
    have or : 0 ≤ o ∧ o ≤ 7 := by grind
    have on := xnat or.1
    have o7 := Int32.le_iff_toInt_le.mp or.2
    rw [show (7 : Int32).toInt = 7 by decide] at o7
    -- closing a def
    have h1 : ∃ Y, xCD1 w K d = Y ∧ (∀ b, 70 ≤ b → b ≤ 76 → Y b = K b) ∧ (∀ b, 80 ≤ b → b ≤ 84 → Y b = K b) := by
      refine ⟨_, rfl, ?_⟩
      unfold xCD1
      split
      · exact ⟨fun b q1 q2 => by rw [px_u_ne (by omega), cAdd_o (by omega) (by omega) (by omega)], fun b q1 q2 => by rw [px_u_ne (by omega), cAdd_o (by omega) (by omega) (by omega)]⟩
      · exact ⟨fun _ _ _ => rfl, fun _ _ _ => rfl⟩
    obtain ⟨Y, eY, y1, y2⟩ := h1
    unfold xCD
    rw [eY]
    have Y8 : Y 76 8 = o := by rw [y1 76 (by decide) (by decide)]; exact K8
    have e2 : xCD2 Y (K 80 d.toNatClampNeg) (Y 82 d.toNatClampNeg) = px_u (px_u Y 83 o.toNatClampNeg (K 80 d.toNatClampNeg + 1)) 84 o.toNatClampNeg (Y 82 d.toNatClampNeg) := by
      unfold xCD2
      rw [Y8, if_pos or]
    rw [e2]
    have Y82 : Y 82 d.toNatClampNeg = I 82 d.toNatClampNeg := by rw [y2 82 (by decide) (by decide)]; exact K82
    refine xO.go (hT.cg (fun b q1 q2 => by rw [px_u_ne (by omega), px_u_ne (by omega), px_u_ne (by omega), y1 b q1 (by omega)]) ?_) ?_
    · simp [px_ur]; rw [y1 76 (by decide) (by decide)]
    · have e : m + 1 + (if 0 < d - 1 then 1 else 0) = m + 1 := by rw [c.1, if_neg (by decide)]; grind
      rw [e]
      refine ⟨?_, ?_, ?_, ?_, by grind, fun _ => rfl, by decide, fun l hl => ?_, ?_⟩
      · simp [px_ur]; rw [y1 76 (by decide) (by decide), k2]; simp [px_ur]; exact s1
      · simp [px_ur]; rw [y1 76 (by decide) (by decide)]; exact K7
      · simp [px_ur]
      · simp [px_ur]; rw [y1 76 (by decide) (by decide), k2]; simp [px_ur]; exact s4
      · rw [px_u_ne (by decide)]
        dsimp only
        by_cases el : l = o.toNatClampNeg
        · rw [el, px_u_at, if_pos rfl, Y82]
          exact ⟨fun _ => by grind, fun _ => rfl⟩
        · rw [px_u_at_ne el, px_u_ne (by decide), if_neg el, y2 84 (by decide) (by decide), k3 84 (by decide) (by decide)]
          exact s8 l hl
      · obtain ⟨b1, b2, b3, b4⟩ := hB
        refine ⟨fun q hq => ?_, fun q q1 q2 => ?_, fun l hl => ?_, by simp [px_ur]; rw [y1 76 (by decide) (by decide)]; exact b4⟩
        · rw [px_u_ne (by decide), px_u_ne (by decide), px_u_ne (by decide), y2 82 (by decide) (by decide)]; exact b1 q hq
        · rw [px_u_ne (by decide), px_u_ne (by decide), px_u_ne (by decide), y2 81 (by decide) (by decide)]; exact b2 q q1 q2
        · rw [px_u_ne (by decide)]
          by_cases el : l = o.toNatClampNeg
          · rw [el, px_u_at, Y82]; grind
          · rw [px_u_at_ne el, px_u_ne (by decide), y2 84 (by decide) (by decide)]; exact b3 l hl
  · rw [if_neg c, if_neg (fun z => c ⟨by have := z.1; grind, z.2⟩), K82]
    have om : m + (if d - 1 = 0 then 1 else 0) + (if 0 < d - 1 then 1 else 0) = m + 1 := by grind
    have hP : xP K (d - 1) o (m + 1) T := by
      refine ⟨by rw [k2]; simp [px_ur]; exact s1, K7, K8, by rw [k2]; simp [px_ur]; exact s4, by grind, fun z => ?_, s7, fun l hl => by rw [k3 84 (by decide) (by decide)]; exact s8 l hl, hB⟩
      exact Classical.not_not.mp (fun q => c ⟨by grind, q⟩)
    have fin : xO B n K (zgo p (d - 1) o (m + (if d - 1 = 0 then 1 else 0)) T) := xO.go hT (by rw [om]; exact hP)
    split
    · rename_i pos
      unfold xCB3
      split
      · rw [cAdd_o (b := 81) (by omega) (by omega) (by omega), cAdd_o (b := 82) (by omega) (by omega) (by omega), K81, K82]
        refine fin.V ((cAdd_V hw).trans (xAS_V ?_))
        exact xMul ht1 hd1
      · rw [K81, K82]
        exact fin.V (xAS_V (xMul ht1 hd1))
    · exact fin
/-! the words -/
theorem xbt : ∀ i, i < 9 → ∀ j, j < px_len.getD i 0 → 0 ≤ (px_byt.getD i []).getD j 0 ∧ (px_byt.getD i []).getD j 0 < 128 := by decide
theorem xl6 : ∀ i, i < 9 → px_len.getD i 0 ≤ 6 ∧ 2 ≤ px_len.getD i 0 := by decide
theorem xWd_iff {B : Nat → Int32} {n q i : Nat} {J : px_I} (hi : i < 9) (h : xC B n J q) (h0 : ¬ tC B n q = 0) : xWd J (J 76 9) i = true ↔ (tC B n q = 1 ∧ wI B (tS B n q) (tE B n q - tS B n q) i = true) := by
  obtain ⟨c1, ⟨c2, -⟩, c3, c4⟩ := h
  obtain ⟨hT, k1, k2, k3, k4⟩ := c4 h0
  obtain ⟨a1, a2, a3, a4, a5, a6, a7, a8⟩ := hT
  obtain ⟨o1, o2, o3, o4, o5, o6⟩ := k2
  rw [k3] at o2 o4 o5
  have l6 := xl6 i hi
  have s0 := xnat o1.2
  have p0 := xnat o1.1
  have hq : q ≤ n := by
    rcases Nat.lt_or_ge n q with z | z
    · have e : tS B n q = q := rn_end (by omega)
      omega
    · exact z
  have tl := t_le (B := B) hq
  have sz1 : J 74 (J 76 9).toNatClampNeg = Int32.ofNat (px_len.getD i 0) ↔ tE B n q - tS B n q = px_len.getD i 0 := by
    rw [← o5, o2, ← Int32.toInt_inj, Int32.toInt_ofNat_of_lt (by omega)]
    unfold sz
    omega
  unfold xWd wI
  rw [decide_eq_true_iff, decide_eq_true_iff, o4, sz1]
  have by_ : tE B n q - tS B n q = px_len.getD i 0 → ((∀ j, j < px_len.getD i 0 → xBy J (J 73 (J 76 9).toNatClampNeg + Int32.ofNat j) = (px_byt.getD i []).getD j 0) ↔ (∀ j, j < px_len.getD i 0 → B (tS B n q + j) = (px_byt.getD i []).getD j 0)) := fun he => by
    have e : ∀ j, j < px_len.getD i 0 → B (tS B n q + j) = nb (xBy J (J 73 (J 76 9).toNatClampNeg + Int32.ofNat j)) := fun j hj => by
      have pj : (Int32.ofNat j).toInt = j := Int32.toInt_ofNat_of_lt (by omega)
      have o2b : (J 73 (J 76 9).toNatClampNeg).toNatClampNeg = tS B n q := o2
      have ea : (J 73 (J 76 9).toNatClampNeg + Int32.ofNat j).toInt = (J 73 (J 76 9).toNatClampNeg).toInt + j := by rw [Int32.toInt_add, pj, Int.bmod_eq_of_le (by omega) (by omega)]
      have e0 : 0 ≤ J 73 (J 76 9).toNatClampNeg + Int32.ofNat j := Int32.le_iff_toInt_le.mpr (by rw [ea, show (0 : Int32).toInt = 0 by decide]; omega)
      have en : (J 73 (J 76 9).toNatClampNeg + Int32.ofNat j).toNatClampNeg = tS B n q + j := by
        have := xnat e0
        omega
      have := xBy_B a2 a3 a4 e0 (by rw [en]; omega)
      rw [en] at this
      exact this
    constructor
    · intro z j hj
      rw [e j hj, z j hj]
      exact nb_in (xbt i hi j hj)
    · intro z j hj
      have := z j hj
      rw [e j hj] at this
      exact (nb_e (xbt i hi j hj)).mp this
  constructor
  · rintro ⟨-, b2, b3, b4⟩
    exact ⟨b2, b3, (by_ b3).mp b4⟩
  · rintro ⟨b2, b3, b4⟩
    exact ⟨k1, b2, b3, (by_ b3).mpr b4⟩
theorem tKw {B : Nat → Int32} {n q : Nat} (h : tC B n q = 1) : (tK B n q = 1 ↔ ¬ wId B (tS B n q) (tE B n q - tS B n q) < 0) ∧ (tK B n q = 1 → tV B n q = wId B (tS B n q) (tE B n q - tS B n q)) := by
  obtain ⟨l1, l2⟩ := tC1.mp h
  have hE : tE B n q = rn bL B n (tS B n q) := by unfold tE; rw [if_neg (by omega), if_pos l2]
  unfold tK tV
  rw [if_neg (by omega), if_pos l2, if_pos l2, ← hE]
  by_cases c : tE B n q = tS B n q + 1 ∧ 97 ≤ B (tS B n q) ∧ B (tS B n q) ≤ 104
  · rw [if_pos c]
    refine ⟨⟨fun z => absurd z (by decide), fun z => absurd ?_ z⟩, fun z => absurd z (by decide)⟩
    have n1 : ∀ i, i < 9 → ¬ wI B (tS B n q) (tE B n q - tS B n q) i = true := fun i hi z => by
      unfold wI at z
      rw [decide_eq_true_iff] at z
      have := xl6 i hi
      omega
    unfold wId
    rw [if_neg (n1 0 (by decide)), if_neg (n1 1 (by decide)), if_neg (n1 2 (by decide)), if_neg (n1 3 (by decide)), if_neg (n1 4 (by decide)), if_neg (n1 5 (by decide)), if_neg (n1 6 (by decide)), if_neg (n1 7 (by decide)), if_neg (n1 8 (by decide))]
    decide
  · rw [if_neg c, if_neg c]
    refine ⟨?_, fun _ => rfl⟩
    by_cases w : wId B (tS B n q) (tE B n q - tS B n q) < 0
    · rw [if_pos w]; exact ⟨fun z => absurd z (by decide), fun z => absurd w z⟩
    · rw [if_neg w]; exact ⟨fun _ => w, fun _ => rfl⟩
theorem xPp_o {I : px_I} {b j : Nat} (h : ¬ (b = 76 ∧ j = 13)) : xPp I b j = I b j := by
  unfold xPp
  split
  · simp only [px_ur]; grind
  · rfl
theorem xRP.A {B : Nat → Int32} {n p w : Nat} {I : px_I} {d o m : Int32} {T : Nat → Bool} (hw : w = 77 ∨ 147 ≤ w) (h : xC B n I p) (h0 : ¬ tC B n p = 0) (h5 : ¬ tC B n p = 5) (hs : xP I d o (m + (if 0 < d then 1 else 0)) T) : xO B n (xRP w I) (zit B n p d o m T) := by
  have ck := tCK B n p
  have r1 : ∀ b, b ≠ 76 → xPp I b = I b := fun b hb => funext fun j => xPp_o (fun q => hb q.1)
  have hC : xC B n (xPp I) p := by
    obtain ⟨c1, c2, c3, c4⟩ := h
    refine ⟨by rw [xPp_o (by omega)]; exact c1, by rw [xPp_o (by omega)]; exact c2, by rw [xPp_o (by omega)]; exact c3, fun z => ?_⟩
    obtain ⟨d1, d2, d3, d4, d5⟩ := c4 z
    refine ⟨d1.cg (fun b q1 q2 => r1 b (by omega)) (xPp_o (by omega)), ?_, ?_, ?_, ?_⟩
    · rw [xPp_o (by omega), r1 70 (by decide)]; exact d2
    · rw [xPp_o (by omega)]
      exact d3.cg (fun j _ => ⟨by rw [r1 72 (by decide)], by rw [r1 73 (by decide)], by rw [r1 74 (by decide)], by rw [r1 75 (by decide)]⟩)
    · rw [xPp_o (by omega)]
      have : ∀ k, tpos (xPp I) k = tpos I k := fun k => tpos_cg k (fun j _ => ⟨by rw [r1 73 (by decide)], by rw [r1 74 (by decide)]⟩)
      rw [this]; exact d4
    · rw [xPp_o (by omega), xPp_o (j := 9) (by omega), r1 73 (by decide)]; exact d5
  have hP : xP (xPp I) d o (m + 1) T := by
    obtain ⟨s1, s2, s3, s4, s5, s6, s7, s8, s9⟩ := hs
    refine ⟨by rw [xPp_o (by omega)]; exact s1, by rw [xPp_o (by omega)]; exact s2, by rw [xPp_o (by omega)]; exact s3, ?_, s5, s6, s7, by rw [r1 84 (by decide)]; exact s8, ?_⟩
    · unfold xPp
      rw [s2]
      by_cases e : d = 0
      · rw [if_pos e, px_u_at, s4, if_neg (by rw [e]; decide)]; grind
      · rw [if_neg e, s4, if_pos (by grind)]
    · unfold xB at *
      rw [r1 82 (by decide), r1 81 (by decide), r1 84 (by decide), xPp_o (by omega)]
      exact s9
  have hT := (hC.2.2.2 h0).1
  have z0 : ¬ (tK B n p = 0 ∧ d = 0) := fun z => h0 (ck.1.mpr z.1)
  have z5 : ¬ (0 < d ∧ tK B n p = 4 ∧ tV B n p = 125) := fun z => h5 (ck.2.2.2.2.1.mpr z.2)
  have bad : xO B n (xFl (xPp I) 1) (zbad 1 (tS B n p)) := xO.bad (xFl.E hC hP.1) (by decide)
  unfold zit
  rw [if_neg z0, if_neg z5]
  unfold xRP
  by_cases t1 : tC B n p = 1
  · obtain ⟨kw1, kw2⟩ := tKw t1
    have W : ∀ i, i < 9 → (xWd (xPp I) (xPp I 76 9) i = true ↔ wI B (tS B n p) (tE B n p - tS B n p) i = true) := fun i hi => by rw [xWd_iff hi hC h0]; exact ⟨fun z => z.2, fun z => ⟨t1, z⟩⟩
    unfold xRP2
    unfold wId at kw1 kw2
    by_cases w0 : wI B (tS B n p) (tE B n p - tS B n p) 0 = true
    · rw [if_pos ((W 0 (by decide)).mpr w0)]
      rw [if_pos w0] at kw1 kw2
      have k1 := kw1.mpr (by decide)
      have v := kw2 k1
      rw [if_pos ⟨k1, by rw [v]; exact fun z => absurd z.1 (by decide)⟩]
      unfold zWd
      rw [v, if_neg (by decide), if_neg (by decide), if_neg (by decide)]
      exact xRS.A hw (by decide) (by decide) (by decide) hT hP
    rw [if_neg (fun z => w0 ((W 0 (by decide)).mp z))]
    rw [if_neg w0] at kw1 kw2
    by_cases w1 : wI B (tS B n p) (tE B n p - tS B n p) 1 = true
    · rw [if_pos ((W 1 (by decide)).mpr w1)]
      rw [if_pos w1] at kw1 kw2
      have k1 := kw1.mpr (by decide)
      have v := kw2 k1
      rw [if_pos ⟨k1, by rw [v]; exact fun z => absurd z.1 (by decide)⟩]
      unfold zWd
      rw [v, if_neg (by decide), if_neg (by decide), if_neg (by decide)]
      exact xRS.A hw (by decide) (by decide) (by decide) hT hP
    rw [if_neg (fun z => w1 ((W 1 (by decide)).mp z))]
    rw [if_neg w1] at kw1 kw2
    by_cases w2 : wI B (tS B n p) (tE B n p - tS B n p) 2 = true
    · rw [if_pos ((W 2 (by decide)).mpr w2)]
      rw [if_pos w2] at kw1 kw2
      have k1 := kw1.mpr (by decide)
      have v := kw2 k1
      rw [if_pos ⟨k1, by rw [v]; exact fun z => absurd z.1 (by decide)⟩]
      unfold zWd
      rw [v, if_neg (by decide), if_neg (by decide), if_neg (by decide)]
      exact xRS.A hw (by decide) (by decide) (by decide) hT hP
    rw [if_neg (fun z => w2 ((W 2 (by decide)).mp z))]
    rw [if_neg w2] at kw1 kw2
    by_cases w3 : wI B (tS B n p) (tE B n p - tS B n p) 3 = true
    · rw [if_pos ((W 3 (by decide)).mpr w3)]
      rw [if_pos w3] at kw1 kw2
      have k1 := kw1.mpr (by decide)
      have v := kw2 k1
      rw [if_pos ⟨k1, by rw [v]; exact fun z => absurd z.1 (by decide)⟩]
      unfold zWd
      rw [v, if_neg (by decide), if_neg (by decide), if_neg (by decide)]
      exact xRS.A hw (by decide) (by decide) (by decide) hT hP
    rw [if_neg (fun z => w3 ((W 3 (by decide)).mp z))]
    rw [if_neg w3] at kw1 kw2
    by_cases w4 : wI B (tS B n p) (tE B n p - tS B n p) 4 = true
    · rw [if_pos ((W 4 (by decide)).mpr w4)]
      rw [if_pos w4] at kw1 kw2
      have k1 := kw1.mpr (by decide)
      have v := kw2 k1
      rw [if_pos ⟨k1, by rw [v]; exact fun z => absurd z.1 (by decide)⟩]
      unfold zWd
      rw [v, if_neg (by decide), if_neg (by decide), if_pos (by decide)]
      exact xRB.A hw hT hP
    rw [if_neg (fun z => w4 ((W 4 (by decide)).mp z))]
    rw [if_neg w4] at kw1 kw2
    by_cases w5 : wI B (tS B n p) (tE B n p - tS B n p) 5 = true
    · rw [if_pos ((W 5 (by decide)).mpr w5)]
      rw [if_pos w5] at kw1 kw2
      have k1 := kw1.mpr (by decide)
      have v := kw2 k1
      rw [if_pos ⟨k1, by rw [v]; exact fun z => absurd z.1 (by decide)⟩]
      unfold zWd
      rw [v, if_neg (by decide), if_neg (by decide), if_pos (by decide)]
      exact xRB.A hw hT hP
    rw [if_neg (fun z => w5 ((W 5 (by decide)).mp z))]
    rw [if_neg w5] at kw1 kw2
    by_cases w6 : wI B (tS B n p) (tE B n p - tS B n p) 6 = true
    · rw [if_pos ((W 6 (by decide)).mpr w6)]
      rw [if_pos w6] at kw1 kw2
      have k1 := kw1.mpr (by decide)
      have v := kw2 k1
      rw [if_pos ⟨k1, by rw [v]; exact fun z => absurd z.1 (by decide)⟩]
      unfold zWd
      rw [v, if_neg (by decide), if_pos (by decide)]
      exact xRD.A hw hT hP
    rw [if_neg (fun z => w6 ((W 6 (by decide)).mp z))]
    rw [if_neg w6] at kw1 kw2
    by_cases w7 : wI B (tS B n p) (tE B n p - tS B n p) 7 = true
    · rw [if_pos ((W 7 (by decide)).mpr w7)]
      rw [if_pos w7] at kw1 kw2
      have k1 := kw1.mpr (by decide)
      have v := kw2 k1
      rw [if_pos ⟨k1, by rw [v]; exact fun z => absurd z.1 (by decide)⟩]
      unfold zWd
      rw [v, if_neg (by decide), if_neg (by decide), if_neg (by decide)]
      exact xRR.A hw hT hP
    rw [if_neg (fun z => w7 ((W 7 (by decide)).mp z))]
    rw [if_neg w7] at kw1 kw2
    by_cases w8 : wI B (tS B n p) (tE B n p - tS B n p) 8 = true
    · rw [if_pos w8] at kw1 kw2
      have k1 := kw1.mpr (by decide)
      have v := kw2 k1
      by_cases e : d = 0
      · rw [if_pos ⟨(W 8 (by decide)).mpr w8, by rw [hP.2.1]; exact e⟩, if_pos ⟨k1, fun z => by rw [e] at z; exact absurd z.2 (by decide)⟩]
        unfold zWd
        rw [v, if_pos rfl]
        exact xDf.A hw hT hP
      · rw [if_neg (fun z => e (hP.2.1.symm.trans z.2)), if_neg (fun z => z.2 ⟨v, by have := hP.2.2.2.2.1; grind⟩)]
        exact bad
    rw [if_neg (fun z => w8 ((W 8 (by decide)).mp z.1))]
    rw [if_neg w8] at kw1 kw2
    rw [if_neg (fun z => absurd (kw1.mp z.1) (by decide))]
    exact bad
  · have nW : ∀ i, i < 9 → ¬ xWd (xPp I) (xPp I 76 9) i = true := fun i hi z => t1 ((xWd_iff hi hC h0).mp z).1
    rw [if_neg (fun z => t1 (ck.2.2.2.2.2.1 z.1))]
    unfold xRP2
    rw [if_neg (nW 0 (by decide)), if_neg (nW 1 (by decide)), if_neg (nW 2 (by decide)), if_neg (nW 3 (by decide)), if_neg (nW 4 (by decide)), if_neg (nW 5 (by decide)), if_neg (nW 6 (by decide)), if_neg (nW 7 (by decide)), if_neg (fun z => nW 8 (by decide) z.1)]
    exact bad
/-! all parts -/
theorem zbad_ne {f : Int32} {a : Nat} (hf : ¬ f = -1) : ¬ (zbad f a).1 = -1 := hf
theorem zfin_ne {m : Int32} : ¬ (zfin m).1 = -1 := (by decide : ¬ (0 : Int32) = -1)
def Fu (B : Nat → Int32) (n : Nat) : Nat → Nat → Prop
  | 0, _ => False
  | f + 1, p => n ≤ tS B n p ∨ Fu B n f (tE B n p)
theorem Fu.up {B : Nat → Int32} {n : Nat} : ∀ {f p : Nat}, Fu B n f p → Fu B n (f + 1) p
  | 0, _, h => h.elim
  | f + 1, p, h => h.elim (fun q => Or.inl q) (fun q => Or.inr q.up)
theorem tK_n {B : Nat → Int32} {n p : Nat} (h : ¬ tK B n p = 0) : ¬ n ≤ tS B n p := fun q => h (by unfold tK; exact if_pos q)
theorem Fu.nx {B : Nat → Int32} {n : Nat} : ∀ {f p : Nat}, Fu B n f p → ¬ tK B n p = 0 → Fu B n f (tE B n p)
  | 0, _, h, _ => h.elim
  | f + 1, p, h, hk => (h.resolve_left (tK_n hk)).up
theorem Fu.dn {B : Nat → Int32} {n f p : Nat} (h : Fu B n (f + 1) p) (hk : ¬ tK B n p = 0) : Fu B n f (tE B n p) := h.resolve_left (tK_n hk)
theorem zFu {B : Nat → Int32} {n f q : Nat} (hF : Fu B n f q) : (∀ d o m T, (zSO B n q d o m T).1 = -1 → Fu B n f (zSO B n q d o m T).2.2.1) ∧ (∀ d o m T, (zOp B n q d o m T).1 = -1 → Fu B n f (zOp B n q d o m T).2.2.1) := by
  refine ⟨fun d o m T h => ?_, fun d o m T h => ?_⟩
  · unfold zSO at h ⊢
    by_cases c : tK B n q = 4 ∧ tV B n q = 59
    · rw [if_pos c]
      exact hF.nx (by rw [c.1]; decide)
    · rw [if_neg c] at h; exact absurd h (zbad_ne (by decide))
  · unfold zOp at h ⊢
    by_cases c : tK B n q = 4 ∧ tV B n q = 123
    · rw [if_pos c] at h ⊢
      by_cases e : d = 8
      · rw [if_pos e] at h; exact absurd h (zbad_ne (by decide))
      · rw [if_neg e]
        exact hF.nx (by rw [c.1]; decide)
    · rw [if_neg c] at h; exact absurd h (zbad_ne (by decide))
theorem zFu2 {B : Nat → Int32} {n f q : Nat} (hF : Fu B n f q) : (∀ w d o m T, (zNm B n w q d o m T).1 = -1 → Fu B n f (zNm B n w q d o m T).2.2.1) ∧ (∀ d o m T, (zDo B n q d o m T).1 = -1 → Fu B n f (zDo B n q d o m T).2.2.1) ∧ (∀ d m T, (zDf B n q d m T).1 = -1 → Fu B n f (zDf B n q d m T).2.2.1) := by
  refine ⟨fun w d o m T h => ?_, fun d o m T h => ?_, fun d m T h => ?_⟩
  · unfold zNm at h ⊢
    by_cases c : tK B n q = 3
    · have hF2 := zFu (hF.nx (by rw [c]; decide))
      rw [if_pos c] at h ⊢
      split at h
      · rename_i r
        rw [if_pos r]
        split at h
        · rename_i e; rw [if_pos e]; exact hF2.2 _ _ _ _ h
        · rename_i e; rw [if_neg e]; exact hF2.1 _ _ _ _ h
      · exact absurd h (zbad_ne (by decide))
    · rw [if_neg c] at h; exact absurd h (zbad_ne (by decide))
  · unfold zDo at h ⊢
    by_cases c : tK B n q = 2
    · have hF2 := zFu (hF.nx (by rw [c]; decide))
      rw [if_pos c] at h ⊢
      split at h
      · rename_i r
        rw [if_pos r]
        exact hF2.1 _ _ _ _ h
      · exact absurd h (zbad_ne (by decide))
    · rw [if_neg c] at h; exact absurd h (zbad_ne (by decide))
  · unfold zDf at h ⊢
    by_cases c : tK B n q = 2
    · have hF2 := zFu (hF.nx (by rw [c]; decide))
      rw [if_pos c] at h ⊢
      split at h
      · exact absurd h (zbad_ne (by decide))
      · rename_i r
        rw [if_neg r]
        exact hF2.2 _ _ _ _ h
    · rw [if_neg c] at h; exact absurd h (zbad_ne (by decide))
theorem zitFu {B : Nat → Int32} {n f p : Nat} {d o m : Int32} {T : Nat → Bool} (hF : Fu B n (f + 1) p) (h : (zit B n p d o m T).1 = -1) : Fu B n f (zit B n p d o m T).2.2.1 := by
  unfold zit at h ⊢
  by_cases c0 : tK B n p = 0 ∧ d = 0
  · rw [if_pos c0] at h; exact absurd h zfin_ne
  · rw [if_neg c0] at h ⊢
    by_cases c1 : 0 < d ∧ tK B n p = 4 ∧ tV B n p = 125
    · rw [if_pos c1] at h ⊢
      have hG := hF.dn (by rw [c1.2.1]; decide)
      unfold zCl
      split
      · exact hG
      · exact hG
    · rw [if_neg c1] at h ⊢
      by_cases c2 : tK B n p = 1 ∧ ¬ (tV B n p = 0 ∧ 0 < d)
      · rw [if_pos c2] at h ⊢
        have hG := hF.dn (by rw [c2.1]; decide)
        have hG1 := zFu hG
        have hG2 := zFu2 hG
        unfold zWd at h ⊢
        split at h
        · rename_i r; rw [if_pos r]; exact hG2.2.2 _ _ _ h
        · rename_i r
          rw [if_neg r]
          split at h
          · rename_i r; rw [if_pos r]; exact hG2.2.1 _ _ _ _ h
          · rename_i r
            rw [if_neg r]
            split at h
            · rename_i r; rw [if_pos r]; exact hG1.1 _ _ _ _ h
            · rename_i r; rw [if_neg r]; exact hG2.1 _ _ _ _ _ h
      · rw [if_neg c2] at h; exact absurd h (zbad_ne (by decide))
def xM (J : px_I) (r : zR) : Prop := (r.1 = 0 ∧ J 76 14 = 0 ∧ J 76 15 = -1 ∧ J 76 13 = r.2.2.2.2.2.1) ∨ (1 ≤ r.1 ∧ xE J r.1 r.2.1)
theorem xLp.stop {w : Nat} {I : px_I} (h : ¬ I 76 14 = 0) : ∀ f, xLp w f I = I
  | 0 => rfl
  | f + 1 => if_neg h
theorem xLp.A {B : Nat → Int32} {n w : Nat} (hw : w = 77 ∨ 147 ≤ w) : ∀ (f : Nat) (I : px_I) (p : Nat) (d o m : Int32) (T : Nat → Bool), Fu B n f p → xT B n I p → xP I d o (m + (if 0 < d then 1 else 0)) T → ∃ r, Zr B n (p, d, o, m, T) r ∧ xM (xEn1 (xLp w f I)) r := by
  intro f
  induction f with
  | zero => intro I p d o m T hF; exact hF.elim
  | succ f ih =>
    intro I p d o m T hF hT hP
    have hC := xNx.C hT
    have hN := hP.nx
    have ck := tCK B n p
    have eZ : zIt B n (p, d, o, m, T) = zit B n p d o m T := rfl
    unfold xLp
    rw [if_pos hP.1, hC.1]
    have dr := hP.2.2.2.2.1
    by_cases c0 : tC B n p = 0
    · rw [if_pos c0]
      have k0 := ck.1.mp c0
      by_cases e : d = 0
      · have ez : zit B n p d o m T = zfin m := by unfold zit; exact if_pos ⟨k0, e⟩
        have e1 : xEn1 (xNx I) = xNx I := by unfold xEn1; rw [if_neg (fun z => by rw [hN.2.1, e] at z; exact absurd z.2 (by decide))]
        rw [e1]
        refine ⟨zfin m, ?_, Or.inl ⟨rfl, hN.1, hN.2.2.2.2.2.2.2.2.2.2.2, ?_⟩⟩
        · rw [← ez, ← eZ]
          exact Zr.one (by rw [eZ, ez]; show ¬ (0 : Int32) = -1; decide)
        · have := hN.2.2.2.1
          rw [if_neg (by rw [e]; decide)] at this
          rw [this]; show m + 0 = m; grind
      · have ez : zit B n p d o m T = zbad 1 (tS B n p) := by unfold zit; rw [if_neg (fun z => e z.2), if_neg (fun z => by rw [k0] at z; exact absurd z.2.1 (by decide)), if_neg (fun z => by rw [k0] at z; exact absurd z.1 (by decide))]
        have e1 : xEn1 (xNx I) = xFl (xNx I) 1 := by unfold xEn1; rw [if_pos ⟨hN.1, by rw [hN.2.1]; grind⟩]
        rw [e1]
        refine ⟨zbad 1 (tS B n p), ?_, Or.inr ⟨by show (1 : Int32) ≤ 1; decide, xFl.E hC hN.1⟩⟩
        rw [← ez, ← eZ]
        exact Zr.one (by rw [eZ, ez]; show ¬ (1 : Int32) = -1; decide)
    · rw [if_neg c0]
      -- one part, then the others
      have fin : ∀ I2, xO B n I2 (zit B n p d o m T) → ∃ r, Zr B n (p, d, o, m, T) r ∧ xM (xEn1 (xLp w f I2)) r := fun I2 ho => by
        rcases ho with ⟨o1, o2, o3⟩ | ⟨o1, o2⟩
        · obtain ⟨r, r1, r2⟩ := ih I2 _ _ _ _ _ (zitFu hF o1) o2 o3
          exact ⟨r, Zr.step (by rw [eZ]; exact o1) r1, r2⟩
        · have ne : ¬ I2 76 14 = 0 := by rw [o2.1]; grind
          rw [xLp.stop ne]
          have e1 : xEn1 I2 = I2 := by unfold xEn1; rw [if_neg (fun z => ne z.1)]
          rw [e1]
          exact ⟨zit B n p d o m T, Zr.one (by rw [eZ]; intro z; rw [z] at o1; exact absurd o1 (by decide)), Or.inr ⟨o1, o2⟩⟩
      by_cases c5 : tC B n p = 5
      · rw [if_pos c5]
        refine fin _ ?_
        have k5 := ck.2.2.2.2.1.mp c5
        by_cases e : 0 < d
        · have ez : zit B n p d o m T = zCl B n p d o m T := by unfold zit; rw [if_neg (fun z => c0 (ck.1.mpr z.1)), if_pos ⟨e, k5⟩]
          rw [ez]
          rw [if_pos e] at hN
          exact xCB.A hw e (hC.2.2.2 c0).1 hN
        · have ez : zit B n p d o m T = zbad 1 (tS B n p) := by unfold zit; rw [if_neg (fun z => c0 (ck.1.mpr z.1)), if_neg (fun z => e z.1), if_neg (fun z => by rw [k5.1] at z; exact absurd z.1 (by decide))]
          rw [ez]
          have ec : xCB w (xNx I) = xFl (xNx I) 1 := by unfold xCB; rw [if_neg (fun z => by rw [hN.2.1] at z; grind)]
          rw [ec]
          exact xO.bad (xFl.E hC hN.1) (by decide)
      · rw [if_neg c5]
        exact fin _ (xRP.A hw hC c0 c5 hN)
/-- the tokens reach the end -/
theorem cTA.fuel {B : Nat → Int32} {n : Nat} {J : px_I} (h : cTA B n J) : Fu B n (J 70 6).toNatClampNeg 0 := by
  obtain ⟨N, n1, n2, n3, -⟩ := h
  have key : ∀ k, k ≤ N → Fu B n (k + 1) (tpos J (N - k)) := by
    intro k
    induction k with
    | zero => intro _; exact Or.inl (by rw [Nat.sub_zero, n3]; exact Nat.le_refl _)
    | succ k ih =>
      intro hk
      refine Or.inr ?_
      have e : tE B n (tpos J (N - (k + 1))) = tpos J (N - k) := by
        have o := (n2 (N - (k + 1)) (by omega)).2.2.2.2.1
        rw [← o, show N - k = (N - (k + 1)) + 1 by omega]
        rfl
      rw [e]
      exact ih (by omega)
  have := key N (Nat.le_refl _)
  rw [Nat.sub_self] at this
  rw [n1]
  exact this
/-- the class's reading -/
theorem xRead.A {w : Nat} {I I2 : px_I} (hw : w = 77 ∨ 147 ≤ w) (hl : 0 ≤ I 70 5 ∧ I 70 5 ≤ 400) (h : xRead w I I2) : ∃ r, Zr (byC I) (nC I) (0, 0, -1, 0, fun _ => false) r ∧ xM I2 r := by
  obtain ⟨Ia, Ib, hF, hA, h6, ⟨hb, hb84⟩, rfl⟩ := h
  have fr : ∀ b, 70 ≤ b → b ≤ 75 → Ib b = Ia b := fun b q1 q2 => funext fun j => by
    rw [hb b j (by omega)]
    unfold xBf
    repeat rw [px_u_ne (by omega)]
  have f76 : ∀ j, Ib 76 j = xBf w Ia 76 j := fun j => hb 76 j (by decide)
  have eb : byC Ia = byC I ∧ nC Ia = nC I := by
    have e5 : Ia 70 5 = I 70 5 := hF 70 5 (by decide) (by decide)
    have e71 : Ia 71 = I 71 := funext fun j => hF 71 j (by decide) (fun q => absurd q.1 (by decide))
    unfold byC nC
    rw [e5, e71]
    exact ⟨rfl, rfl⟩
  have tp : ∀ k, tpos Ib k = tpos Ia k := fun k => tpos_cg k (fun j _ => ⟨by rw [fr 73 (by decide) (by decide)], by rw [fr 74 (by decide) (by decide)]⟩)
  have i9 : Ib 76 9 = -1 := by rw [f76]; unfold xBf; simp [px_ur]
  have hT : xT (byC I) (nC I) Ib 0 := by
    have hA2 : cTA (byC I) (nC I) Ib := by
      obtain ⟨N, n1, n2, n3, n4, n5, n6⟩ := hA
      refine ⟨N, by rw [fr 70 (by decide) (by decide)]; exact n1, fun k hk => (n2 k hk).cg (fun j _ => ⟨by rw [fr 72 (by decide) (by decide)], by rw [fr 73 (by decide) (by decide)], by rw [fr 74 (by decide) (by decide)], by rw [fr 75 (by decide) (by decide)]⟩), by rw [tp]; exact n3, by rw [fr 72 (by decide) (by decide)]; exact n4, ?_, by rw [fr 73 (by decide) (by decide)]; exact n6⟩
      unfold pl at *
      rw [fr 73 (by decide) (by decide)]; exact n5
    refine ⟨hA2, ?_, ?_, ?_, by rw [fr 70 (by decide) (by decide)]; exact h6, by rw [i9]; decide, ?_, ?_⟩
    · rw [← eb.1]; unfold byC; rw [fr 70 (by decide) (by decide), fr 71 (by decide) (by decide)]
    · rw [← eb.2]; unfold nC; rw [fr 70 (by decide) (by decide)]
    · have := xle hl.1 hl.2
      rw [show (400 : Int32).toNatClampNeg = 400 by decide] at this
      exact this
    · rw [i9, show (-1 : Int32) + 1 = 0 by decide, xz0]
      obtain ⟨N, n1, -⟩ := hA2
      omega
    · rw [i9, show (-1 : Int32) + 1 = 0 by decide, xz0]; rfl
  have hP : xP Ib 0 (-1) (0 + (if (0 : Int32) < 0 then 1 else 0)) (fun _ => false) := by
    refine ⟨?_, ?_, ?_, ?_, by decide, fun _ => rfl, by decide, fun l hl9 => ?_, fun q hq => ?_, fun q q1 q2 => ?_, fun l hl9 => ?_, ?_⟩
    · rw [f76]; unfold xBf; simp [px_ur]
    · rw [f76]; unfold xBf; simp [px_ur]
    · rw [f76]; unfold xBf; simp [px_ur]
    · rw [f76]; unfold xBf; simp [px_ur]
    · rw [hb84 l hl9]; simp
    · rw [xz0] at hq
      have : q = 0 := by omega
      subst this
      rw [hb 82 0 (by decide)]
      unfold xBf
      rw [px_u_at]; decide
    · rw [xz0] at q2; omega
    · rw [hb84 l hl9]; decide
    · rw [f76]; unfold xBf; simp [px_ur]
  obtain ⟨r, r1, r2⟩ := xLp.A hw (Ib 70 6).toNatClampNeg Ib 0 0 (-1) 0 (fun _ => false) hT.1.fuel hT hP
  refine ⟨r, r1, ?_⟩
  unfold xM xE at *
  unfold xEn
  rw [px_u_ne (by omega)]
  exact r2
