/-! a text, part by part: what both readers come to -/
abbrev zS := Nat × Int32 × Int32 × Int32 × (Nat → Bool)
abbrev zR := Int32 × Nat × zS
def zgo (p : Nat) (d o m : Int32) (T : Nat → Bool) : zR := (-1, 0, p, d, o, m, T)
def zbad (f : Int32) (a : Nat) : zR := (f, a, 0, 0, 0, 0, fun _ => false)
def zfin (m : Int32) : zR := (0, 0, 0, 0, 0, m, fun _ => false)
def zSO (B : Nat → Int32) (n q : Nat) (d o m : Int32) (T : Nat → Bool) : zR := if tK B n q = 4 ∧ tV B n q = 59 then zgo (tE B n q) d o (m + (if d = 0 then 1 else 0)) T else zbad 1 (tS B n q)
def zOp (B : Nat → Int32) (n q : Nat) (d o m : Int32) (T : Nat → Bool) : zR := if tK B n q = 4 ∧ tV B n q = 123 then (if d = 8 then zbad 3 (tS B n q) else zgo (tE B n q) (d + 1) o m T) else zbad 1 (tS B n q)
def zNm (B : Nat → Int32) (n : Nat) (w : Int32) (q : Nat) (d o m : Int32) (T : Nat → Bool) : zR := if tK B n q = 3 then (if yLo w ≤ tV B n q ∧ tV B n q ≤ yHi w then (if w = 8 then zOp B n (tE B n q) d o m T else zSO B n (tE B n q) d o m T) else zbad 2 (tS B n q)) else zbad 1 (tS B n q)
def zDo (B : Nat → Int32) (n q : Nat) (d o m : Int32) (T : Nat → Bool) : zR := if tK B n q = 2 then (if T (tV B n q).toNatClampNeg = true then zSO B n (tE B n q) d o m T else zbad 4 (tS B n q)) else zbad 1 (tS B n q)
def zDf (B : Nat → Int32) (n q : Nat) (d m : Int32) (T : Nat → Bool) : zR := if tK B n q = 2 then (if T (tV B n q).toNatClampNeg = true then zbad 4 (tS B n q) else zOp B n (tE B n q) d (tV B n q) m T) else zbad 1 (tS B n q)
def zCl (B : Nat → Int32) (n p : Nat) (d o m : Int32) (T : Nat → Bool) : zR := if d = 1 ∧ ¬ o = -1 then zgo (tE B n p) (d - 1) (-1) (m + 1) (fun l => if l = o.toNatClampNeg then true else T l) else zgo (tE B n p) (d - 1) o (m + (if d - 1 = 0 then 1 else 0)) T
def zWd (B : Nat → Int32) (n p : Nat) (d o m : Int32) (T : Nat → Bool) : zR := if tV B n p = 0 then zDf B n (tE B n p) d m T else if tV B n p = 7 then zDo B n (tE B n p) d o m T else if tV B n p = 5 ∨ tV B n p = 6 then zSO B n (tE B n p) d o m T else zNm B n (tV B n p) (tE B n p) d o m T
def zit (B : Nat → Int32) (n p : Nat) (d o m : Int32) (T : Nat → Bool) : zR := if tK B n p = 0 ∧ d = 0 then zfin m else if 0 < d ∧ tK B n p = 4 ∧ tV B n p = 125 then zCl B n p d o m T else if tK B n p = 1 ∧ ¬ (tV B n p = 0 ∧ 0 < d) then zWd B n p d o m T else zbad 1 (tS B n p)
def zIt (B : Nat → Int32) (n : Nat) (s : zS) : zR := zit B n s.1 s.2.1 s.2.2.1 s.2.2.2.1 s.2.2.2.2
def zrun (B : Nat → Int32) (n : Nat) : Nat → zS → zR
  | 0, s => (-1, 0, s)
  | f + 1, s => if (zIt B n s).1 = -1 then zrun B n f (zIt B n s).2.2 else zIt B n s
def Zr (B : Nat → Int32) (n : Nat) (s : zS) (r : zR) : Prop := ¬ r.1 = -1 ∧ ∃ f, zrun B n f s = r
theorem Zr.one {B : Nat → Int32} {n : Nat} {s : zS} (h : ¬ (zIt B n s).1 = -1) : Zr B n s (zIt B n s) := ⟨h, 1, if_neg h⟩
theorem Zr.step {B : Nat → Int32} {n : Nat} {s : zS} {r : zR} (h : (zIt B n s).1 = -1) (hr : Zr B n (zIt B n s).2.2 r) : Zr B n s r := by
  obtain ⟨h1, f, h2⟩ := hr
  exact ⟨h1, f + 1, (if_pos h).trans h2⟩
theorem zrun_more {B : Nat → Int32} {n : Nat} {r : zR} (hr : ¬ r.1 = -1) : ∀ (f : Nat) (s : zS), zrun B n f s = r → ∀ g, zrun B n (f + g) s = r := by
  intro f
  induction f with
  | zero => intro s h g; exact absurd (by rw [← h]; rfl) hr
  | succ f ih =>
    intro s h g
    rw [show f + 1 + g = (f + g) + 1 by omega]
    unfold zrun at h ⊢
    by_cases c : (zIt B n s).1 = -1
    · rw [if_pos c] at h ⊢
      exact ih _ h g
    · rw [if_neg c] at h ⊢
      exact h
theorem Zr.det {B : Nat → Int32} {n : Nat} {s : zS} {r r' : zR} (h : Zr B n s r) (h' : Zr B n s r') : r = r' := by
  obtain ⟨h1, f, h2⟩ := h
  obtain ⟨h3, g, h4⟩ := h'
  have a := zrun_more h1 f s h2 g
  have b := zrun_more h3 g s h4 f
  rw [Nat.add_comm] at b
  exact a.symm.trans b
/-! the reference comes to just that -/
def yT (B : Nat → Int32) (n : Nat) (I : px_I) (q : Nat) : Prop := nXt B n q I ∧ byR I = B ∧ nR I = n ∧ 0 ≤ I 103 28
def yS (I : px_I) (d o m : Int32) (T : Nat → Bool) : Prop := I 103 31 = 0 ∧ I 103 39 = d ∧ I 103 72 = m ∧ (0 ≤ d ∧ d ≤ 8) ∧ (d = 0 → o = -1) ∧ (-1 ≤ o ∧ o ≤ 7) ∧ (0 < d → (I 125 0 = 1 ↔ ¬ o = -1)) ∧ (¬ o = -1 → I 103 71 = o) ∧ (∀ q : Int32, 1 ≤ q → q < d → ¬ I 125 q.toNatClampNeg = 1) ∧ (∀ l : Nat, l < 8 → (T l = true ↔ 0 ≤ I 124 l)) ∧ I 103 32 = -1
def yO (B : Nat → Int32) (n : Nat) (I2 : px_I) (r : zR) : Prop := (r.1 = -1 ∧ yT B n I2 r.2.2.1 ∧ yS I2 r.2.2.2.1 r.2.2.2.2.1 r.2.2.2.2.2.1 r.2.2.2.2.2.2) ∨ (1 ≤ r.1 ∧ I2 103 31 = r.1 ∧ (I2 103 32).toNatClampNeg = r.2.1 ∧ 0 ≤ I2 103 32)
theorem yO.go {B : Nat → Int32} {n : Nat} {I2 : px_I} {p : Nat} {d o m : Int32} {T : Nat → Bool} (h : yT B n I2 p) (hs : yS I2 d o m T) : yO B n I2 (zgo p d o m T) := Or.inl ⟨rfl, h, hs⟩
theorem yO.bad {B : Nat → Int32} {n : Nat} {I I2 : px_I} {q : Nat} {f : Int32} (h : yT B n I q) (hf : 1 ≤ f) (hI : I2 = yEr I f) : yO B n I2 (zbad f (tS B n q)) := by
  subst hI
  refine Or.inr ⟨hf, ?_, ?_, ?_⟩
  · unfold yEr; simp [px_ur]; rfl
  · unfold yEr; simp [px_ur]; exact h.1.1
  · unfold yEr; simp [px_ur]; exact h.2.2.2
/-- what a token doesn't touch -/
def yK (I J : px_I) : Prop := J 103 26 = I 103 26 ∧ J 103 27 = I 103 27 ∧ J 121 = I 121
theorem yT.nx {B : Nat → Int32} {n q : Nat} {I J K : px_I} (h : yT B n I q) (hf : yK I J) (hn : mNx J K) : yT B n K (tE B n q) := by
  obtain ⟨k1, k2, k3⟩ := hf
  obtain ⟨n1, n2, n3, n4⟩ := hn
  obtain ⟨t1, t2, t3, -⟩ := h
  have b1 : byR J = B := by rw [← t2]; unfold byR; rw [k1, k3]
  have b2 : nR J = n := by rw [← t3]; unfold nR; rw [k1]
  rw [b1, b2, k2, t1.2.1] at n4
  refine ⟨n4, ?_, ?_, n3.1.1⟩
  · rw [← b1]; unfold byR; rw [n1.f 26 (by decide), n1.o 121 (by decide)]
  · rw [← b2]; unfold nR; rw [n1.f 26 (by decide)]
theorem yS.nx {J K : px_I} {d o m : Int32} {T : Nat → Bool} (h : yS J d o m T) (hn : mNx J K) : yS K d o m T := by
  obtain ⟨n1, -⟩ := hn
  unfold yS at *
  rw [n1.f 31 (by decide), n1.f 39 (by decide), n1.f 72 (by decide), n1.f 71 (by decide), n1.o 125 (by decide), n1.o 124 (by decide), n1.f 32 (by decide)]
  exact h
theorem yS.cg {I J : px_I} {d o m : Int32} {T : Nat → Bool} (h : yS I d o m T) (h1 : J 103 31 = I 103 31) (h2 : J 103 39 = I 103 39) (h3 : J 103 72 = I 103 72) (h4 : J 103 71 = I 103 71) (h5 : J 125 = I 125) (h6 : J 124 = I 124) (h7 : J 103 32 = I 103 32) : yS J d o m T := by
  unfold yS at *
  rw [h1, h2, h3, h4, h5, h6, h7]
  exact h
theorem ySg_iff {B : Nat → Int32} {n q : Nat} {I : px_I} (h : yT B n I q) (c : Int32) : ySg I c ↔ (tK B n q = 4 ∧ tV B n q = c) := by
  obtain ⟨⟨-, -, t1, -, t2⟩, -⟩ := h
  unfold ySg
  rw [t1]
  constructor
  · rintro ⟨a, b⟩; exact ⟨a, (t2 (Or.inr (Or.inr a))).symm.trans b⟩
  · rintro ⟨a, b⟩; exact ⟨a, (t2 (Or.inr (Or.inr a))).trans b⟩
theorem ySO.A {B : Nat → Int32} {n q : Nat} {I I2 : px_I} {d o m : Int32} {T : Nat → Bool} (h : yT B n I q) (hs : yS I d o m T) (hi : ySO I I2) : yO B n I2 (zSO B n q d o m T) := by
  unfold zSO
  rcases hi with ⟨a, b⟩ | ⟨a, b⟩
  · rw [ySg_iff h] at a
    rw [if_neg a]
    exact yO.bad h (by decide) b
  · rw [ySg_iff h] at a
    rw [if_pos a]
    refine yO.go (h.nx ⟨?_, ?_, ?_⟩ b) (yS.nx ?_ b)
    · simp [px_ur]
    · simp [px_ur]
    · funext k; simp [px_ur]
    · obtain ⟨s1, s2, s3, s4, s5, s6, s7, s8, s9, s10, s11⟩ := hs
      rw [s2, s3]
      exact ⟨by simpa [px_ur] using s1, by simpa [px_ur] using s2, by simp [px_ur], s4, s5, s6, by simpa [px_ur] using s7, by simpa [px_ur] using s8, by simpa [px_ur] using s9, by simpa [px_ur] using s10, by simpa [px_ur] using s11⟩
theorem yOp.A {B : Nat → Int32} {n q : Nat} {I I2 : px_I} {d o o2 m dd wh : Int32} {T : Nat → Bool} (h : yT B n I q) (hs : yS I d o m T) (ho : (dd = 0 ∧ o2 = o) ∨ (¬ dd = 0 ∧ d = 0 ∧ I 103 71 = o2 ∧ 0 ≤ o2 ∧ o2 ≤ 7)) (hi : yOp dd wh I I2) : yO B n I2 (zOp B n q d o2 m T) := by
  unfold zOp
  rcases hi with ⟨a, b⟩ | ⟨a, c, b⟩ | ⟨a, c, b⟩
  · rw [ySg_iff h] at a
    rw [if_neg a]
    exact yO.bad h (by decide) b
  · rw [ySg_iff h] at a
    rw [if_pos a, if_pos (by rw [← hs.2.1]; exact c)]
    exact yO.bad h (by decide) b
  · rw [ySg_iff h] at a
    rw [if_pos a, if_neg (by rw [← hs.2.1]; exact c)]
    refine yO.go (h.nx ⟨?_, ?_, ?_⟩ b) (yS.nx ?_ b)
    · simp [px_ur]
    · simp [px_ur]
    · funext k; simp [px_ur]
    · obtain ⟨s1, s2, s3, s4, s5, s6, s7, s8, s9, s10, s11⟩ := hs
      rw [s2] at c ⊢
      have o6 : -1 ≤ o2 ∧ o2 ≤ 7 := by grind
      have e0 : (0 : Int32).toNatClampNeg = 0 := by decide
      have z0 : d.toNatClampNeg = 0 ↔ d = 0 := by
        constructor
        · intro z
          have := xnat s4.1
          rw [← Int32.toInt_inj, show (0 : Int32).toInt = 0 by decide]
          omega
        · intro z; rw [z]; rfl
      refine ⟨by simpa [px_ur] using s1, by simp [px_ur], by simpa [px_ur] using s3, by grind, fun z => by grind, o6, fun _ => ?_, fun z => ?_, fun k k1 k2 => ?_, by simpa [px_ur] using s10, by simpa [px_ur] using s11⟩
      · simp [px_ur]
        by_cases e : d = 0
        · rw [e, e0, if_pos rfl]
          by_cases f : dd = 0
          · rw [if_pos f]
            have := s5 e
            grind
          · rw [if_neg f]
            grind
        · rw [if_neg (fun z => e (z0.mp z.symm))]
          rcases ho with ho | ho
          · rw [ho.2]; exact s7 (by grind)
          · exact absurd ho.2.1 e
      · simp [px_ur]
        rcases ho with ho | ho
        · rw [ho.2] at z ⊢; exact s8 z
        · exact ho.2.2.1
      · simp [px_ur]
        by_cases e : k.toNatClampNeg = d.toNatClampNeg
        · rw [if_pos e]
          have k0 : k = d := by
            have a1 := xnat (show 0 ≤ k by grind)
            have a2 := xnat s4.1
            rw [← Int32.toInt_inj]; omega
          have d0 : ¬ d = 0 := by grind
          rw [if_pos (by rcases ho with ho | ho; exact ho.1; exact absurd ho.2.1 d0)]
          decide
        · rw [if_neg e]
          refine s9 k k1 ?_
          have k3 : ¬ k = d := fun z => e (by rw [z])
          grind
theorem yRng {w x : Int32} (hw : w = 1 ∨ w = 2 ∨ w = 3 ∨ w = 4 ∨ w = 8) : (yLo w ≤ cMn 1000000 x ∧ cMn 1000000 x ≤ yHi w) ↔ (yLo w ≤ x ∧ x ≤ yHi w) := by
  unfold cMn
  rcases hw with rfl | rfl | rfl | rfl | rfl <;> simp only [yLo, yHi] <;> split <;> grind
theorem mE_S {J J2 : px_I} {o v d oo m : Int32} {T : Nat → Bool} (h : yS J d oo m T) (hJ : J2 = mE J o v) (k : Nat) (s : Int32) : yS (px_u J2 127 k s) d oo m T := by
  refine h.cg ?_ ?_ ?_ ?_ ?_ ?_ ?_
  · rw [px_u_ne (by decide)]; exact mE_f hJ (by decide)
  · rw [px_u_ne (by decide)]; exact mE_f hJ (by decide)
  · rw [px_u_ne (by decide)]; exact mE_f hJ (by decide)
  · rw [px_u_ne (by decide)]; exact mE_f hJ (by decide)
  · rw [px_u_ne (by decide)]; exact mE_b hJ (by decide) (by decide) (by decide)
  · rw [px_u_ne (by decide)]; exact mE_b hJ (by decide) (by decide) (by decide)
  · rw [px_u_ne (by decide)]; exact mE_f hJ (by decide)
theorem mE_K {J J2 : px_I} {o v : Int32} (hJ : J2 = mE J o v) (k : Nat) (s : Int32) : yK J (px_u J2 127 k s) := by
  refine ⟨?_, ?_, ?_⟩
  · rw [px_u_ne (by decide)]; exact mE_f hJ (by decide)
  · rw [px_u_ne (by decide)]; exact mE_f hJ (by decide)
  · rw [px_u_ne (by decide)]; exact mE_b hJ (by decide) (by decide) (by decide)
theorem yNm2.A {B : Nat → Int32} {n q : Nat} {J I2 : px_I} {d o m w : Int32} {T : Nat → Bool} (hw : w = 1 ∨ w = 2 ∨ w = 3 ∨ w = 4 ∨ w = 8) (h : yT B n J q) (hs : yS J d o m T) (hi : yNm2 w J I2) : yO B n I2 (zNm B n w q d o m T) := by
  unfold zNm
  have t3 := h.1.2.2.1
  rcases hi with ⟨a, b⟩ | ⟨a, c, b⟩ | ⟨a, c, s, K, -, b, e⟩
  · rw [t3] at a
    rw [if_neg a]
    exact yO.bad h (by decide) b
  · rw [t3] at a
    rw [if_pos a, if_neg (by rw [← h.1.2.2.2.1 a, yRng hw]; exact c)]
    exact yO.bad h (by decide) b
  · rw [t3] at a
    rw [if_pos a, if_pos (by rw [← h.1.2.2.2.1 a, yRng hw]; exact c)]
    have hT := h.nx (mE_K rfl _ _) b
    have hS := (mE_S hs rfl (J 103 39).toNatClampNeg s).nx b
    rcases e with ⟨e1, e2⟩ | ⟨e1, e2⟩
    · rw [if_pos e1]
      exact e2.A hT hS (Or.inl ⟨rfl, rfl⟩)
    · rw [if_neg e1]
      exact e2.A hT hS
theorem yK.rfl' {I : px_I} : yK I I := ⟨rfl, rfl, rfl⟩
theorem yNm.A {B : Nat → Int32} {n q : Nat} {J I2 : px_I} {d o m w : Int32} {T : Nat → Bool} (hw : w = 1 ∨ w = 2 ∨ w = 3 ∨ w = 4 ∨ w = 8) (h : yT B n J q) (hs : yS J d o m T) (hi : yNm w J I2) : yO B n I2 (zNm B n w (tE B n q) d o m T) := by
  obtain ⟨K, k1, k2⟩ := hi
  exact k2.A hw (h.nx yK.rfl' k1) (hs.nx k1)
theorem yLet {B : Nat → Int32} {n q : Nat} (h : tK B n q = 2) : 0 ≤ tV B n q ∧ tV B n q ≤ 7 := by
  unfold tK at h
  unfold tV
  by_cases c0 : n ≤ tS B n q
  · rw [if_pos c0] at h; exact absurd h (by decide)
  · rw [if_neg c0] at h
    by_cases c1 : bL (B (tS B n q)) = true
    · rw [if_pos c1] at h ⊢
      by_cases c2 : rn bL B n (tS B n q) = tS B n q + 1 ∧ 97 ≤ B (tS B n q) ∧ B (tS B n q) ≤ 104
      · rw [if_pos c2]; grind
      · rw [if_neg c2] at h
        exfalso
        revert h
        split <;> decide
    · rw [if_neg c1] at h
      exfalso
      revert h
      split
      · decide
      · split <;> decide
theorem yLetN {B : Nat → Int32} {n q : Nat} (h : tK B n q = 2) : (tV B n q).toNatClampNeg < 8 := by
  have a := yLet h
  have b := xnat a.1
  have c := Int32.le_iff_toInt_le.mp a.2
  rw [show (7 : Int32).toInt = 7 by decide] at c
  omega
theorem ySt.A {B : Nat → Int32} {n p : Nat} {I I2 : px_I} {d o m : Int32} {T : Nat → Bool} (hk : tK B n p = 1) (h0 : ¬ tV B n p = 0) (hr : 0 ≤ tV B n p ∧ tV B n p ≤ 8) (h : yT B n I p) (hs : yS I d o m T) (hi : ySt I I2) : yO B n I2 (zWd B n p d o m T) := by
  have t5 := h.1.2.2.2.2 (Or.inl hk)
  unfold zWd
  unfold ySt at hi
  rw [t5] at hi
  rw [if_neg h0]
  rcases hi with ⟨a, s, K, -, b, c⟩ | ⟨a, J, b, c⟩ | ⟨a, b⟩
  · rw [if_neg (by grind), if_pos a]
    exact c.A (h.nx (mE_K rfl _ _) b) ((mE_S hs rfl (I 103 39).toNatClampNeg s).nx b)
  · rw [if_pos a]
    have hT := h.nx yK.rfl' b
    have hS := hs.nx b
    unfold zDo
    have u3 := hT.1.2.2.1
    rcases c with ⟨c1, c2⟩ | ⟨c1, c2, c3⟩ | ⟨c1, c2, K, c3, c4⟩
    · rw [u3] at c1
      rw [if_neg c1]
      exact yO.bad hT (by decide) c2
    · rw [u3] at c1
      have u5 := hT.1.2.2.2.2 (Or.inr (Or.inl c1))
      have u6 := hS.2.2.2.2.2.2.2.2.2.1 _ (yLetN c1)
      rw [u5] at c2
      rw [if_pos c1, if_neg (fun z => absurd (u6.mp z) (Int32.not_le.mpr c2))]
      exact yO.bad hT (by decide) c3
    · rw [u3] at c1
      have u5 := hT.1.2.2.2.2 (Or.inr (Or.inl c1))
      have u6 := hS.2.2.2.2.2.2.2.2.2.1 _ (yLetN c1)
      rw [u5] at c2 c3
      rw [if_pos c1, if_pos (u6.mpr (Int32.not_lt.mp c2))]
      rcases c3 with ⟨-, s, -, c5⟩ | ⟨-, c5⟩
      · exact c4.A (hT.nx (mE_K rfl _ _) c5) ((mE_S hS rfl (J 103 39).toNatClampNeg s).nx c5)
      · exact c4.A (hT.nx yK.rfl' c5) (hS.nx c5)
  · rw [if_neg (by grind), if_neg (by grind)]
    exact b.A (by grind) h hs
theorem yDf.A {B : Nat → Int32} {n p : Nat} {I I2 : px_I} {d o m : Int32} {T : Nat → Bool} (hd : d = 0) (h : yT B n I p) (hs : yS I d o m T) (hi : yDf I I2) : yO B n I2 (zDf B n (tE B n p) d m T) := by
  obtain ⟨J, b, c⟩ := hi
  have hT := h.nx yK.rfl' b
  have hS := hs.nx b
  unfold zDf
  have u3 := hT.1.2.2.1
  rcases c with ⟨c1, c2⟩ | ⟨c1, c2, c3⟩ | ⟨c1, c2, K, c3, c4⟩
  · rw [u3] at c1
    rw [if_neg c1]
    exact yO.bad hT (by decide) c2
  · rw [u3] at c1
    have u5 := hT.1.2.2.2.2 (Or.inr (Or.inl c1))
    have u6 := hS.2.2.2.2.2.2.2.2.2.1 _ (yLetN c1)
    rw [u5] at c2
    rw [if_pos c1, if_pos (u6.mpr c2)]
    exact yO.bad hT (by decide) c3
  · rw [u3] at c1
    have u5 := hT.1.2.2.2.2 (Or.inr (Or.inl c1))
    have u6 := hS.2.2.2.2.2.2.2.2.2.1 _ (yLetN c1)
    have u7 := yLet c1
    rw [u5] at c2 c3
    rw [if_pos c1, if_neg (fun z => c2 (u6.mp z))]
    have k71 : K 103 71 = tV B n (tE B n p) := by rw [c3.1.f 71 (by decide), px_u_at]
    have hTK : yT B n K (tE B n (tE B n p)) := hT.nx ⟨by simp [px_ur], by simp [px_ur], by funext k; simp [px_ur]⟩ c3
    have o1 : o = -1 := hs.2.2.2.2.1 hd
    have hSK : yS K d o m T := by
      refine yS.nx ?_ c3
      obtain ⟨s1, s2, s3, s4, s5, s6, s7, s8, s9, s10, s11⟩ := hS
      exact ⟨by simpa [px_ur] using s1, by simpa [px_ur] using s2, by simpa [px_ur] using s3, s4, s5, s6, by simpa [px_ur] using s7, fun z => absurd o1 z, by simpa [px_ur] using s9, by simpa [px_ur] using s10, by simpa [px_ur] using s11⟩
    have hTE : yT B n (mE K 23 0) (tE B n (tE B n p)) := by
      obtain ⟨v1, v2, v3, v4⟩ := hTK
      refine ⟨?_, ?_, ?_, by rw [mE_f rfl (j := 28) (by decide)]; exact v4⟩
      · unfold nXt at *
        rw [mE_f rfl (j := 28) (by decide), mE_f rfl (j := 27) (by decide), mE_f rfl (j := 29) (by decide), mE_f rfl (j := 30) (by decide)]
        exact v1
      · rw [← v2]; unfold byR; rw [mE_f rfl (j := 26) (by decide), mE_b rfl (b := 121) (by decide) (by decide) (by decide)]
      · rw [← v3]; unfold nR; rw [mE_f rfl (j := 26) (by decide)]
    have hSE : yS (mE K 23 0) d o m T := hSK.cg (mE_f rfl (by decide)) (mE_f rfl (by decide)) (mE_f rfl (by decide)) (mE_f rfl (by decide)) (mE_b rfl (by decide) (by decide) (by decide)) (mE_b rfl (by decide) (by decide) (by decide)) (mE_f rfl (by decide))
    exact c4.A hTE hSE (Or.inr ⟨by decide, hd, by rw [mE_f rfl (j := 71) (by decide)]; exact k71, u7⟩)
theorem yVr {B : Nat → Int32} {n q : Nat} (h : tK B n q = 1) : 0 ≤ tV B n q ∧ tV B n q ≤ 8 := by
  have wr : ∀ s m, -1 ≤ wId B s m ∧ wId B s m ≤ 8 := fun s m => by unfold wId; grind
  unfold tK at h
  unfold tV
  by_cases c0 : n ≤ tS B n q
  · rw [if_pos c0] at h; exact absurd h (by decide)
  · rw [if_neg c0] at h
    by_cases c1 : bL (B (tS B n q)) = true
    · rw [if_pos c1] at h ⊢
      by_cases c2 : rn bL B n (tS B n q) = tS B n q + 1 ∧ 97 ≤ B (tS B n q) ∧ B (tS B n q) ≤ 104
      · rw [if_pos c2] at h; exact absurd h (by decide)
      · rw [if_neg c2] at h ⊢
        have := wr (tS B n q) (rn bL B n (tS B n q) - tS B n q)
        by_cases c3 : wId B (tS B n q) (rn bL B n (tS B n q) - tS B n q) < 0
        · rw [if_pos c3] at h; exact absurd h (by decide)
        · grind
    · rw [if_neg c1] at h
      exfalso
      revert h
      split
      · decide
      · split <;> decide
theorem yCl.A {B : Nat → Int32} {n p : Nat} {I I2 : px_I} {d o m : Int32} {T : Nat → Bool} (hd : 0 < d) (h : yT B n I p) (hs : yS I d o m T) (hi : yCl I I2) : yO B n I2 (zCl B n p d o m T) := by
  have hs0 := hs
  obtain ⟨s1, s2, s3, s4, s5, s6, s7, s8, s9, s10, s11⟩ := hs
  have e0 : (0 : Int32).toNatClampNeg = 0 := by decide
  unfold yCl yC1 yC2 at hi
  rw [s2, s3] at hi
  unfold zCl
  rcases hi with ⟨a, w0, b⟩ | ⟨a, s, -, b⟩
  · have d1 : d = 1 := by
      by_cases e : d = 1
      · exact e
      · exact absurd a (s9 (d - 1) (by grind) (by grind))
    have o1 : ¬ o = -1 := by
      refine (s7 hd).mp ?_
      rw [d1, show (1 : Int32) - 1 = 0 by decide, e0] at a
      exact a
    rw [if_pos ⟨d1, o1⟩]
    have q8 := s8 o1
    rw [q8] at b
    refine yO.go (h.nx ⟨?_, ?_, ?_⟩ b) (yS.nx ?_ b)
    · unfold mE; simp [px_ur]
    · unfold mE; simp [px_ur]
    · unfold mE; funext k; simp [px_ur]
    · rw [d1] at b ⊢
      refine ⟨?_, ?_, ?_, by decide, fun _ => rfl, by decide, fun z => absurd z (by decide), fun z => absurd rfl z, fun q q1 q2 => ?_, fun l hl => ?_, by unfold mE; simp [px_ur]; exact s11⟩
      · unfold mE; simp [px_ur]; exact s1
      · unfold mE; simp [px_ur]
      · unfold mE; simp [px_ur]
      · exact absurd q2 (by rw [show (1 : Int32) - 1 = 0 by decide]; grind)
      · unfold mE
        simp [px_ur]
        by_cases e : l = o.toNatClampNeg
        · rw [if_pos e]
          simp [e]
          rw [d1, show (1 : Int32) - 1 = 0 by decide, e0] at w0
          simpa using w0
        · rw [if_neg e]
          simp [e]
          exact s10 l hl
  · have no : ¬ (d = 1 ∧ ¬ o = -1) := fun q => by
      have := (s7 hd).mpr q.2
      rw [q.1, show (1 : Int32) - 1 = 0 by decide, e0] at a
      exact a this
    rw [if_neg no]
    refine yO.go (h.nx ⟨?_, ?_, ?_⟩ b) (yS.nx ?_ b)
    · unfold mE; simp [px_ur]
    · unfold mE; simp [px_ur]
    · unfold mE; funext k; simp [px_ur]
    · refine ⟨?_, ?_, ?_, by grind, fun z => by grind, s6, fun z => ?_, fun z => ?_, fun q q1 q2 => ?_, fun l hl => ?_, by unfold mE; simp [px_ur]; exact s11⟩
      · unfold mE; simp [px_ur]; exact s1
      · unfold mE; simp [px_ur]
      · unfold mE; simp [px_ur]
      · unfold mE; simp [px_ur]; exact s7 hd
      · unfold mE; simp [px_ur]; exact s8 z
      · unfold mE; simp [px_ur]; exact s9 q q1 (by grind)
      · unfold mE; simp [px_ur]; exact s10 l hl
theorem yIt.A {B : Nat → Int32} {n p : Nat} {I I2 : px_I} {d o m : Int32} {T : Nat → Bool} (h : yT B n I p) (hs : yS I d o m T) (hg : yGo I) (hi : yIt I I2) : yO B n I2 (zit B n p d o m T) := by
  have t3 := h.1.2.2.1
  have s2 := hs.2.1
  have s4 := hs.2.2.2.1
  unfold zit
  unfold yGo at hg
  rw [t3, s2] at hg
  rw [if_neg (fun z => by rcases hg.2 with q | q; exact q z.1; rw [z.2] at q; exact absurd q (by decide))]
  unfold yIt at hi
  rw [ySg_iff h, s2, t3] at hi
  rcases hi with ⟨a, b⟩ | ⟨a, b⟩
  · rw [if_pos a]
    exact b.A a.1 h hs
  · rw [if_neg a]
    rcases b with ⟨b1, b2⟩ | ⟨b1, b2, b3, b4⟩ | ⟨b1, b2, b3⟩
    · rw [if_neg (fun z => by
        rcases b1 with b1 | b1
        · exact b1 z.1
        · rw [h.1.2.2.2.2 (Or.inl z.1)] at b1
          exact z.2 b1)]
      exact yO.bad h (by decide) b2
    · rw [h.1.2.2.2.2 (Or.inl b1)] at b2
      rw [if_pos ⟨b1, fun z => b3 z.2⟩]
      unfold zWd
      rw [if_pos b2]
      exact b4.A (by grind) h hs
    · rw [h.1.2.2.2.2 (Or.inl b1)] at b2
      rw [if_pos ⟨b1, fun z => b2 z.1⟩]
      exact b3.A b1 b2 (yVr b1) h hs
/-- what is left when a text has been read -/
def yM (I2 : px_I) (r : zR) : Prop := (r.1 = 0 ∧ I2 103 31 = 0 ∧ I2 103 32 = -1 ∧ I2 103 72 = r.2.2.2.2.2.1) ∨ (1 ≤ r.1 ∧ I2 103 31 = r.1 ∧ (I2 103 32).toNatClampNeg = r.2.1 ∧ 0 ≤ I2 103 32)
theorem yLp.A {B : Nat → Int32} {n : Nat} {I I2 : px_I} (hl : yLp I I2) : ∀ {p : Nat} {d o m : Int32} {T : Nat → Bool}, yT B n I p → yS I d o m T → ∃ r, Zr B n (p, d, o, m, T) r ∧ yM I2 r := by
  have key := hl (fun I I2 => (¬ yGo I → I2 = I) ∧ (∀ {p : Nat} {d o m : Int32} {T : Nat → Bool}, yT B n I p → yS I d o m T → ∃ r, Zr B n (p, d, o, m, T) r ∧ yM I2 r)) (fun I hn => ⟨fun _ => rfl, fun {p d o m T} h hs => ?_⟩) (fun I J K hg hi hk => ⟨fun q => absurd hg q, fun {p d o m T} h hs => ?_⟩)
  · intro p d o m T h hs
    exact key.2 h hs
  · have t3 := h.1.2.2.1
    have s1 := hs.1
    have s2 := hs.2.1
    have s4 := hs.2.2.2.1
    unfold yGo at hn
    rw [t3, s2] at hn
    have e : zIt B n (p, d, o, m, T) = zfin m := by
      show zit B n p d o m T = _
      unfold zit
      refine if_pos ⟨?_, ?_⟩
      · by_cases q : tK B n p = 0
        · exact q
        · exact absurd ⟨s1, Or.inl q⟩ hn
      · by_cases q : d = 0
        · exact q
        · exact absurd ⟨s1, Or.inr (by grind)⟩ hn
    refine ⟨zfin m, ?_, Or.inl ⟨rfl, s1, hs.2.2.2.2.2.2.2.2.2.2, hs.2.2.1⟩⟩
    rw [← e]
    exact Zr.one (by rw [e]; show ¬ (0 : Int32) = -1; decide)
  · have ho := hi.A h hs hg
    have e : zIt B n (p, d, o, m, T) = zit B n p d o m T := rfl
    rcases ho with ⟨o1, o2, o3⟩ | ⟨o1, o2, o3⟩
    · obtain ⟨r, r1, r2⟩ := hk.2 o2 o3
      exact ⟨r, Zr.step (by rw [e]; exact o1) r1, r2⟩
    · have ng : ¬ yGo J := fun z => by
        have := z.1
        rw [o2] at this
        rw [this] at o1
        exact absurd o1 (by decide)
      rw [hk.1 ng]
      refine ⟨zit B n p d o m T, Zr.one (by rw [e]; intro z; rw [z] at o1; exact absurd o1 (by decide)), Or.inr ⟨o1, o2, o3⟩⟩
