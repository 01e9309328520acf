/-! what a run comes to, in both -/
def aRes (T : Nat → Int32) (zs : zL) (h : Int32) (q : Nat) : Int32 := match fD T zs (V0 h) with
  | none => -2000000000
  | some V => (V q).toInt32
theorem fD_t {T T2 : Nat → Int32} (h : ∀ k, k < 5 → T2 k = T k) : ∀ (zs : zL) (V : Nat → Int64), fD T2 zs V = fD T zs V
  | [], _ => rfl
  | x :: xs, V => by
    show (if rBb (rSt T2 x.1 x.2 V) 7 = true then none else fD T2 xs (rSt T2 x.1 x.2 V)) = (if rBb (rSt T x.1 x.2 V) 7 = true then none else fD T xs (rSt T x.1 x.2 V))
    have e : rSt T2 x.1 x.2 V = rSt T x.1 x.2 V := rDo_t h _ _ _
    rw [e, fD_t h xs]
theorem aRes_t {T T2 : Nat → Int32} (h : ∀ k, k < 5 → T2 k = T k) (zs : zL) (s : Int32) (q : Nat) : aRes T2 zs s q = aRes T zs s q := by
  unfold aRes
  rw [fD_t h]
theorem aRes_n {T : Nat → Int32} {zs : zL} {s : Int32} {q : Nat} (h : fD T zs (V0 s) = none) : aRes T zs s q = -2000000000 := by
  unfold aRes
  rw [h]
theorem aRes_s {T : Nat → Int32} {zs : zL} {s : Int32} {q : Nat} {V : Nat → Int64} (h : fD T zs (V0 s) = some V) : aRes T zs s q = (V q).toInt32 := by
  unfold aRes
  rw [h]
def V9 (V W : Nat → Int64) : Prop := ∀ k, k < 9 → V k = W k
theorem rDo_9 {T : Nat → Int32} {o v : Int32} {V W : Nat → Int64} (h : V9 V W) : V9 (rDo T o v V) (rDo T o v W) := by
  intro k hk
  have h0 := h 0 (by decide)
  have h1 := h 1 (by decide)
  have h2 := h 2 (by decide)
  have h3 := h 3 (by decide)
  have h4 := h 4 (by decide)
  have h5 := h 5 (by decide)
  have h6 := h 6 (by decide)
  have h7 := h 7 (by decide)
  have hk9 := h k hk
  unfold rDo gO
  repeat' split
  all_goals simp only [h0, h1, h2, h3, h4, h5, h6, h7, hk9]
theorem rSt_9e {T : Nat → Int32} {o v : Int32} {V W : Nat → Int64} (h : V9 V W) : V9 (rSt T o v V) (rSt T o v W) := by
  unfold rSt
  refine rDo_9 (fun k hk => ?_)
  show (if k = 8 then V 8 + 1 else V k) = (if k = 8 then W 8 + 1 else W k)
  rw [h 8 (by decide), h k hk]
theorem rBb_9 {V W : Nat → Int64} (h : V9 V W) : ∀ k, k ≤ 8 → rBb V k = rBb W k
  | 0, _ => by unfold rBb; rw [h 8 (by decide)]
  | k + 1, hk => by unfold rBb; rw [rBb_9 h k (by omega), h k (by omega)]
theorem fD_9 {T : Nat → Int32} : ∀ (zs : zL) (V W : Nat → Int64), V9 V W → (fD T zs V = none ∧ fD T zs W = none) ∨ ∃ V2 W2, fD T zs V = some V2 ∧ fD T zs W = some W2 ∧ V9 V2 W2
  | [], V, W, h => Or.inr ⟨V, W, rfl, rfl, h⟩
  | x :: xs, V, W, h => by
    have e := rBb_9 (rSt_9e (T := T) (o := x.1) (v := x.2) h) 7 (by decide)
    show ((if rBb (rSt T x.1 x.2 V) 7 = true then none else fD T xs (rSt T x.1 x.2 V)) = none ∧ (if rBb (rSt T x.1 x.2 W) 7 = true then none else fD T xs (rSt T x.1 x.2 W)) = none) ∨ ∃ V2 W2, (if rBb (rSt T x.1 x.2 V) 7 = true then none else fD T xs (rSt T x.1 x.2 V)) = some V2 ∧ (if rBb (rSt T x.1 x.2 W) 7 = true then none else fD T xs (rSt T x.1 x.2 W)) = some W2 ∧ V9 V2 W2
    rw [e]
    by_cases c : rBb (rSt T x.1 x.2 W) 7 = true
    · rw [if_pos c, if_pos c]; exact Or.inl ⟨rfl, rfl⟩
    · rw [if_neg c, if_neg c]; exact fD_9 xs _ _ (rSt_9e h)
theorem rSt_8 {T : Nat → Int32} {o v : Int32} {V : Nat → Int64} : rSt T o v V 8 = V 8 + 1 := by
  have e : (fun k => if k = 8 then V 8 + 1 else V k) 8 = V 8 + 1 := if_pos rfl
  unfold rSt rDo gO
  repeat' split
  all_goals first | exact e | (simp only []; split <;> first | omega | exact e) | (simp; done)
theorem rBb_0 {V : Nat → Int64} (h : 5000 < V 8) : ∀ k, rBb V k = true
  | 0 => by unfold rBb; exact decide_eq_true h
  | k + 1 => by unfold rBb; rw [rBb_0 h k]; rfl
theorem fD_len {T : Nat → Int32} : ∀ (zs : zL) (V V2 : Nat → Int64), fD T zs V = some V2 → 0 ≤ (V 8).toInt → (V 8).toInt ≤ 5000 → (V 8).toInt + zs.length ≤ 5000
  | [], V, V2, _, _, h => by simp; exact h
  | x :: xs, V, V2, e, h0, h5 => by
    have e2 : (if rBb (rSt T x.1 x.2 V) 7 = true then none else fD T xs (rSt T x.1 x.2 V)) = some V2 := e
    by_cases c : rBb (rSt T x.1 x.2 V) 7 = true
    · rw [if_pos c] at e2; exact absurd e2 (fun q => by cases q)
    · rw [if_neg c] at e2
      have e8 : (rSt T x.1 x.2 V 8).toInt = (V 8).toInt + 1 := by
        rw [rSt_8, Int64.toInt_add, show (1 : Int64).toInt = 1 by decide]
        exact Int.bmod_eq_of_le (by omega) (by omega)
      have n5 : ¬ 5000 < rSt T x.1 x.2 V 8 := fun q => c (rBb_0 q 7)
      rw [Int64.lt_iff_toInt_lt, show (5000 : Int64).toInt = 5000 by decide, e8] at n5
      have := fD_len xs _ V2 e2 (by omega) (by omega)
      rw [e8] at this
      rw [List.length_cons]
      omega
theorem V0_8 {h : Int32} : (V0 h 8).toInt = 0 := by unfold V0; rw [if_neg (by decide)]; decide
theorem fD_long {T : Nat → Int32} {zs : zL} {h : Int32} (hl : 5000 < zs.length) : fD T zs (V0 h) = none := by
  rcases e : fD T zs (V0 h) with _ | V
  · rfl
  · have := fD_len zs _ V e (by rw [V0_8]; omega) (by rw [V0_8]; omega)
    rw [V0_8] at this
    omega
/-- what the class keeps of a run -/
def cAns (I : px_I) (L : px_L) (q : Nat) : Int32 := if I 86 17 = 0 then -2000000000 else (cV I L q).toInt32
theorem cEnd.ans {T : Nat → Int32} {zs : zL} {s : Int32} {I : px_I} {L : px_L} (h : cEnd T zs s I L) (q : Nat) : cAns I L q = aRes T zs s q := by
  rcases h with ⟨e, h⟩ | ⟨e, h1, h2⟩
  · have n : fD T zs (V0 s) = none := h.elim fD_long id
    unfold cAns
    rw [if_pos e, aRes_n n]
  · unfold cAns
    rw [if_neg (by rw [e]; decide), aRes_s h2]
theorem rOut.ans {T : Nat → Int32} {zs : zL} {s r : Int32} {L2 : px_L} (h : rOut T zs s r L2) : (r = 0 ∧ ∀ q, aRes T zs s q = -2000000000) ∨ (r = 1 ∧ ∀ q, q < 9 → (L2 132 q).toInt32 = aRes T zs s q) := by
  obtain ⟨W, hW, h⟩ := h
  rcases h with ⟨a, b⟩ | ⟨a, b⟩
  · refine Or.inl ⟨a, fun q => ?_⟩
    rcases fD_9 (T := T) zs W (V0 s) hW with ⟨-, c⟩ | ⟨V2, W2, c, -, -⟩
    · exact aRes_n c
    · rw [b] at c; cases c
  · refine Or.inr ⟨a, fun q hq => ?_⟩
    rcases fD_9 (T := T) zs W (V0 s) hW with ⟨c, -⟩ | ⟨V2, W2, c, d, e⟩
    · rw [b] at c; cases c
    · rw [b] at c
      have c2 := Option.some.inj c
      rw [aRes_s d, c2, e q hq]
/-- nine answers are written -/
def cKp (a : Int32) (I : px_I) (f : Nat → Int32) (m : Nat) (I2 : px_I) : Prop := (∀ b, b ≠ 91 → I2 b = I b) ∧ (∀ q, q < m → I2 91 (a.toNatClampNeg + q) = f q) ∧ ∀ k, (k < a.toNatClampNeg ∨ a.toNatClampNeg + m ≤ k) → I2 91 k = I 91 k
theorem cKp.zero {a : Int32} {I : px_I} {f : Nat → Int32} : cKp a I f 0 I := ⟨fun _ _ => rfl, fun q hq => absurd hq (Nat.not_lt_zero _), fun _ _ => rfl⟩
theorem cKp.at {a : Int32} {I I1 : px_I} {f : Nat → Int32} {m x : Nat} {v : Int32} (h : cKp a I f m I1) (hx : x = a.toNatClampNeg + m) (hv : v = f m) : cKp a I f (m + 1) (px_u I1 91 x v) := by
  obtain ⟨h1, h2, h3⟩ := h
  refine ⟨fun b hb => by rw [px_u_ne hb]; exact h1 b hb, fun q hq => ?_, fun k hk => ?_⟩
  · by_cases e : q = m
    · rw [e, hx, px_u_at]; exact hv
    · rw [px_u_at_ne (by omega)]; exact h2 q (by omega)
  · rw [px_u_at_ne (by omega)]; exact h3 k (by omega)
theorem kA {a i : Int32} (ha : 0 ≤ a ∧ a ≤ 855) (hi : 0 ≤ i ∧ i ≤ 9) : (a + i).toNatClampNeg = a.toNatClampNeg + i.toNatClampNeg := by
  have a1 := Int32.le_iff_toInt_le.mp ha.1
  have a2 := Int32.le_iff_toInt_le.mp ha.2
  have i1 := Int32.le_iff_toInt_le.mp hi.1
  have i2 := Int32.le_iff_toInt_le.mp hi.2
  rw [show (0 : Int32).toInt = 0 by decide] at a1 i1
  rw [show (855 : Int32).toInt = 855 by decide] at a2
  rw [show (9 : Int32).toInt = 9 by decide] at i2
  have e : (a + i).toInt = a.toInt + i.toInt := by rw [Int32.toInt_add]; exact Int.bmod_eq_of_le (by omega) (by omega)
  have x1 := xnat ha.1
  have x2 := xnat hi.1
  have x3 := xnat (x := a + i) (Int32.le_iff_toInt_le.mpr (by rw [e, show (0 : Int32).toInt = 0 by decide]; omega))
  omega
/-- what the class has of the ways that were told -/
def cHas (I : px_I) (R : px_R) (Z : Nat → zL) : Prop := tOk (cTl I) ∧ (∀ j, j < 6 → ∀ x, R 89 j = some x → cOx I x (Z j)) ∧ (∀ j, j < 6 → ∀ x, R 89 j = some x → ∀ h, h < 16 → ¬ I 90 (16 * j + h) = 0 → ∀ q, q < 9 → I 91 (9 * (16 * j + h) + q) = aRes (cTl I) (Z j) (Int32.ofNat h) q)
def cTd (R : px_R) (s : Int32) : Prop := (0 ≤ s ∧ (0 ≤ s / 16 ∧ s / 16 < 6)) ∧ R 89 (s / 16).toNatClampNeg ≠ none
/-- a start in two -/
theorem s16 {s : Int32} (h0 : 0 ≤ s) (h1 : s / 16 < 6) : s.toNatClampNeg = 16 * (s / 16).toNatClampNeg + (s - s / 16 * 16).toNatClampNeg ∧ (s / 16).toNatClampNeg < 6 ∧ (s - s / 16 * 16).toNatClampNeg < 16 ∧ Int32.ofNat (s - s / 16 * 16).toNatClampNeg = s - s / 16 * 16 ∧ (s * 9).toNatClampNeg = 9 * s.toNatClampNeg ∧ (0 ≤ s * 9 ∧ s * 9 ≤ 855) := by
  have e := px_dvI (x := s) (k := 16) (by decide) h0
  rw [show (16 : Int32).toInt = 16 by decide] at e
  have s0 := Int32.le_iff_toInt_le.mp h0
  rw [show (0 : Int32).toInt = 0 by decide] at s0
  have s1 := Int32.lt_iff_toInt_lt.mp h1
  rw [e.1, show (6 : Int32).toInt = 6 by decide] at s1
  have x0 := xnat h0
  have d0 : 0 ≤ s / 16 := Int32.le_iff_toInt_le.mpr (by rw [e.1, show (0 : Int32).toInt = 0 by decide]; omega)
  have r0 : 0 ≤ s - s / 16 * 16 := Int32.le_iff_toInt_le.mpr (by rw [e.2, show (0 : Int32).toInt = 0 by decide]; omega)
  have x1 := xnat d0
  have x2 := xnat r0
  rw [e.1] at x1
  rw [e.2] at x2
  have m9 : (s * 9).toInt = s.toInt * 9 := by rw [Int32.toInt_mul, show (9 : Int32).toInt = 9 by decide]; exact Int.bmod_eq_of_le (by omega) (by omega)
  have m0 : 0 ≤ s * 9 := Int32.le_iff_toInt_le.mpr (by rw [m9, show (0 : Int32).toInt = 0 by decide]; omega)
  have x9 := xnat m0
  rw [m9] at x9
  refine ⟨by omega, by omega, by omega, ?_, by omega, m0, Int32.le_iff_toInt_le.mpr (by rw [m9, show (855 : Int32).toInt = 855 by decide]; omega)⟩
  rw [← Int32.toInt_inj, Int32.toInt_ofNat_of_lt (by omega), e.2]
  omega
theorem cOx.eq {I I2 : px_I} {w : Nat} {zs : zL} (h : cOx I w zs) (h0 : I2 w = I w) (h1 : I2 (w + 1) = I (w + 1)) (h2 : I2 (w + 2) = I (w + 2)) : cOx I2 w zs := by
  unfold cOx at *
  rw [h0, h1, h2]
  exact h
theorem cHas.made {n : Nat} {I I1 I2 : px_I} {L1 : px_L} {R : px_R} {Z : Nat → zL} {s v : Int32} (hT : cTold n I R) (h : cHas I R Z) (h0 : 0 ≤ s) (hs : s / 16 < 6) (h1 : cWI I I1) (h2 : cEnd (cTl I) (Z (s / 16).toNatClampNeg) (s - s / 16 * 16) I1 L1) (h3 : cKp (s * 9) I1 (cAns I1 L1) 9 I2) : cHas (px_u I2 90 s.toNatClampNeg v) R Z := by
  obtain ⟨a1, a2, a3⟩ := h
  obtain ⟨k1, k2, k3⟩ := h3
  obtain ⟨e1, e2, e3, e4, e5, -⟩ := s16 h0 hs
  have fr : ∀ b j, b ≠ 87 → b ≠ 88 → b ≠ 90 → b ≠ 91 → ¬ (b = 86 ∧ (j = 2 ∨ j = 15 ∨ j = 16 ∨ j = 17)) → px_u I2 90 s.toNatClampNeg v b j = I b j := fun b j b1 b2 b3 b4 b5 => by
    rw [px_u_ne b3, k1 b b4]; exact h1 b j b1 b2 b5
  have eT : ∀ k, k < 5 → cTl (px_u I2 90 s.toNatClampNeg v) k = cTl I k := fun k hk => fr 86 (3 + k) (by decide) (by decide) (by decide) (by decide) (by omega)
  refine ⟨fun k hk => by rw [eT k hk]; exact a1 k hk, fun j hj x hx => ?_, fun j hj x hx h hh hk q hq => ?_⟩
  · obtain ⟨t1, -, -⟩ := hT j hj x hx
    have g : ∀ b, (77 ≤ b ∧ b ≤ 79) ∨ 147 ≤ b → px_u I2 90 s.toNatClampNeg v b = I b := fun b hb => funext fun j => fr b j (by omega) (by omega) (by omega) (by omega) (by omega)
    exact (a2 j hj x hx).eq (g x (by omega)) (g (x + 1) (by omega)) (g (x + 2) (by omega))
  · rw [aRes_t eT, px_u_ne (by decide)]
    by_cases e : 16 * j + h = s.toNatClampNeg
    · have ej : j = (s / 16).toNatClampNeg := by omega
      have eh : Int32.ofNat h = s - s / 16 * 16 := by rw [← e4]; congr 1; omega
      rw [ej, eh, ← h2.ans, ← ej, show 9 * (16 * j + h) = (s * 9).toNatClampNeg by omega]
      exact k2 q hq
    · rw [px_u_at_ne e, k1 90 (by decide), h1 90 _ (by decide) (by decide) (by omega)] at hk
      rw [k3 _ (by omega), h1 91 _ (by decide) (by decide) (by omega)]
      exact a3 j hj x hx h hh hk q hq
def aRn (R : px_R) (T : Nat → Int32) (Z : Nat → zL) (w h a : Int32) : Int32 := if ((0 ≤ w ∧ w < 6) ∧ (0 ≤ h ∧ h ≤ 15) ∧ (0 ≤ a ∧ a ≤ 8)) ∧ R 89 w.toNatClampNeg ≠ none then aRes T (Z w.toNatClampNeg) h a.toNatClampNeg else -2000000000
/-- a start out of two -/
theorem w16 {w h a : Int32} (hw : 0 ≤ w ∧ w < 6) (hh : 0 ≤ h ∧ h ≤ 15) (ha : 0 ≤ a ∧ a ≤ 8) : (0 ≤ 16 * w + h ∧ (16 * w + h) / 16 = w ∧ 16 * w + h - (16 * w + h) / 16 * 16 = h) ∧ (0 ≤ (16 * w + h) * 9 + a ∧ (16 * w + h) * 9 + a ≤ 863) ∧ ((16 * w + h) * 9 + a).toNatClampNeg = 9 * (16 * w.toNatClampNeg + h.toNatClampNeg) + a.toNatClampNeg ∧ (16 * w + h).toNatClampNeg = 16 * w.toNatClampNeg + h.toNatClampNeg := by
  have w0 := Int32.le_iff_toInt_le.mp hw.1
  have w1 := Int32.lt_iff_toInt_lt.mp hw.2
  have h0 := Int32.le_iff_toInt_le.mp hh.1
  have h1 := Int32.le_iff_toInt_le.mp hh.2
  have a0 := Int32.le_iff_toInt_le.mp ha.1
  have a1 := Int32.le_iff_toInt_le.mp ha.2
  rw [show (0 : Int32).toInt = 0 by decide] at w0 h0 a0
  rw [show (6 : Int32).toInt = 6 by decide] at w1
  rw [show (15 : Int32).toInt = 15 by decide] at h1
  rw [show (8 : Int32).toInt = 8 by decide] at a1
  have m1 : (16 * w).toInt = 16 * w.toInt := by rw [Int32.toInt_mul, show (16 : Int32).toInt = 16 by decide]; exact Int.bmod_eq_of_le (by omega) (by omega)
  have m2 : (16 * w + h).toInt = 16 * w.toInt + h.toInt := by rw [Int32.toInt_add, m1]; exact Int.bmod_eq_of_le (by omega) (by omega)
  have m3 : ((16 * w + h) * 9).toInt = (16 * w.toInt + h.toInt) * 9 := by rw [Int32.toInt_mul, m2, show (9 : Int32).toInt = 9 by decide]; exact Int.bmod_eq_of_le (by omega) (by omega)
  have m4 : ((16 * w + h) * 9 + a).toInt = (16 * w.toInt + h.toInt) * 9 + a.toInt := by rw [Int32.toInt_add, m3]; exact Int.bmod_eq_of_le (by omega) (by omega)
  have p0 : 0 ≤ 16 * w + h := Int32.le_iff_toInt_le.mpr (by rw [m2, show (0 : Int32).toInt = 0 by decide]; omega)
  have p1 : 0 ≤ (16 * w + h) * 9 + a := Int32.le_iff_toInt_le.mpr (by rw [m4, show (0 : Int32).toInt = 0 by decide]; omega)
  have e := px_dvI (x := 16 * w + h) (k := 16) (by decide) p0
  rw [show (16 : Int32).toInt = 16 by decide, m2] at e
  have x1 := xnat hw.1
  have x2 := xnat hh.1
  have x3 := xnat ha.1
  have x4 := xnat p0
  have x5 := xnat p1
  rw [m2] at x4
  rw [m4] at x5
  refine ⟨⟨p0, ?_, ?_⟩, ⟨p1, Int32.le_iff_toInt_le.mpr (by rw [m4, show (863 : Int32).toInt = 863 by decide]; omega)⟩, by omega, by omega⟩
  · rw [← Int32.toInt_inj, e.1]; omega
  · rw [← Int32.toInt_inj, e.2]; omega
theorem run_in {I I2 : px_I} {R : px_R} {Z : Nat → zL} {w h a : Int32} (hw : 0 ≤ w ∧ w < 6) (hh : 0 ≤ h ∧ h ≤ 15) (ha : 0 ≤ a ∧ a ≤ 8) (h2 : cHas I2 R Z) (hm : cMI I I2) (hd : cTd R (16 * w + h)) (hk : ¬ I2 90 (16 * w + h).toNatClampNeg = 0) : (if 0 ≤ (16 * w + h) * 9 + a ∧ (16 * w + h) * 9 + a ≤ 863 then I2 91 ((16 * w + h) * 9 + a).toNatClampNeg else -2000000000) = aRn R (cTl I) Z w h a := by
  obtain ⟨⟨p1, p2, p3⟩, p4, p5, p6⟩ := w16 hw hh ha
  have t := hd.2
  rw [p2] at t
  obtain ⟨x, hx⟩ := Option.ne_none_iff_exists'.mp t
  have wn := px_n6 hw
  have x1 := xnat hh.1
  have x2 := Int32.le_iff_toInt_le.mp hh.2
  rw [show (15 : Int32).toInt = 15 by decide] at x2
  have x3 := xnat ha.1
  have x4 := Int32.le_iff_toInt_le.mp ha.2
  rw [show (8 : Int32).toInt = 8 by decide] at x4
  rw [p6] at hk
  have z := h2.2.2 w.toNatClampNeg wn x hx h.toNatClampNeg (by omega) hk a.toNatClampNeg (by omega)
  rw [(px_tnS hh.1 (by grind)).2] at z
  unfold aRn
  rw [if_pos p4, if_pos ⟨⟨hw, hh, ha⟩, t⟩, p5, z]
  exact aRes_t (fun k hk => hm 86 (3 + k) (by decide) (by decide) (by decide) (by decide) (by omega)) _ _ _
theorem run_out {R : px_R} {T : Nat → Int32} {Z : Nat → zL} {w h a : Int32} (hw : 0 ≤ w ∧ w < 6) (hh : 0 ≤ h ∧ h ≤ 15) (ha : 0 ≤ a ∧ a ≤ 8) (hd : ¬ cTd R (16 * w + h)) : (-2000000000 : Int32) = aRn R T Z w h a := by
  obtain ⟨⟨p1, p2, p3⟩, -⟩ := w16 hw hh ha
  unfold aRn
  rw [if_neg (fun z => hd ⟨⟨p1, by rw [p2]; exact hw⟩, by rw [p2]; exact z.2⟩)]
theorem run_no {R : px_R} {T : Nat → Int32} {Z : Nat → zL} {w h a : Int32} (hd : ¬ ((0 ≤ w ∧ w < 6) ∧ (0 ≤ h ∧ h ≤ 15) ∧ (0 ≤ a ∧ a ≤ 8))) : (-2000000000 : Int32) = aRn R T Z w h a := by
  unfold aRn
  rw [if_neg (fun z => hd z.1)]
/-- what the reference has of the ways that were told -/
def mHas (I : px_I) (Z : Nat → zL) : Prop := ∀ w : Int32, 0 ≤ w → w ≤ 5 → I 129 w.toNatClampNeg = 1 → mOx I w (Z w.toNatClampNeg)
def kRn (I : px_I) (Z : Nat → zL) (w h a : Int32) : Int32 := if ((0 ≤ w ∧ w ≤ 5) ∧ I 129 w.toNatClampNeg = 1) ∧ (0 ≤ h ∧ h ≤ 15) ∧ (0 ≤ a ∧ a ≤ 8) then aRes (tR I) (Z w.toNatClampNeg) h a.toNatClampNeg else -2000000000
theorem cKp_M {a : Int32} {I I2 : px_I} {f : Nat → Int32} {m : Nat} (h : cKp a I f m I2) : cMI I I2 := fun b j _ _ _ h6 _ => by rw [h.1 b h6]
theorem kRn_no {I : px_I} {Z : Nat → zL} {w h a : Int32} (hd : ¬ (((0 ≤ w ∧ w ≤ 5) ∧ I 129 w.toNatClampNeg = 1) ∧ (0 ≤ h ∧ h ≤ 15) ∧ (0 ≤ a ∧ a ≤ 8))) : (-2000000000 : Int32) = kRn I Z w h a := by
  unfold kRn
  rw [if_neg hd]
theorem kRn_0 {I : px_I} {L2 : px_L} {Z : Nat → zL} {w h a r : Int32} (hw : (0 ≤ w ∧ w ≤ 5) ∧ I 129 w.toNatClampNeg = 1) (hh : 0 ≤ h ∧ h ≤ 15) (ha : 0 ≤ a ∧ a ≤ 8) (ho : rOut (tR I) (Z w.toNatClampNeg) h r L2) (hr : r = 0) : (-2000000000 : Int32) = kRn I Z w h a := by
  unfold kRn
  rw [if_pos ⟨hw, hh, ha⟩]
  rcases ho.ans with ⟨-, b⟩ | ⟨b, -⟩
  · exact (b _).symm
  · rw [b] at hr; exact absurd hr (by decide)
theorem kRn_1 {I : px_I} {L2 : px_L} {Z : Nat → zL} {w h a r : Int32} (hw : (0 ≤ w ∧ w ≤ 5) ∧ I 129 w.toNatClampNeg = 1) (hh : 0 ≤ h ∧ h ≤ 15) (ha : 0 ≤ a ∧ a ≤ 8) (ho : rOut (tR I) (Z w.toNatClampNeg) h r L2) (hr : ¬ r = 0) : (L2 132 a.toNatClampNeg).toInt32 = kRn I Z w h a := by
  unfold kRn
  rw [if_pos ⟨hw, hh, ha⟩]
  have x3 := xnat ha.1
  have x4 := Int32.le_iff_toInt_le.mp ha.2
  rw [show (8 : Int32).toInt = 8 by decide] at x4
  rcases ho.ans with ⟨b, -⟩ | ⟨-, b⟩
  · exact absurd b hr
  · exact b _ (by omega)
theorem kept_up {a s v : Int32} {I I1 I2 : px_I} {f : Nat → Int32} {m : Nat} (h1 : cWI I I1) (h2 : cKp a I1 f m I2) (hv : ¬ v = 0) : ∀ k, ¬ I 90 k = 0 → ¬ px_u I2 90 s.toNatClampNeg v 90 k = 0 := fun k hk => by
  by_cases e : k = s.toNatClampNeg
  · rw [e, px_u_at]; exact hv
  · rw [px_u_at_ne e, h2.1 90 (by decide), h1 90 k (by decide) (by decide) (by omega)]; exact hk
