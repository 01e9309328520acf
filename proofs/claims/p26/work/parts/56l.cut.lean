/-! the class's tokens -/
def byC (I : px_I) (i : Nat) : Int32 := if i < (I 70 5).toNatClampNeg then nb (I 71 i) else 0
def nC (I : px_I) : Nat := (I 70 5).toNatClampNeg
def tC (B : Nat → Int32) (n p : Nat) : Int32 := if n ≤ tS B n p then 0 else if bL (B (tS B n p)) = true then 1 else if bD (B (tS B n p)) = true then 2 else if B (tS B n p) = 59 then 3 else if B (tS B n p) = 123 then 4 else if B (tS B n p) = 125 then 5 else 6
def pl (I : px_I) (k : Nat) : Nat := (I 73 k).toNatClampNeg
def sz (I : px_I) (k : Nat) : Nat := (I 74 k).toNatClampNeg
def tpos (I : px_I) : Nat → Nat
  | 0 => 0
  | k + 1 => pl I k + sz I k
def OKt (B : Nat → Int32) (n : Nat) (I : px_I) (k : Nat) : Prop := (0 ≤ I 73 k ∧ 0 ≤ I 74 k) ∧ pl I k = tS B n (tpos I k) ∧ pl I k < n ∧ I 72 k = tC B n (tpos I k) ∧ pl I k + sz I k = tE B n (tpos I k) ∧ (I 72 k = 2 → I 75 k = nv B n (pl I k) 0)
def LKt (B : Nat → Int32) (n : Nat) (I : px_I) (k i : Nat) : Prop := (0 ≤ I 73 k ∧ 0 ≤ I 74 k) ∧ pl I k = tS B n (tpos I k) ∧ pl I k < n ∧ I 72 k = tC B n (tpos I k) ∧ 1 ≤ sz I k ∧ pl I k + sz I k ≤ i ∧ (I 72 k = 1 → rn bL B n (pl I k + sz I k) = rn bL B n (pl I k)) ∧ (I 72 k = 2 → rn bD B n (pl I k + sz I k) = rn bD B n (pl I k) ∧ nv B n (pl I k + sz I k) (I 75 k) = nv B n (pl I k) 0) ∧ (I 72 k ≠ 1 → I 72 k ≠ 2 → sz I k = 1) ∧ (∀ j, pl I k + sz I k ≤ j → j < i → bB (B j) = true)
def CIt (B : Nat → Int32) (n : Nat) (I : px_I) (i : Nat) : Prop := (∀ k, k + 1 < (I 70 6).toNatClampNeg → OKt B n I k) ∧ ((I 70 6).toNatClampNeg = 0 → ∀ j, j < i → bB (B j) = true) ∧ (∀ k, k + 1 = (I 70 6).toNatClampNeg → LKt B n I k i)
theorem bL_B {x : Int32} (h : bB x = true) : ¬ bL x = true ∧ ¬ bD x = true := by
  unfold bB at h
  rw [decide_eq_true_iff] at h
  rcases h with rfl | rfl <;> decide
theorem bD_L {x : Int32} (h : bD x = true) : ¬ bL x = true := by
  unfold bD bL at *
  rw [decide_eq_true_iff] at *
  grind
theorem tC_L {B : Nat → Int32} {n p : Nat} (h : tS B n p < n) : (tC B n p = 1 ↔ bL (B (tS B n p)) = true) ∧ (tC B n p = 2 ↔ bD (B (tS B n p)) = true) := by
  unfold tC
  rw [if_neg (by omega)]
  by_cases c : bL (B (tS B n p)) = true
  · rw [if_pos c]
    exact ⟨⟨fun _ => c, fun _ => rfl⟩, ⟨fun q => absurd q (by decide), fun q => absurd c (bD_L q)⟩⟩
  · rw [if_neg c]
    by_cases d : bD (B (tS B n p)) = true
    · rw [if_pos d]
      exact ⟨⟨fun q => absurd q (by decide), fun q => absurd q c⟩, ⟨fun _ => d, fun _ => rfl⟩⟩
    · rw [if_neg d]
      refine ⟨⟨fun q => absurd q ?_, fun q => absurd q c⟩, ⟨fun q => absurd q ?_, fun q => absurd q d⟩⟩
      · split
        · decide
        · split
          · decide
          · split <;> decide
      · split
        · decide
        · split
          · decide
          · split <;> decide
theorem LKt.ok {B : Nat → Int32} {n k i : Nat} {I : px_I} (h : LKt B n I k i) (h1 : I 72 k = 1 → pl I k + sz I k = n ∨ ¬ bL (B (pl I k + sz I k)) = true) (h2 : I 72 k = 2 → pl I k + sz I k = n ∨ ¬ bD (B (pl I k + sz I k)) = true) : OKt B n I k := by
  obtain ⟨a0, a1, a2, a3, a4, a5, a6, a7, a8, a9⟩ := h
  have tl := tC_L (B := B) (n := n) (p := tpos I k) (by rw [← a1]; exact a2)
  rw [← a3, ← a1] at tl
  have stp : ∀ c : Int32 → Bool, (pl I k + sz I k = n ∨ ¬ c (B (pl I k + sz I k)) = true) → rn c B n (pl I k + sz I k) = pl I k + sz I k := fun c q => q.elim (fun q => rn_end (by omega)) (fun q => rn_no q)
  refine ⟨a0, a1, a2, a3, ?_, fun q => ?_⟩
  · unfold tE
    rw [← a1, if_neg (by omega)]
    by_cases c : bL (B (pl I k)) = true
    · have c1 := tl.1.mpr c
      rw [if_pos c, ← a6 c1, stp bL (h1 c1)]
    · rw [if_neg c]
      by_cases d : bD (B (pl I k)) = true
      · have d1 := tl.2.mpr d
        rw [if_pos d, ← (a7 d1).1, stp bD (h2 d1)]
      · rw [if_neg d, a8 (fun q => c (tl.1.mp q)) (fun q => d (tl.2.mp q))]
  · have z := (a7 q).2
    rw [← z]
    rcases h2 q with e | e
    · exact (nv_end (by omega)).symm
    · exact (nv_no e).symm
theorem tpos_cg {I J : px_I} : ∀ k, (∀ j, j < k → J 73 j = I 73 j ∧ J 74 j = I 74 j) → tpos J k = tpos I k
  | 0, _ => rfl
  | k + 1, h => by
    have a := h k (by omega)
    show (J 73 k).toNatClampNeg + (J 74 k).toNatClampNeg = (I 73 k).toNatClampNeg + (I 74 k).toNatClampNeg
    rw [a.1, a.2]
theorem OKt.cg {B : Nat → Int32} {n k : Nat} {I J : px_I} (h : OKt B n I k) (hJ : ∀ j, j ≤ k → J 72 j = I 72 j ∧ J 73 j = I 73 j ∧ J 74 j = I 74 j ∧ J 75 j = I 75 j) : OKt B n J k := by
  have p := tpos_cg (I := I) (J := J) k (fun j hj => ⟨(hJ j (by omega)).2.1, (hJ j (by omega)).2.2.1⟩)
  obtain ⟨e2, e3, e4, e5⟩ := hJ k (Nat.le_refl _)
  unfold OKt pl sz at *
  rw [p, e2, e3, e4, e5]
  exact h
theorem CIt.blank {B : Nat → Int32} {n i : Nat} {I : px_I} (h : CIt B n I i) (hb : bB (B i) = true) : CIt B n I (i + 1) := by
  obtain ⟨h1, h2, h3⟩ := h
  refine ⟨h1, fun z j hj => ?_, fun k hk => ?_⟩
  · by_cases e : j = i
    · rw [e]; exact hb
    · exact h2 z j (by omega)
  · obtain ⟨a0, a1, a2, a3, a4, a5, a6, a7, a8, a9⟩ := h3 k hk
    refine ⟨a0, a1, a2, a3, a4, by omega, a6, a7, a8, fun j j1 j2 => ?_⟩
    by_cases e : j = i
    · rw [e]; exact hb
    · exact a9 j j1 (by omega)
/-- where the next one would start -/
theorem CIt.start {B : Nat → Int32} {n i : Nat} {I : px_I} (h : CIt B n I i) (hi : i ≤ n) (hb : i = n ∨ ¬ bB (B i) = true) : tS B n (tpos I (I 70 6).toNatClampNeg) = i := by
  obtain ⟨h1, h2, h3⟩ := h
  unfold tS
  cases ht : (I 70 6).toNatClampNeg with
  | zero =>
    exact rn_is _ 0 rfl (by omega) hi (fun j _ hj => h2 ht j hj) hb
  | succ k =>
    obtain ⟨a0, a1, a2, a3, a4, a5, a6, a7, a8, a9⟩ := h3 k ht.symm
    exact rn_is _ (pl I k + sz I k) rfl a5 hi (fun j j1 j2 => a9 j j1 j2) hb
theorem CIt.all {B : Nat → Int32} {n i : Nat} {I : px_I} {w : Int32} {ii : Int32} (h : CIt B n I i) (hi : i ≤ n) (hn : n ≤ 400) (ht : (I 70 6).toNatClampNeg ≤ i) (ht0 : 0 ≤ I 70 6) (hii : ii.toNatClampNeg = i) (hi0 : 0 ≤ ii) (hw1 : i < n → (bL (B i) = true ↔ w = 1)) (hw2 : i < n → (bD (B i) = true ↔ w = 2)) (hg : i < n → ¬ cGo I w ii) : ∀ k, k < (I 70 6).toNatClampNeg → OKt B n I k := by
  intro k hk
  by_cases e : k + 1 = (I 70 6).toNatClampNeg
  · have l := h.2.2 k e
    obtain ⟨a0, a1, a2, a3, a4, a5, a6, a7, a8, a9⟩ := id l
    have x6 := xnat ht0
    have k6 : (I 70 6 - 1).toInt = (I 70 6).toInt - 1 := by rw [Int32.toInt_sub, show (1 : Int32).toInt = 1 by decide, Int.bmod_eq_of_le (by omega) (by omega)]
    have kN : (I 70 6 - 1).toNatClampNeg = k := by show (I 70 6 - 1).toInt.toNat = k; omega
    have r6 : 0 ≤ I 70 6 - 1 ∧ I 70 6 - 1 ≤ 400 := by
      rw [Int32.le_iff_toInt_le, Int32.le_iff_toInt_le, k6, show (0 : Int32).toInt = 0 by decide, show (400 : Int32).toInt = 400 by decide]; omega
    have x3 := xnat a0.1
    have x4 := xnat a0.2
    have sum : pl I k + sz I k = i → I 73 k + I 74 k = ii := fun q => by
      apply Int32.toInt_inj.mp
      have xi := xnat hi0
      unfold pl sz at q
      rw [Int32.toInt_add, Int.bmod_eq_of_le (by omega) (by omega)]; omega
    have no : ∀ c, (c = 1 ∨ c = 2) → I 72 k = c → pl I k + sz I k = i → i < n → w ≠ c := fun c hc h7 hq hin hwc => hg hin ⟨by rw [hwc]; exact hc, r6, by rw [kN, h7, hwc], by rw [kN]; exact sum hq⟩
    refine l.ok (fun q => ?_) (fun q => ?_)
    · by_cases c : pl I k + sz I k = n
      · exact Or.inl c
      · refine Or.inr (fun z => ?_)
        by_cases d : pl I k + sz I k = i
        · rw [d] at z
          exact no 1 (Or.inl rfl) q d (by omega) ((hw1 (by omega)).mp z)
        · exact (bL_B (a9 _ (Nat.le_refl _) (by omega))).1 z
    · by_cases c : pl I k + sz I k = n
      · exact Or.inl c
      · refine Or.inr (fun z => ?_)
        by_cases d : pl I k + sz I k = i
        · rw [d] at z
          exact no 2 (Or.inr rfl) q d (by omega) ((hw2 (by omega)).mp z)
        · exact (bL_B (a9 _ (Nat.le_refl _) (by omega))).2 z
  · exact h.1 k (by omega)
theorem CIt.new {B : Nat → Int32} {n i t : Nat} {I J : px_I} {w ii x : Int32} (h : CIt B n I i) (hi : i < n) (hn : n ≤ 400) (ht : (I 70 6).toNatClampNeg = t) (hti : t ≤ i) (ht0 : 0 ≤ I 70 6) (hii : ii.toNatClampNeg = i) (hi0 : 0 ≤ ii) (hw1 : bL (B i) = true ↔ w = 1) (hw2 : bD (B i) = true ↔ w = 2) (hw3 : B i = 59 ↔ w = 3) (hw4 : B i = 123 ↔ w = 4) (hw5 : B i = 125 ↔ w = 5) (hwb : ¬ bB (B i) = true) (hw : w = 1 ∨ w = 2 ∨ w = 3 ∨ w = 4 ∨ w = 5 ∨ w = 6) (hg : ¬ cGo I w ii) (hx : w = 2 → B i = x)
    (j6 : (J 70 6).toNatClampNeg = t + 1) (jo : ∀ k, k ≠ t → J 72 k = I 72 k ∧ J 73 k = I 73 k ∧ J 74 k = I 74 k ∧ J 75 k = I 75 k) (j2 : J 72 t = w) (j3 : J 73 t = ii) (j4 : J 74 t = 1) (j5 : w = 2 → J 75 t = nS 0 x) : CIt B n J (i + 1) := by
  have H := h.all (Nat.le_of_lt hi) hn (by omega) ht0 hii hi0 (fun _ => hw1) (fun _ => hw2) (fun _ => hg)
  have S := h.start (Nat.le_of_lt hi) (Or.inr hwb)
  rw [ht] at H S
  have pJ : tpos J t = tpos I t := tpos_cg t (fun j hj => ⟨(jo j (by omega)).2.1, (jo j (by omega)).2.2.1⟩)
  have p3 : pl J t = i := by unfold pl; rw [j3]; exact hii
  have p4 : sz J t = 1 := by unfold sz; rw [j4]; decide
  have tc : tC B n (tpos J t) = w := by
    unfold tC
    rw [pJ, S, if_neg (by omega)]
    rcases hw with e | e | e | e | e | e
    · rw [if_pos (hw1.mpr e), e]
    · rw [if_neg (fun q => by have := hw1.mp q; rw [e] at this; exact absurd this (by decide)), if_pos (hw2.mpr e), e]
    · rw [if_neg (fun q => by have := hw1.mp q; rw [e] at this; exact absurd this (by decide)), if_neg (fun q => by have := hw2.mp q; rw [e] at this; exact absurd this (by decide)), if_pos (hw3.mpr e), e]
    · rw [if_neg (fun q => by have := hw1.mp q; rw [e] at this; exact absurd this (by decide)), if_neg (fun q => by have := hw2.mp q; rw [e] at this; exact absurd this (by decide)), if_neg (fun q => by have := hw3.mp q; rw [e] at this; exact absurd this (by decide)), if_pos (hw4.mpr e), e]
    · rw [if_neg (fun q => by have := hw1.mp q; rw [e] at this; exact absurd this (by decide)), if_neg (fun q => by have := hw2.mp q; rw [e] at this; exact absurd this (by decide)), if_neg (fun q => by have := hw3.mp q; rw [e] at this; exact absurd this (by decide)), if_neg (fun q => by have := hw4.mp q; rw [e] at this; exact absurd this (by decide)), if_pos (hw5.mpr e), e]
    · rw [if_neg (fun q => by have := hw1.mp q; rw [e] at this; exact absurd this (by decide)), if_neg (fun q => by have := hw2.mp q; rw [e] at this; exact absurd this (by decide)), if_neg (fun q => by have := hw3.mp q; rw [e] at this; exact absurd this (by decide)), if_neg (fun q => by have := hw4.mp q; rw [e] at this; exact absurd this (by decide)), if_neg (fun q => by have := hw5.mp q; rw [e] at this; exact absurd this (by decide)), e]
  refine ⟨fun k hk => (H k (by omega)).cg (fun j hj => jo j (by omega)), fun z => by omega, fun k hk => ?_⟩
  have e : k = t := by omega
  subst e
  refine ⟨⟨by rw [j3]; exact hi0, by rw [j4]; decide⟩, by rw [p3, pJ, S], by omega, by rw [j2, tc], by omega, by omega, fun q => ?_, fun q => ?_, fun _ _ => p4, fun j a b => by omega⟩
  · rw [j2] at q
    rw [p3, p4]
    exact (rn_in hi (hw1.mpr q)).symm
  · rw [j2] at q
    rw [p3, p4]
    refine ⟨(rn_in hi (hw2.mpr q)).symm, ?_⟩
    rw [nv_in hi (hw2.mpr q), hx q, j5 q]
theorem CIt.go {B : Nat → Int32} {n i k : Nat} {I J : px_I} {w x : Int32} (h : CIt B n I i) (hi : i < n) (ht : (I 70 6).toNatClampNeg = k + 1) (hk : I 72 k = w) (hp : pl I k + sz I k = i) (hw : w = 1 ∨ w = 2) (h1 : w = 1 → bL (B i) = true) (h2 : w = 2 → bD (B i) = true ∧ B i = x)
    (j6 : J 70 6 = I 70 6) (jo : ∀ j, j ≠ k → J 72 j = I 72 j ∧ J 73 j = I 73 j ∧ J 74 j = I 74 j ∧ J 75 j = I 75 j) (j2 : J 72 k = I 72 k) (j3 : J 73 k = I 73 k) (j4 : 0 ≤ J 74 k ∧ sz J k = sz I k + 1) (j5 : w = 2 → J 75 k = nS (I 75 k) x) : CIt B n J (i + 1) := by
  have pJ : tpos J k = tpos I k := tpos_cg k (fun j hj => ⟨(jo j (by omega)).2.1, (jo j (by omega)).2.2.1⟩)
  obtain ⟨a0, a1, a2, a3, a4, a5, a6, a7, a8, a9⟩ := h.2.2 k ht.symm
  have p3 : pl J k = pl I k := by unfold pl; rw [j3]
  have se : pl I k + (sz I k + 1) = i + 1 := by omega
  refine ⟨fun q hq => (h.1 q (by rw [← j6]; exact hq)).cg (fun j hj => jo j (by rw [j6, ht] at hq; omega)), fun z => by rw [j6, ht] at z; omega, fun q hq => ?_⟩
  have e : q = k := by rw [j6, ht] at hq; omega
  subst e
  refine ⟨⟨by rw [j3]; exact a0.1, j4.1⟩, by rw [p3, pJ]; exact a1, by rw [p3]; exact a2, by rw [j2, pJ]; exact a3, by omega, by rw [p3, j4.2]; omega, fun z => ?_, fun z => ?_, fun z1 z2 => ?_, fun j b c => by rw [p3, j4.2] at b; omega⟩
  · rw [j2] at z
    rw [p3, j4.2, se, ← a6 z, hp]
    exact (rn_in hi (h1 (by rw [← hk]; exact z))).symm
  · rw [j2] at z
    have hb := h2 (by rw [← hk]; exact z)
    rw [p3, j4.2, se, ← (a7 z).1, ← (a7 z).2, hp]
    refine ⟨(rn_in hi hb.1).symm, ?_⟩
    rw [nv_in hi hb.1, hb.2, j5 (by rw [← hk]; exact z)]
  · rw [j2, hk] at z1 z2
    exact (hw.elim z1 z2).elim
/-- all tokens stand, the end of the text as the last -/
def cTA (B : Nat → Int32) (n : Nat) (J : px_I) : Prop := ∃ N, (J 70 6).toNatClampNeg = N + 1 ∧ (∀ k, k < N → OKt B n J k) ∧ tS B n (tpos J N) = n ∧ J 72 N = 0 ∧ pl J N = n ∧ 0 ≤ J 73 N
theorem CIt.fin {B : Nat → Int32} {n t : Nat} {I J : px_I} {ii : Int32} (h : CIt B n I n) (hn : n ≤ 400) (ht : (I 70 6).toNatClampNeg = t) (hti : t ≤ n) (ht0 : 0 ≤ I 70 6) (hii : ii.toNatClampNeg = n) (hi0 : 0 ≤ ii)
    (j6 : (J 70 6).toNatClampNeg = t + 1) (jo : ∀ k, k ≠ t → J 72 k = I 72 k ∧ J 73 k = I 73 k ∧ J 74 k = I 74 k ∧ J 75 k = I 75 k) (j2 : J 72 t = 0) (j3 : J 73 t = ii) : cTA B n J := by
  have H := h.all (w := 0) (Nat.le_refl _) hn (by omega) ht0 hii hi0 (fun q => absurd q (Nat.lt_irrefl _)) (fun q => absurd q (Nat.lt_irrefl _)) (fun q => absurd q (Nat.lt_irrefl _))
  have S := h.start (Nat.le_refl _) (Or.inl rfl)
  rw [ht] at H S
  have pJ : tpos J t = tpos I t := tpos_cg t (fun j hj => ⟨(jo j (by omega)).2.1, (jo j (by omega)).2.2.1⟩)
  exact ⟨t, j6, fun k hk => (H k hk).cg (fun j hj => jo j (by omega)), by rw [pJ]; exact S, j2, by unfold pl; rw [j3]; exact hii, by rw [j3]; exact hi0⟩
theorem cNew {I J : px_I} {w ii x : Int32} (h0 : 0 ≤ I 70 6 ∧ I 70 6 ≤ 400) (hJ : J = cLen (cTok I w ii) x) : J 70 6 = I 70 6 + 1 ∧ (∀ k, k ≠ (I 70 6).toNatClampNeg → J 72 k = I 72 k ∧ J 73 k = I 73 k ∧ J 74 k = I 74 k ∧ J 75 k = I 75 k) ∧ J 72 (I 70 6).toNatClampNeg = w ∧ J 73 (I 70 6).toNatClampNeg = ii ∧ J 74 (I 70 6).toNatClampNeg = 1 ∧ (w = 2 → J 75 (I 70 6).toNatClampNeg = nS 0 x) := by
  have e : cTok I w ii 70 6 - 1 = I 70 6 := by rw [cTok_6]; grind
  have hJ2 : J = if w = 2 then px_u (px_u (cTok I w ii) 74 (I 70 6).toNatClampNeg (cTok I w ii 74 (I 70 6).toNatClampNeg + 1)) 75 (I 70 6).toNatClampNeg (cMn 1000000 (10 * cTok I w ii 75 (I 70 6).toNatClampNeg + x - 48)) else px_u (cTok I w ii) 74 (I 70 6).toNatClampNeg (cTok I w ii 74 (I 70 6).toNatClampNeg + 1) := by
    rw [hJ]
    unfold cLen
    rw [e, if_pos h0, cTok_k]
  by_cases c : w = 2
  · rw [if_pos c] at hJ2
    subst hJ2
    refine ⟨?_, fun k hk => ⟨?_, ?_, ?_, ?_⟩, ?_, ?_, ?_, fun _ => ?_⟩ <;> simp [px_ur, cTok, nS, *]
  · rw [if_neg c] at hJ2
    subst hJ2
    refine ⟨?_, fun k hk => ⟨?_, ?_, ?_, ?_⟩, ?_, ?_, ?_, fun q => absurd q c⟩ <;> simp [px_ur, cTok, *]
theorem cGon {I J : px_I} {x : Int32} (h0 : 0 ≤ I 70 6 - 1 ∧ I 70 6 - 1 ≤ 400) (hJ : J = cLen I x) : J 70 6 = I 70 6 ∧ (∀ k, k ≠ (I 70 6 - 1).toNatClampNeg → J 72 k = I 72 k ∧ J 73 k = I 73 k ∧ J 74 k = I 74 k ∧ J 75 k = I 75 k) ∧ J 72 (I 70 6 - 1).toNatClampNeg = I 72 (I 70 6 - 1).toNatClampNeg ∧ J 73 (I 70 6 - 1).toNatClampNeg = I 73 (I 70 6 - 1).toNatClampNeg ∧ J 74 (I 70 6 - 1).toNatClampNeg = I 74 (I 70 6 - 1).toNatClampNeg + 1 ∧ (I 72 (I 70 6 - 1).toNatClampNeg = 2 → J 75 (I 70 6 - 1).toNatClampNeg = nS (I 75 (I 70 6 - 1).toNatClampNeg) x) := by
  unfold cLen at hJ
  rw [if_pos h0] at hJ
  by_cases c : I 72 (I 70 6 - 1).toNatClampNeg = 2
  · rw [if_pos c] at hJ
    subst hJ
    refine ⟨?_, fun k hk => ⟨?_, ?_, ?_, ?_⟩, ?_, ?_, ?_, fun _ => ?_⟩ <;> simp [px_ur, nS, *]
  · rw [if_neg c] at hJ
    subst hJ
    refine ⟨?_, fun k hk => ⟨?_, ?_, ?_, ?_⟩, ?_, ?_, ?_, fun q => absurd q c⟩ <;> simp [px_ur, *]
theorem cTokEnd {I J : px_I} {w ii : Int32} (hJ : J = cTok I w ii) : J 70 6 = I 70 6 + 1 ∧ (∀ k, k ≠ (I 70 6).toNatClampNeg → J 72 k = I 72 k ∧ J 73 k = I 73 k ∧ J 74 k = I 74 k ∧ J 75 k = I 75 k) ∧ J 72 (I 70 6).toNatClampNeg = w ∧ J 73 (I 70 6).toNatClampNeg = ii := by
  subst hJ
  refine ⟨?_, fun k hk => ⟨?_, ?_, ?_, ?_⟩, ?_, ?_⟩ <;> simp [px_ur, cTok, *]
/-- a byte's kind, by what it is -/
theorem cKind_b {x w : Int32} (h : cKind x w) : (bL (nb x) = true ↔ w = 1) ∧ (bD (nb x) = true ↔ w = 2) ∧ (nb x = 59 ↔ w = 3) ∧ (nb x = 123 ↔ w = 4) ∧ (nb x = 125 ↔ w = 5) ∧ (bB (nb x) = true ↔ w = 7) ∧ (w = 1 ∨ w = 2 ∨ w = 3 ∨ w = 4 ∨ w = 5 ∨ w = 6 ∨ w = 7) ∧ (w = 2 → nb x = x) := by
  unfold cKind cLet at h
  obtain ⟨k1, k2, k3, k4, k5, k6, k7, k8, k9, k10, k11, k12, k13⟩ := h
  rw [nb_L, nb_D, nb_B, nb_e (by decide), nb_e (by decide), nb_e (by decide)]
  refine ⟨⟨k1, k8⟩, ⟨k2, k9⟩, ⟨k4, k11⟩, ⟨k5, k12⟩, ⟨k6, k13⟩, ⟨fun q => k3 q.symm, fun q => (k10 q).symm⟩, k7, fun q => nb_in ?_⟩
  have := k9 q
  constructor <;> grind

set_option maxRecDepth 100000 in
theorem ls_cut {n : Nat} {R : px_R} (hg : px_G n R) {Q : px_Q} {I0 : px_I} {L : px_L} (hl : 0 ≤ I0 70 5 ∧ I0 70 5 ≤ 400) (hq : ∀ I2, cTF I0 I2 → (0 ≤ I2 70 6 ∧ I2 70 6 ≤ 401) → cNu I2 → cTA (byC I0) (nC I0) I2 → Q none n I2 L R) : ∀ i : Int32, i ≤ I0 70 5 → 0 ≤ i → ∀ (k : Int32) (I : px_I), cTF I0 I → cNu I → (0 ≤ I 70 6 ∧ I 70 6 ≤ i) → CIt (byC I0) (nC I0) I i.toNatClampNeg → px M_X8_cut 0 0 7 [(0, .ref 70), (1, .int i)] [] n I L R Q := by
  refine px_up _ (fun i ih hi => ?_)
  intro h0 k I hF hN ht hC
  have hl5 : I 70 5 = I0 70 5 := hF 70 5 (by decide) (by decide)
  have i400 : i ≤ 400 := Int32.le_trans hi hl.2
  have nn : nC I0 ≤ 400 := by have := xle hl.1 hl.2; rw [show (400 : Int32).toNatClampNeg = 400 by decide] at this; exact this
  have ti : (I 70 6).toNatClampNeg ≤ i.toNatClampNeg := xle ht.1 ht.2
  have an : (i + 1).toNatClampNeg = i.toNatClampNeg + 1 := (px_tnS h0 (by grind)).1
  have f71 : I 71 = I0 71 := funext fun j => hF 71 j (by decide) (fun q => absurd q.1 (by decide))
  refine px_ige rfl q_X8_cut_7 hg rfl trivial (fun c12 => ?_) (fun c12 => ?_)
  · refine px_cVW (ci := 8) rfl q_X8_cut_60 hg rfl trivial lk_8_43 nm_X8_addToken (c_addToken hg _ _ (by grind)) rfl rfl (px_lit hg rfl) rfl rfl rfl ⟨rfl, rfl⟩ ?_
    intro I66 L66 h66
    obtain ⟨rfl, h66⟩ := h66
    refine px_rv rfl q_X8_cut_69 rfl rfl rfl hg rfl trivial ?_
    have e9 : i = I0 70 5 := by grind
    have en : i.toNatClampNeg = nC I0 := by rw [e9]; rfl
    rw [en] at hC ti
    obtain ⟨j6, jo, j2, j3⟩ := cTokEnd h66
    have e5 : (I 70 5).toNatClampNeg = nC I0 := by rw [hl5]; rfl
    have J6 : (I66 70 6).toNatClampNeg = (I 70 6).toNatClampNeg + 1 := by rw [j6]; exact (px_tnS ht.1 (by grind)).1
    exact hq _ (hF.trans (by rw [h66]; exact cTok_F _ _ _)) (by rw [h66, cTok_6]; exact ⟨by grind, by grind⟩) (by rw [h66]; exact cTok_N hN) (hC.fin nn rfl ti ht.1 e5 (by rw [hl5]; exact hl.1) J6 jo j2 j3)
  · refine px_cVP (ci := 8) rfl q_X8_cut_15 hg rfl trivial lk_8_32 nm_X8_byteAt (c_byteAt hg _) rfl rfl (px_lit hg rfl) rfl rfl rfl ⟨rfl, rfl⟩ ?_
    intro x17 h17
    refine px_cSP rfl q_X8_cut_20 hg rfl trivial lk_8_36 nm_X8_kindOf (c_kindOf hg _) rfl rfl rfl ⟨rfl, rfl⟩ ?_
    intro x20 h20
    refine px_ieq rfl q_X8_cut_23 hg rfl trivial (fun c27 => ?_) (fun c27 => ?_)
    · refine px_b rfl q_X8_cut_54 hg rfl trivial ?_
      have lt : i.toNatClampNeg < nC I0 := by unfold nC; rw [← hl5]; exact xlt h0 (by grind)
      have e17 : x17 = I0 71 i.toNatClampNeg := by rw [h17, if_pos ⟨h0, by grind⟩, f71]
      have eB : byC I0 i.toNatClampNeg = nb x17 := by rw [e17]; exact if_pos lt
      have kb := cKind_b h20
      rw [← eB] at kb
      exact px_go (ih (i + 1) (by grind) (by grind) (by grind) 0 I hF hN ⟨ht.1, by grind⟩ (by rw [an]; exact hC.blank (kb.2.2.2.2.2.1.mpr (by first | exact c27 | exact Classical.not_not.mp c27)))) ⟨rfl, rfl, trivial⟩
    · refine px_cVP (ci := 8) rfl q_X8_cut_30 hg rfl trivial lk_8_39 nm_X8_goesOn (c_goesOn hg _ _) rfl rfl (px_lit hg rfl) rfl rfl rfl ⟨rfl, rfl⟩ ?_
      intro x33 h33
      refine px_ne rfl q_X8_cut_36 hg rfl trivial (fun c36 => ?_) (fun c36 => ?_)
      · replace h33 := px_bt h33 c36
        refine px_cVP (ci := 8) rfl q_X8_cut_45 hg rfl trivial lk_8_32 nm_X8_byteAt (c_byteAt hg _) rfl rfl (px_lit hg rfl) rfl rfl rfl ⟨rfl, rfl⟩ ?_
        intro x48 h48
        refine px_cVW (ci := 8) rfl q_X8_cut_51 hg rfl trivial lk_8_47 nm_X8_lengthen (c_lengthen hg _) rfl rfl (px_lit hg rfl) rfl rfl rfl ⟨rfl, rfl⟩ ?_
        intro I51 L51 h51
        obtain ⟨rfl, h51⟩ := h51
        refine px_b rfl q_X8_cut_54 hg rfl trivial ?_
        have lt : i.toNatClampNeg < nC I0 := by unfold nC; rw [← hl5]; exact xlt h0 (by grind)
        have e17 : x17 = I0 71 i.toNatClampNeg := by rw [h17, if_pos ⟨h0, by grind⟩, f71]
        have eB : byC I0 i.toNatClampNeg = nb x17 := by rw [e17]; exact if_pos lt
        have kb := cKind_b h20
        rw [← eB] at kb
        have e48 : x48 = x17 := by rw [h48, e17, if_pos ⟨h0, by grind⟩, f71]
        obtain ⟨g1, g2, g3, g4⟩ := id h33
        have hJ : I51 = cLen I x17 := by rw [h51, e48]
        obtain ⟨j6, jo, j2, j3, j4, j5⟩ := cGon g2 hJ
        have x6 := xnat ht.1
        have kN : (I 70 6 - 1).toNatClampNeg + 1 = (I 70 6).toNatClampNeg := by
          have q := (px_tnS g2.1 (by grind)).1
          rw [show I 70 6 - 1 + 1 = I 70 6 by grind] at q
          exact q.symm
        have lk := hC.2.2 _ kN
        have s4 : sz I51 (I 70 6 - 1).toNatClampNeg = sz I (I 70 6 - 1).toNatClampNeg + 1 ∧ 0 ≤ I51 74 (I 70 6 - 1).toNatClampNeg := by
          have a0 := lk.1.2
          have a5 := lk.2.2.2.2.2.1
          have b := xnat a0
          have lt4 : I 74 (I 70 6 - 1).toNatClampNeg ≤ 400 := by
            rw [Int32.le_iff_toInt_le, show (400 : Int32).toInt = 400 by decide]
            unfold pl sz at a5
            omega
          rw [j4]
          refine ⟨?_, by grind⟩
          unfold sz
          rw [j4]
          exact (px_tnS a0 (by grind)).1
        have pp : pl I (I 70 6 - 1).toNatClampNeg + sz I (I 70 6 - 1).toNatClampNeg = i.toNatClampNeg := by
          have b1 := xnat lk.1.1
          have b2 := xnat lk.1.2
          have a5 := lk.2.2.2.2.2.1
          have b3 := xnat h0
          have b4 := Int32.le_iff_toInt_le.mp i400
          rw [show (400 : Int32).toInt = 400 by decide] at b4
          have q := congrArg Int32.toInt g4
          unfold pl sz at *
          rw [Int32.toInt_add, Int.bmod_eq_of_le (by omega) (by omega)] at q
          omega
        have nC9 : CIt (byC I0) (nC I0) I51 (i.toNatClampNeg + 1) := hC.go lt kN.symm g3 pp g1 (fun q => kb.1.mpr q) (fun q => ⟨kb.2.1.mpr q, kb.2.2.2.2.2.2.2 q⟩) j6 jo j2 j3 ⟨s4.2, s4.1⟩ (fun q => j5 (by rw [g3]; exact q))
        exact px_go (ih (i + 1) (by grind) (by grind) (by grind) 0 I51 (hF.trans (by rw [h51]; exact cLen_F _ _)) (by rw [h51]; exact cLen_N hN (fun hz => by rw [e48]; unfold cKind at h20; grind)) (by rw [h51, cLen_6]; exact ⟨ht.1, by grind⟩) (by rw [an]; exact nC9)) ⟨rfl, rfl, trivial⟩
      · replace h33 := px_bf h33 c36
        refine px_cVW (ci := 8) rfl q_X8_cut_39 hg rfl trivial lk_8_43 nm_X8_addToken (c_addToken hg _ _ (by grind)) rfl rfl (px_lit hg rfl) rfl rfl rfl ⟨rfl, rfl⟩ ?_
        intro I42 L42 h42
        obtain ⟨rfl, h42⟩ := h42
        refine px_cVP (ci := 8) rfl q_X8_cut_45 hg rfl trivial lk_8_32 nm_X8_byteAt (c_byteAt hg _) rfl rfl (px_lit hg rfl) rfl rfl rfl ⟨rfl, rfl⟩ ?_
        intro x48 h48
        refine px_cVW (ci := 8) rfl q_X8_cut_51 hg rfl trivial lk_8_47 nm_X8_lengthen (c_lengthen hg _) rfl rfl (px_lit hg rfl) rfl rfl rfl ⟨rfl, rfl⟩ ?_
        intro I51 L51 h51
        obtain ⟨rfl, h51⟩ := h51
        refine px_b rfl q_X8_cut_54 hg rfl trivial ?_
        have lt : i.toNatClampNeg < nC I0 := by unfold nC; rw [← hl5]; exact xlt h0 (by grind)
        have e17 : x17 = I0 71 i.toNatClampNeg := by rw [h17, if_pos ⟨h0, by grind⟩, f71]
        have eB : byC I0 i.toNatClampNeg = nb x17 := by rw [e17]; exact if_pos lt
        have kb := cKind_b h20
        rw [← eB] at kb
        have e48 : x48 = x17 := by rw [h48, e17, if_pos ⟨h0, by grind⟩, h42, cTok_F I x20 i 71 _ (by decide) (fun z => absurd z.1 (by decide)), f71]
        have h6 : 0 ≤ I 70 6 ∧ I 70 6 ≤ 400 := ⟨ht.1, Int32.le_trans ht.2 i400⟩
        have hJ : I51 = cLen (cTok I x20 i) x17 := by rw [h51, h42, e48]
        obtain ⟨j6, jo, j2, j3, j4, j5⟩ := cNew h6 hJ
        have x6 := xnat ht.1
        have J6 : (I51 70 6).toNatClampNeg = (I 70 6).toNatClampNeg + 1 := by rw [j6]; exact (px_tnS ht.1 (by grind)).1
        have nC9 : CIt (byC I0) (nC I0) I51 (i.toNatClampNeg + 1) := hC.new lt nn rfl ti ht.1 rfl h0 kb.1 kb.2.1 kb.2.2.1 kb.2.2.2.1 kb.2.2.2.2.1 (fun q => c27 (kb.2.2.2.2.2.1.mp q)) (by have := kb.2.2.2.2.2.2.1; grind) h33 kb.2.2.2.2.2.2.2 J6 jo j2 j3 j4 j5
        exact px_go (ih (i + 1) (by grind) (by grind) (by grind) 0 I51 (cTF.trans (I1 := I42) (hF.trans (by rw [h42]; exact cTok_F _ _ _)) (by rw [h51]; exact cLen_F _ _)) (by rw [h51]; exact cLen_N (by rw [h42]; exact cTok_N hN) (fun hz => by rw [h42, cTok_6, show I 70 6 + 1 - 1 = I 70 6 by grind, cTok_k] at hz; rw [e48]; unfold cKind at h20; grind)) (by rw [h51, cLen_6, h42, cTok_6]; exact ⟨by grind, by grind⟩) (by rw [an]; exact nC9)) ⟨rfl, rfl, trivial⟩

set_option maxRecDepth 100000 in
theorem cs_cut {n : Nat} {I : px_I} {L : px_L} {R : px_R} (hg : px_G n R) (hl : 0 ≤ I 70 5 ∧ I 70 5 ≤ 400) (hN : cNu I) : px_KV M_X8_cut [.ref 70] n I L R (fun I2 L2 => L2 = L ∧ cTF I I2 ∧ (0 ≤ I2 70 6 ∧ I2 70 6 ≤ 401) ∧ cNu I2 ∧ cTA (byC I) (nC I) I2) := by
  refine px_of (plainFor_of_name np_RX8) (fun _ _ _ => trivial) rfl ?_
  refine px_b rfl q_X8_cut_0 hg rfl trivial ?_
  have b9 : byC (px_u I 70 6 0) = byC I ∧ nC (px_u I 70 6 0) = nC I := by
    unfold byC nC
    simp [px_ur]
  exact px_go (ls_cut hg (I0 := I) hl (fun I2 h1 h2 h3 h4 => ⟨rfl, rfl, rfl, rfl, h1, h2, h3, h4⟩) 0 hl.1 (by decide) 0 _ (cTF.u6 (fun _ _ _ _ => rfl) _) (fun k => by rw [px_u_ne (by decide)]; exact hN k) (by rw [px_u_at]; decide) ⟨fun k hk => absurd hk (by rw [px_u_at, xz0]; omega), fun _ j hj => absurd hj (by rw [xz0]; exact Nat.not_lt_zero _), fun k hk => absurd hk (by rw [px_u_at, xz0]; omega)⟩) ⟨rfl, rfl, trivial⟩
