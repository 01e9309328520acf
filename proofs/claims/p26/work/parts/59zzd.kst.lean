/-! the steps that are read, and the stretches of the class's orders that come to them -/
def cQx (X : Int32 → Prop) (k v : Int32 → Int32) (s c q : Nat) (i j : Int32) (zs : zL) : Prop := ∀ P : Nat → Nat → Nat → Int32 → Int32 → List (Int32 × Int32) → Prop,
  (∀ s i, P s 0 0 i i []) →
  (∀ s c q i j xs, P s c q i j xs → X j → (0 ≤ k j ∧ k j ≤ 5) → P s (c + 1) q i (j + 1) (xs ++ [(k j + 1, v j)])) →
  (∀ s c q i j xs, P s c q i j xs → X j → k j = 10 → P s (c + 1) (q + 1) i (v j) xs) →
  (∀ s c q i j t c2 e xs ys, P s c q i j xs → X j → k j = 8 → t < s → P t c2 0 (v j) e ys → ys ≠ [] → X e → k e = 9 → P s (c + c2 + 2) q i (j + 1) (xs ++ ys)) →
  (∀ s c q i j t c2 e xs ys, P s c q i j xs → X j → k j = 6 → t < s → P t c2 0 (j + 1) e ys → ys ≠ [] → X e → k e = 7 → (2 ≤ v j ∧ v j ≤ 99) → P s (c + 1 + (v j).toNatClampNeg * (c2 + 1)) q i (e + 1) (xs ++ rp (v j).toNatClampNeg ys)) → P s c q i j zs
theorem cQx.R {k v : Int32 → Int32} {N : Int32} {s c q : Nat} {i j : Int32} {zs : zL} (h : cQx (fun j => 0 ≤ j ∧ j < N) k v s c q i j zs) : cRx k v N s c q i j zs := h
theorem cQx.nil {X : Int32 → Prop} {k v : Int32 → Int32} {s : Nat} {i : Int32} : cQx X k v s 0 0 i i [] := fun P p0 _ _ _ _ => p0 s i
theorem cQx.step {X : Int32 → Prop} {k v : Int32 → Int32} {s c q : Nat} {i j : Int32} {xs : zL} (h : cQx X k v s c q i j xs) (hX : X j) (hk : 0 ≤ k j ∧ k j ≤ 5) : cQx X k v s (c + 1) q i (j + 1) (xs ++ [(k j + 1, v j)]) := fun P p0 p1 p2 p3 p4 => p1 s c q i j xs (h P p0 p1 p2 p3 p4) hX hk
theorem cQx.skip {X : Int32 → Prop} {k v : Int32 → Int32} {s c q : Nat} {i j : Int32} {xs : zL} (h : cQx X k v s c q i j xs) (hX : X j) (hk : k j = 10) : cQx X k v s (c + 1) (q + 1) i (v j) xs := fun P p0 p1 p2 p3 p4 => p2 s c q i j xs (h P p0 p1 p2 p3 p4) hX hk
theorem cQx.call {X : Int32 → Prop} {k v : Int32 → Int32} {s c q t c2 : Nat} {i j e : Int32} {xs ys : zL} (h : cQx X k v s c q i j xs) (hX : X j) (hk : k j = 8) (ht : t < s) (hb : cQx X k v t c2 0 (v j) e ys) (hy : ys ≠ []) (he : X e) (h9 : k e = 9) : cQx X k v s (c + c2 + 2) q i (j + 1) (xs ++ ys) := fun P p0 p1 p2 p3 p4 => p3 s c q i j t c2 e xs ys (h P p0 p1 p2 p3 p4) hX hk ht (hb P p0 p1 p2 p3 p4) hy he h9
theorem cQx.rep {X : Int32 → Prop} {k v : Int32 → Int32} {s c q t c2 : Nat} {i j e : Int32} {xs ys : zL} (h : cQx X k v s c q i j xs) (hX : X j) (hk : k j = 6) (ht : t < s) (hb : cQx X k v t c2 0 (j + 1) e ys) (hy : ys ≠ []) (he : X e) (h7 : k e = 7) (hv : 2 ≤ v j ∧ v j ≤ 99) : cQx X k v s (c + 1 + (v j).toNatClampNeg * (c2 + 1)) q i (e + 1) (xs ++ rp (v j).toNatClampNeg ys) := fun P p0 p1 p2 p3 p4 => p4 s c q i j t c2 e xs ys (h P p0 p1 p2 p3 p4) hX hk ht (hb P p0 p1 p2 p3 p4) hy he h7 hv
theorem cQx.cg {X X2 : Int32 → Prop} {k v k2 v2 : Int32 → Int32} {s c q : Nat} {i j : Int32} {zs : zL} (hc : ∀ j, X j → X2 j ∧ k2 j = k j ∧ v2 j = v j) (h : cQx X k v s c q i j zs) : cQx X2 k2 v2 s c q i j zs := by
  refine h (fun s c q i j zs => cQx X2 k2 v2 s c q i j zs) (fun s i => cQx.nil) (fun s c q i j xs hP hj hk => ?_) (fun s c q i j xs hP hj hk => ?_) (fun s c q i j t c2 e xs ys hP hj hk ht hB hy he h9 => ?_) (fun s c q i j t c2 e xs ys hP hj hk ht hB hy he h9 hv => ?_)
  · obtain ⟨c1, c2, c3⟩ := hc j hj
    have z := hP.step c1 (by rw [c2]; exact hk)
    rw [c2, c3] at z
    exact z
  · obtain ⟨c1, c2, c3⟩ := hc j hj
    have z := hP.skip c1 (by rw [c2]; exact hk)
    rw [c3] at z
    exact z
  · obtain ⟨c1, c2, c3⟩ := hc j hj
    obtain ⟨d1, d2, d3⟩ := hc e he
    exact hP.call c1 (by rw [c2]; exact hk) ht (by rw [c3]; exact hB) hy d1 (by rw [d2]; exact h9)
  · obtain ⟨c1, c2, c3⟩ := hc j hj
    obtain ⟨d1, d2, d3⟩ := hc e he
    have z := hP.rep c1 (by rw [c2]; exact hk) ht hB hy d1 (by rw [d2]; exact h9) (by rw [c3]; exact hv)
    rw [c3] at z
    exact z
theorem cQx.up {X : Int32 → Prop} {k v : Int32 → Int32} {s c q : Nat} {i j : Int32} {zs : zL} (h : cQx X k v s c q i j zs) : ∀ {s2 : Nat}, s ≤ s2 → cQx X k v s2 c q i j zs := by
  refine h (fun s c q i j zs => ∀ {s2 : Nat}, s ≤ s2 → cQx X k v s2 c q i j zs) (fun s i s2 hs => cQx.nil) (fun s c q i j xs hP hj hk s2 hs => (hP hs).step hj hk) (fun s c q i j xs hP hj hk s2 hs => (hP hs).skip hj hk) (fun s c q i j t c2 e xs ys hP hj hk ht hB hy he h9 s2 hs => (hP hs).call hj hk (Nat.lt_of_lt_of_le ht hs) (hB (Nat.le_refl t)) hy he h9) (fun s c q i j t c2 e xs ys hP hj hk ht hB hy he h9 hv s2 hs => (hP hs).rep hj hk (Nat.lt_of_lt_of_le ht hs) (hB (Nat.le_refl t)) hy he h9 hv)
theorem cQx.app {X : Int32 → Prop} {k v : Int32 → Int32} {s c q c2 q2 : Nat} {i j e : Int32} {xs ys : zL} (h : cQx X k v s c q i j xs) (h2 : cQx X k v s c2 q2 j e ys) : cQx X k v s (c + c2) (q + q2) i e (xs ++ ys) := by
  intro P p0 p1 p2 p3 p4
  have hx := h P p0 p1 p2 p3 p4
  have g : P s c2 q2 j e ys ∧ (∀ c q i xs, P s c q i j xs → P s (c + c2) (q + q2) i e (xs ++ ys)) := by
    refine h2 (fun s c2 q2 j e ys => P s c2 q2 j e ys ∧ ∀ c q i xs, P s c q i j xs → P s (c + c2) (q + q2) i e (xs ++ ys)) ?_ ?_ ?_ ?_ ?_
    · intro s i; exact ⟨p0 s i, fun c q i xs hP => by rw [List.append_nil]; exact hP⟩
    · intro s c q i j xs hP hj hk
      exact ⟨p1 s c q i j xs hP.1 hj hk, fun c1 q1 i1 xs1 h1 => by rw [← List.append_assoc]; exact p1 _ _ _ _ _ _ (hP.2 c1 q1 i1 xs1 h1) hj hk⟩
    · intro s c q i j xs hP hj hk
      exact ⟨p2 s c q i j xs hP.1 hj hk, fun c1 q1 i1 xs1 h1 => p2 _ _ _ _ _ _ (hP.2 c1 q1 i1 xs1 h1) hj hk⟩
    · intro s c q i j t c3 e xs ys hP hj hk ht hY hy he h9
      refine ⟨p3 s c q i j t c3 e xs ys hP.1 hj hk ht hY.1 hy he h9, fun c1 q1 i1 xs1 h1 => ?_⟩
      have z := p3 _ _ _ _ _ _ _ _ _ _ (hP.2 c1 q1 i1 xs1 h1) hj hk ht hY.1 hy he h9
      rw [List.append_assoc] at z
      rw [show c1 + (c + c3 + 2) = c1 + c + c3 + 2 by omega]
      exact z
    · intro s c q i j t c3 e xs ys hP hj hk ht hY hy he h9 hv
      refine ⟨p4 s c q i j t c3 e xs ys hP.1 hj hk ht hY.1 hy he h9 hv, fun c1 q1 i1 xs1 h1 => ?_⟩
      have z := p4 _ _ _ _ _ _ _ _ _ _ (hP.2 c1 q1 i1 xs1 h1) hj hk ht hY.1 hy he h9 hv
      rw [List.append_assoc] at z
      rw [show c1 + (c + 1 + (v j).toNatClampNeg * (c3 + 1)) = c1 + c + 1 + (v j).toNatClampNeg * (c3 + 1) by omega]
      exact z
  exact g.2 c q i xs hx
/-! how many steps -/
def cL (zs : zL) : Int32 := Int32.ofNat (min zs.length 5001)
theorem cL_i (zs : zL) : (cL zs).toInt = (min zs.length 5001 : Nat) := Int32.toInt_ofNat_of_lt (by omega)
theorem cL_b (zs : zL) : 0 ≤ cL zs ∧ cL zs ≤ 5001 := by
  rw [Int32.le_iff_toInt_le, Int32.le_iff_toInt_le, cL_i, show (0 : Int32).toInt = 0 by decide, show (5001 : Int32).toInt = 5001 by decide]
  omega
theorem cL_0 {zs : zL} : cL zs = 0 ↔ zs = [] := by
  rw [← Int32.toInt_inj, cL_i, show (0 : Int32).toInt = 0 by decide]
  constructor
  · intro h
    exact List.eq_nil_of_length_eq_zero (by omega)
  · intro h
    rw [h]; rfl
theorem cMn_n {a b : Int32} : (cMn a b).toInt = if b.toInt < a.toInt then b.toInt else a.toInt := by
  unfold cMn
  by_cases h : b < a
  · rw [if_pos h, if_pos (Int32.lt_iff_toInt_lt.mp h)]
  · rw [if_neg h, if_neg (fun q => h (Int32.lt_iff_toInt_lt.mpr q))]
theorem cL_add {xs ys : zL} {m : Int32} {k : Nat} (hm : m.toInt = (k : Int)) (hk : k ≤ 500000) (hl : min (min xs.length 5001 + k) 5001 = min (xs.length + ys.length) 5001) : cMn (cL xs + m) 5001 = cL (xs ++ ys) := by
  have e : (cL xs + m).toInt = ((min xs.length 5001 + k : Nat) : Int) := by
    rw [Int32.toInt_add, cL_i, hm, Int.bmod_eq_of_le (by omega) (by omega)]
    omega
  rw [← Int32.toInt_inj, cMn_n, e, cL_i, List.length_append, show (5001 : Int32).toInt = 5001 by decide]
  split <;> omega
theorem cL_one {xs : zL} {x : Int32 × Int32} : cMn (cL xs + 1) 5001 = cL (xs ++ [x]) := cL_add (k := 1) (by decide) (by omega) (by
  show min (min xs.length 5001 + 1) 5001 = min (xs.length + 1) 5001
  omega)
theorem cL_app {xs ys : zL} : cMn (cL xs + cL ys) 5001 = cL (xs ++ ys) := cL_add (k := min ys.length 5001) (cL_i ys) (by omega) (by omega)
theorem cL_rp {xs ys : zL} {t : Int32} (ht : 1 ≤ t ∧ t ≤ 99) : cMn (cL xs + t * cL ys) 5001 = cL (xs ++ rp t.toNatClampNeg ys) := by
  have t0 := xnat (show 0 ≤ t by have := ht.1; grind)
  have t1 := Int32.le_iff_toInt_le.mp ht.1
  have t2 := Int32.le_iff_toInt_le.mp ht.2
  rw [show (1 : Int32).toInt = 1 by decide] at t1
  rw [show (99 : Int32).toInt = 99 by decide] at t2
  have b : t.toNatClampNeg * min ys.length 5001 ≤ 99 * 5001 := Nat.mul_le_mul (by omega) (by omega)
  refine cL_add (k := t.toNatClampNeg * min ys.length 5001) ?_ (by omega) ?_
  · rw [Int32.toInt_mul, cL_i, ← t0, ← Int.natCast_mul]
    exact Int.bmod_eq_of_le (by omega) (by omega)
  · rw [rp_len]
    by_cases c : ys.length ≤ 5001
    · rw [Nat.min_eq_left c]
      omega
    · rw [Nat.min_eq_right (by omega : 5001 ≤ ys.length)]
      have a1 : 1 * 5001 ≤ t.toNatClampNeg * 5001 := Nat.mul_le_mul_right _ (by omega)
      have a2 : 1 * ys.length ≤ t.toNatClampNeg * ys.length := Nat.mul_le_mul_right _ (by omega)
      omega
/-! what has been read so far -/
def kX (lt s1 N : Int32) : Int32 → Prop := fun j => (0 ≤ j ∧ j < N) ∧ ¬ (¬ lt = -1 ∧ j = s1)
def kE (bS : Int32 → Int32) (op sz q : Int32) : Int32 := if q = op then sz else bS (q + 1)
def kB (lt : Int32) (bS bT : Int32 → Int32) (q : Int32) : Int32 := if q = 0 then 0 else if (q = 1 ∧ ¬ lt = -1) ∨ 1 < bT q then bS q + 1 else bS q
def kSt (k v bS bT sS yS yT : Int32 → Int32) (op lt sz : Int32) (N : Nat) (g b : Int32 → zL) (t : Int32 → Int32) : Prop :=
  (0 ≤ op ∧ op ≤ 8) ∧ (0 ≤ sz ∧ sz ≤ 200) ∧ ((-1 ≤ lt ∧ lt ≤ 7) ∧ (op = 0 → lt = -1) ∧ (¬ lt = -1 → yT lt = -1 ∧ k (bS 1) = 10)) ∧ (N : Int) = (mNd yT).toInt ∧
  (∀ q, 1 ≤ q → q ≤ op → (0 ≤ bS q ∧ bS q ≤ 200) ∧ (¬ (q = 1 ∧ ¬ lt = -1) → bT q = t q ∧ (1 ≤ t q ∧ t q ≤ 99) ∧ (1 < t q → k (bS q) = 6 ∧ v (bS q) = t q))) ∧
  (∀ q, 0 ≤ q → q ≤ op → kB lt bS bT q ≤ kE bS op sz q ∧ kE bS op sz q ≤ sz ∧ ∀ p, 0 ≤ p → p ≤ q → kE bS op sz p ≤ kE bS op sz q) ∧
  (∀ q, 0 ≤ q → q ≤ op → sS q = cL (g q) ∧ ∃ c qq : Nat, (¬ q = 0 → qq = 0) ∧ qq ≤ N ∧ cQx (kX lt (bS 1) (kE bS op sz q)) k v (9 - q.toNatClampNeg + 8 * N) c qq (kB lt bS bT q) (kE bS op sz q) (g q)) ∧
  (∀ l, 0 ≤ l → l ≤ 7 → ¬ yT l = -1 → yT l = cL (b l) ∧ (b l ≠ [] → ∃ c e, kX lt (bS 1) (kE bS op sz 0) e ∧ k e = 9 ∧ cQx (kX lt (bS 1) (kE bS op sz 0)) k v (8 * N) c 0 (yS l) e (b l)))
theorem kX.up {lt s1 N M j : Int32} (h : kX lt s1 N j) (hm : N ≤ M) : kX lt s1 M j := ⟨⟨h.1.1, Int32.lt_of_lt_of_le h.1.2 hm⟩, h.2⟩
theorem kE_op {bS : Int32 → Int32} {op sz : Int32} : kE bS op sz op = sz := if_pos rfl
theorem kE_ne {bS : Int32 → Int32} {op sz q : Int32} (h : ¬ q = op) : kE bS op sz q = bS (q + 1) := if_neg h
theorem kup {a b c : Int32} (h0 : 0 ≤ a ∧ a ≤ 200) (h1 : a + 1 ≤ b) (h2 : b ≤ c) : a < c ∧ a < b := by constructor <;> grind
theorem kSt.grow {k v k2 v2 bS bT sS sS2 yS yT : Int32 → Int32} {op lt sz : Int32} {N : Nat} {g g2 b : Int32 → zL} {t : Int32 → Int32} (h : kSt k v bS bT sS yS yT op lt sz N g b t) (hz : sz < 200) (hk : ∀ j, 0 ≤ j → j < sz → k2 j = k j ∧ v2 j = v j) (hg : ∀ q, ¬ q = op → g2 q = g q) (hs : ∀ q, 0 ≤ q → q < op → sS2 q = sS q) (hs2 : sS2 op = cL (g2 op))
    (hr : ∀ s c qq i, 8 * N < s → cQx (kX lt (bS 1) (sz + 1)) k2 v2 s c qq i sz (g op) → ∃ c2, cQx (kX lt (bS 1) (sz + 1)) k2 v2 s c2 qq i (sz + 1) (g2 op)) : kSt k2 v2 bS bT sS2 yS yT op lt (sz + 1) N g2 b t := by
  obtain ⟨h1, h2, ⟨h3, h4, h5⟩, h6, h7, h8, h9, h10⟩ := h
  have up : sz ≤ sz + 1 := by grind
  have hE : ∀ q, kE bS op sz q ≤ kE bS op (sz + 1) q := fun q => by
    by_cases e : q = op
    · rw [e, kE_op, kE_op]; exact up
    · rw [kE_ne e, kE_ne e]; exact Int32.le_refl _
  have hc : ∀ M, M ≤ sz → ∀ M2, M ≤ M2 → ∀ j, kX lt (bS 1) M j → kX lt (bS 1) M2 j ∧ k2 j = k j ∧ v2 j = v j := fun M hM M2 hM2 j hj => ⟨hj.up hM2, hk j hj.1.1 (Int32.lt_of_lt_of_le hj.1.2 hM)⟩
  refine ⟨h1, ⟨by grind, by grind⟩, ⟨h3, h4, fun z => ?_⟩, h6, fun q q1 q2 => ?_, fun q q1 q2 => ?_, fun q q1 q2 => ?_, fun l l1 l2 l3 => ?_⟩
  · have o1 : 1 ≤ op := by
      by_cases e : op = 0
      · exact absurd (h4 e) z
      · grind
    have b0 := (h7 1 (by decide) o1).1
    obtain ⟨b1, b2, -⟩ := h8 1 (by decide) o1
    have e1 : kB lt bS bT 1 = bS 1 + 1 := by unfold kB; rw [if_neg (by decide), if_pos (Or.inl ⟨rfl, z⟩)]
    rw [e1] at b1
    exact ⟨(h5 z).1, by rw [(hk (bS 1) b0.1 (kup b0 b1 b2).1).1]; exact (h5 z).2⟩
  · obtain ⟨a1, a2⟩ := h7 q q1 q2
    refine ⟨a1, fun z => ?_⟩
    obtain ⟨a3, a4, a5⟩ := a2 z
    refine ⟨a3, a4, fun z2 => ?_⟩
    obtain ⟨b1, b2, -⟩ := h8 q (by grind) q2
    have e1 : kB lt bS bT q = bS q + 1 := by unfold kB; rw [if_neg (by grind), if_pos (Or.inr (by rw [a3]; exact z2))]
    rw [e1] at b1
    have x := hk (bS q) a1.1 (kup a1 b1 b2).1
    rw [x.1, x.2]
    exact a5 z2
  · obtain ⟨b1, b2, b3⟩ := h8 q q1 q2
    refine ⟨Int32.le_trans b1 (hE q), ?_, fun p p1 p2 => ?_⟩
    · by_cases e : q = op
      · rw [e, kE_op]; exact Int32.le_refl _
      · rw [kE_ne e]; rw [kE_ne e] at b2; exact Int32.le_trans b2 up
    · by_cases e : q = op
      · subst e
        rw [kE_op]
        have z := (h8 p p1 p2).2.1
        by_cases e2 : p = q
        · rw [e2, kE_op]; exact Int32.le_refl _
        · rw [kE_ne e2] at z ⊢; exact Int32.le_trans z up
      · have z := b3 p p1 p2
        have e2 : ¬ p = op := by grind
        rw [kE_ne e, kE_ne e2] at z ⊢
        exact z
  · obtain ⟨a1, c, qq, a2, a3, a4⟩ := h9 q q1 q2
    have b2 := (h8 q q1 q2).2.1
    by_cases e : q = op
    · subst e
      rw [kE_op] at a4 b2 ⊢
      have a5 := a4.cg (hc sz b2 (sz + 1) up)
      have qn : q.toNatClampNeg ≤ 8 := by
        have x1 := xnat q1
        have x2 := Int32.le_iff_toInt_le.mp h1.2
        rw [show (8 : Int32).toInt = 8 by decide] at x2
        omega
      obtain ⟨c2, a6⟩ := hr _ _ _ _ (by omega) a5
      exact ⟨hs2, c2, qq, a2, a3, a6⟩
    · rw [kE_ne e] at a4 b2 ⊢
      rw [hg q e, hs q q1 (by grind)]
      exact ⟨a1, c, qq, a2, a3, a4.cg (hc _ b2 _ (Int32.le_refl _))⟩
  · obtain ⟨a1, a2⟩ := h10 l l1 l2 l3
    refine ⟨a1, fun z => ?_⟩
    obtain ⟨c, e, a3, a4, a5⟩ := a2 z
    have b2 := (h8 0 (by decide) h1.1).2.1
    have q := hc _ b2 _ (hE 0)
    exact ⟨c, e, (q e a3).1, by rw [(q e a3).2.1]; exact a4, a5.cg q⟩
theorem kX.me {lt s1 sz : Int32} (h0 : 0 ≤ sz) (h2 : sz ≤ 200) (h : ¬ lt = -1 → ¬ sz = s1) : kX lt s1 (sz + 1) sz := ⟨⟨h0, by grind⟩, fun z => h z.1 z.2⟩
/-- behind the open def there is more room -/
theorem kSt.s1 {k v bS bT sS yS yT : Int32 → Int32} {op lt sz : Int32} {N : Nat} {g b : Int32 → zL} {t : Int32 → Int32} (h : kSt k v bS bT sS yS yT op lt sz N g b t) (z : ¬ lt = -1) : 1 ≤ op ∧ 0 ≤ bS 1 ∧ kB lt bS bT 1 = bS 1 + 1 ∧ bS 1 < kE bS op sz 1 ∧ kE bS op sz 1 ≤ sz := by
  obtain ⟨h1, h2, ⟨h3, h4, h5⟩, h6, h7, h8, -⟩ := h
  have o1 : 1 ≤ op := by
    by_cases e : op = 0
    · exact absurd (h4 e) z
    · grind
  have b0 := (h7 1 (by decide) o1).1
  obtain ⟨b1, b2, -⟩ := h8 1 (by decide) o1
  have e1 : kB lt bS bT 1 = bS 1 + 1 := by unfold kB; rw [if_neg (by decide), if_pos (Or.inl ⟨rfl, z⟩)]
  refine ⟨o1, b0.1, e1, ?_, b2⟩
  rw [e1] at b1
  exact (kup b0 b1 b2).2
theorem kSt.me {k v bS bT sS yS yT : Int32 → Int32} {op lt sz : Int32} {N : Nat} {g b : Int32 → zL} {t : Int32 → Int32} (h : kSt k v bS bT sS yS yT op lt sz N g b t) : kX lt (bS 1) (sz + 1) sz := kX.me h.2.1.1 h.2.1.2 (fun z e => by
  have q := h.s1 z
  have q4 := q.2.2.2.1
  have q5 := q.2.2.2.2
  grind)
theorem kSt.stp {k v k2 v2 bS bT sS sS2 yS yT : Int32 → Int32} {op lt sz w x : Int32} {N : Nat} {g b : Int32 → zL} {t : Int32 → Int32} (h : kSt k v bS bT sS yS yT op lt sz N g b t) (hz : sz < 200) (hk : ∀ j, 0 ≤ j → j < sz → k2 j = k j ∧ v2 j = v j) (hw : 0 ≤ w ∧ w ≤ 5) (h1 : k2 sz = w) (h2 : v2 sz = x) (hs : ∀ q, 0 ≤ q → q < op → sS2 q = sS q) (hs2 : sS2 op = cMn (sS op + 1) 5001) : kSt k2 v2 bS bT sS2 yS yT op lt (sz + 1) N (gAd g op [(w + 1, x)]) b t := by
  have hm := h.me
  have e := (h.2.2.2.2.2.2.1 op h.1.1 (Int32.le_refl _)).1
  refine h.grow hz hk (fun q hq => gAd_ne hq) hs (by rw [hs2, e, gAd_at]; exact cL_one) (fun s c qq i _ hq => ⟨c + 1, ?_⟩)
  have z := hq.step hm (by rw [h1]; exact hw)
  rw [h1, h2] at z
  rw [gAd_at]
  exact z
theorem kSt.cal {k v k2 v2 bS bT sS sS2 yS yT : Int32 → Int32} {op lt sz l : Int32} {N : Nat} {g b : Int32 → zL} {t : Int32 → Int32} (h : kSt k v bS bT sS yS yT op lt sz N g b t) (hz : sz < 200) (hk : ∀ j, 0 ≤ j → j < sz → k2 j = k j ∧ v2 j = v j) (hl : 0 ≤ l ∧ l ≤ 7) (hp : 0 < yT l) (h1 : k2 sz = 8) (h2 : v2 sz = yS l) (hs : ∀ q, 0 ≤ q → q < op → sS2 q = sS q) (hs2 : sS2 op = cMn (sS op + yT l) 5001) : kSt k2 v2 bS bT sS2 yS yT op lt (sz + 1) N (gAd g op (b l)) b t := by
  have hm := h.me
  have e := (h.2.2.2.2.2.2.1 op h.1.1 (Int32.le_refl _)).1
  obtain ⟨l1, l2⟩ := h.2.2.2.2.2.2.2 l hl.1 hl.2 (by grind)
  have bn : b l ≠ [] := fun q => by rw [l1, cL_0.mpr q] at hp; exact absurd hp (by decide)
  obtain ⟨c3, e3, l3, l4, l5⟩ := l2 bn
  have b2 := (h.2.2.2.2.2.1 0 (by decide) h.1.1).2.1
  have hc : ∀ j, kX lt (bS 1) (kE bS op sz 0) j → kX lt (bS 1) (sz + 1) j ∧ k2 j = k j ∧ v2 j = v j := fun j hj => ⟨hj.up (by grind), hk j hj.1.1 (Int32.lt_of_lt_of_le hj.1.2 b2)⟩
  refine h.grow hz hk (fun q hq => gAd_ne hq) hs (by rw [hs2, e, l1, gAd_at]; exact cL_app) (fun s c qq i hs9 hq => ⟨c + c3 + 2, ?_⟩)
  rw [gAd_at]
  exact hq.call hm h1 hs9 (by rw [h2]; exact l5.cg hc) bn (hc e3 l3).1 (by rw [(hc e3 l3).2.1]; exact l4)
theorem kN8 {q op : Int32} (h0 : 0 ≤ q) (h1 : q ≤ op) (h8 : op ≤ 8) : q.toNatClampNeg ≤ 8 := by
  have x1 := xnat h0
  have x2 := Int32.le_iff_toInt_le.mp (Int32.le_trans h1 h8)
  rw [show (8 : Int32).toInt = 8 by decide] at x2
  omega
theorem kN1 {op : Int32} (h0 : 1 ≤ op) (h8 : op ≤ 8) : op.toNatClampNeg = (op - 1).toNatClampNeg + 1 := by
  have := (px_tnS (i := op - 1) (by grind) (by grind)).1
  rw [show op - 1 + 1 = op by grind] at this
  exact this
theorem kSt.opn {k v k2 v2 bS bS2 bT bT2 sS sS2 yS yT : Int32 → Int32} {op lt lt2 sz sz2 x : Int32} {N : Nat} {g b : Int32 → zL} {t : Int32 → Int32} (h : kSt k v bS bT sS yS yT op lt sz N g b t) (h8 : op < 8) (hz2 : sz2 ≤ 200) (hk : ∀ j, 0 ≤ j → j < sz → k2 j = k j ∧ v2 j = v j) (hS : ∀ q, 0 ≤ q → ¬ q = op + 1 → bS2 q = bS q ∧ bT2 q = bT q ∧ sS2 q = sS q) (hS2 : bS2 (op + 1) = sz ∧ bT2 (op + 1) = x ∧ sS2 (op + 1) = 0)
    (hc : (lt2 = lt ∧ (1 ≤ x ∧ x ≤ 99) ∧ ((1 < x ∧ sz2 = sz + 1 ∧ k2 sz = 6 ∧ v2 sz = x) ∨ (x = 1 ∧ sz2 = sz))) ∨ (op = 0 ∧ x = 1 ∧ (0 ≤ lt2 ∧ lt2 ≤ 7) ∧ yT lt2 = -1 ∧ sz2 = sz + 1 ∧ k2 sz = 10)) : kSt k2 v2 bS2 bT2 sS2 yS yT (op + 1) lt2 sz2 N (gN g (op + 1)) b (gT t (op + 1) x) := by
  have s1 := h.s1
  obtain ⟨h1, h2, ⟨h3, h4, h5⟩, h6, h7, h9, h10, h11⟩ := h
  have szle : sz ≤ sz2 := by
    rcases hc with ⟨-, -, hc | hc⟩ | hc
    · rw [hc.2.1]; grind
    · rw [hc.2]; exact Int32.le_refl _
    · rw [hc.2.2.2.2.1]; grind
  have eE : ∀ q, 0 ≤ q → q ≤ op → kE bS2 (op + 1) sz2 q = kE bS op sz q := fun q q1 q2 => by
    rw [kE_ne (by grind)]
    by_cases e : q = op
    · rw [e, kE_op]; exact hS2.1
    · rw [kE_ne e]; exact (hS (q + 1) (by grind) (by grind)).1
  have eL : 1 ≤ op → lt2 = lt := fun z => by
    rcases hc with hc | hc
    · exact hc.1
    · rw [hc.1] at z; exact absurd z (by decide)
  have eB : ∀ q, 0 ≤ q → q ≤ op → kB lt2 bS2 bT2 q = kB lt bS bT q := fun q q1 q2 => by
    by_cases e : q = 0
    · unfold kB; rw [if_pos e, if_pos e]
    · have x := hS q q1 (by grind)
      unfold kB
      rw [x.1, x.2.1, eL (by grind)]
  have eB1 : kB lt2 bS2 bT2 (op + 1) = sz2 := by
    unfold kB
    rw [if_neg (by grind), hS2.1, hS2.2.1]
    rcases hc with ⟨a1, a2, hc | hc⟩ | hc
    · rw [if_pos (Or.inr hc.1), hc.2.1]
    · rw [if_neg (fun z => ?_), hc.2]
      rcases z with z | z
      · exact z.2 (by rw [a1]; exact h4 (by have := z.1; grind))
      · rw [hc.1] at z; exact absurd z (by decide)
    · rw [if_pos (Or.inl ⟨by rw [hc.1]; decide, by have := hc.2.2.1.1; grind⟩), hc.2.2.2.2.1]
  have hX : ∀ M, M ≤ sz → ∀ j, kX lt (bS 1) M j → kX lt2 (bS2 1) M j ∧ k2 j = k j ∧ v2 j = v j := fun M hM j hj => by
    have jl := Int32.lt_of_lt_of_le hj.1.2 hM
    refine ⟨⟨hj.1, fun z => ?_⟩, hk j hj.1.1 jl⟩
    by_cases e : op = 0
    · have e1 : bS2 1 = sz := by
        have q := hS2.1
        rw [e, show (0 : Int32) + 1 = 1 by decide] at q
        exact q
      rw [e1] at z
      have := z.2
      grind
    · rw [eL (by grind), (hS 1 (by decide) (by grind)).1] at z
      exact hj.2 z
  refine ⟨⟨by grind, by grind⟩, ⟨Int32.le_trans h2.1 szle, hz2⟩, ⟨?_, fun z => by grind, fun z => ?_⟩, h6, fun q q1 q2 => ?_, fun q q1 q2 => ?_, fun q q1 q2 => ?_, fun l l1 l2 l3 => ?_⟩
  · rcases hc with hc | hc
    · rw [hc.1]; exact h3
    · have := hc.2.2.1; grind
  · rcases hc with hc | hc
    · rw [hc.1] at z ⊢
      have w := s1 z
      rw [(hS 1 (by decide) (by have := w.1; grind)).1, (hk (bS 1) w.2.1 (by have := w.2.2.2.1; have := w.2.2.2.2; grind)).1]
      exact h5 z
    · have e1 : bS2 1 = sz := by
        have q := hS2.1
        rw [hc.1, show (0 : Int32) + 1 = 1 by decide] at q
        exact q
      rw [e1]
      exact ⟨hc.2.2.2.1, hc.2.2.2.2.2⟩
  · by_cases e : q = op + 1
    · rw [e, hS2.1]
      refine ⟨h2, fun z => ?_⟩
      have e1 : gT t (op + 1) x (op + 1) = x := if_pos rfl
      rw [e1, hS2.2.1]
      rcases hc with ⟨a1, a2, hc⟩ | hc
      · refine ⟨rfl, a2, fun y => ?_⟩
        rcases hc with hc | hc
        · exact hc.2.2
        · rw [hc.1] at y; exact absurd y (by decide)
      · exact absurd ⟨by rw [hc.1]; decide, by have := hc.2.2.1.1; grind⟩ z
    · have q3 : q ≤ op := by grind
      have e1 : gT t (op + 1) x q = t q := if_neg e
      have w := hS q (by grind) e
      obtain ⟨a1, a2⟩ := h7 q q1 q3
      rw [w.1, w.2.1, e1, eL (by grind)]
      refine ⟨a1, fun z => ?_⟩
      obtain ⟨a3, a4, a5⟩ := a2 z
      refine ⟨a3, a4, fun z2 => ?_⟩
      obtain ⟨b1, b2, -⟩ := h9 q (by grind) q3
      have e1 : kB lt bS bT q = bS q + 1 := by unfold kB; rw [if_neg (by grind), if_pos (Or.inr (by rw [a3]; exact z2))]
      rw [e1] at b1
      have x := hk (bS q) a1.1 (kup a1 b1 b2).1
      rw [x.1, x.2]
      exact a5 z2
  · by_cases e : q = op + 1
    · rw [e, eB1, kE_op]
      refine ⟨Int32.le_refl _, Int32.le_refl _, fun p p1 p2 => ?_⟩
      by_cases e2 : p = op + 1
      · rw [e2, kE_op]; exact Int32.le_refl _
      · rw [eE p p1 (by grind)]
        exact Int32.le_trans (h9 p p1 (by grind)).2.1 szle
    · have q3 : q ≤ op := by grind
      obtain ⟨b1, b2, b3⟩ := h9 q q1 q3
      rw [eB q q1 q3, eE q q1 q3]
      refine ⟨b1, Int32.le_trans b2 szle, fun p p1 p2 => ?_⟩
      rw [eE p p1 (Int32.le_trans p2 q3)]
      exact b3 p p1 p2
  · by_cases e : q = op + 1
    · rw [e, eB1, kE_op, gN_at]
      exact ⟨hS2.2.2, 0, 0, fun _ => rfl, Nat.zero_le _, cQx.nil⟩
    · have q3 : q ≤ op := by grind
      obtain ⟨a1, c, qq, a2, a3, a4⟩ := h10 q q1 q3
      rw [eB q q1 q3, eE q q1 q3, gN_ne e, (hS q q1 e).2.2]
      exact ⟨a1, c, qq, a2, a3, a4.cg (hX _ (h9 q q1 q3).2.1)⟩
  · obtain ⟨a1, a2⟩ := h11 l l1 l2 l3
    rw [eE 0 (by decide) h1.1]
    refine ⟨a1, fun z => ?_⟩
    obtain ⟨c, e, a3, a4, a5⟩ := a2 z
    have y := hX _ (h9 0 (by decide) h1.1).2.1
    exact ⟨c, e, (y e a3).1, by rw [(y e a3).2.1]; exact a4, a5.cg y⟩
theorem kE_cl {bS : Int32 → Int32} {op sz sz2 q : Int32} (h0 : 1 ≤ op) (q2 : q ≤ op - 1) : kE bS op sz q = bS (q + 1) ∧ (¬ q = op - 1 → kE bS (op - 1) sz2 q = bS (q + 1)) := ⟨kE_ne (by grind), fun e => kE_ne e⟩
/-- a block is closed -/
theorem kSt.clo {k v k2 v2 bS bT sS sS2 yS yT : Int32 → Int32} {op lt sz sz2 : Int32} {N : Nat} {g b : Int32 → zL} {t : Int32 → Int32} {zs : zL} (h : kSt k v bS bT sS yS yT op lt sz N g b t) (h0 : 1 ≤ op) (hd : ¬ (op = 1 ∧ ¬ lt = -1)) (hz : bS op ≤ sz2 ∧ sz2 ≤ 200) (hk : ∀ j, 0 ≤ j → j < sz → k2 j = k j ∧ v2 j = v j) (hs : ∀ q, 0 ≤ q → q < op - 1 → sS2 q = sS q) (hs2 : sS2 (op - 1) = cL (g (op - 1) ++ zs))
    (hr : ∀ c qq, (¬ op - 1 = 0 → qq = 0) → cQx (kX lt (bS 1) (bS op)) k2 v2 (9 - (op - 1).toNatClampNeg + 8 * N) c qq (kB lt bS bT (op - 1)) (bS op) (g (op - 1)) → ∃ c3, cQx (kX lt (bS 1) sz2) k2 v2 (9 - (op - 1).toNatClampNeg + 8 * N) c3 qq (kB lt bS bT (op - 1)) sz2 (g (op - 1) ++ zs)) : kSt k2 v2 bS bT sS2 yS yT (op - 1) lt sz2 N (gAd g (op - 1) zs) b t := by
  have s1 := h.s1
  obtain ⟨h1, h2, ⟨h3, h4, h5⟩, h6, h7, h9, h10, h11⟩ := h
  have eop : op - 1 + 1 = op := by grind
  have eO : kE bS op sz (op - 1) = bS op := by rw [kE_ne (by grind), eop]
  have hbs : 0 ≤ bS op ∧ bS op ≤ sz := ⟨(h7 op h0 (Int32.le_refl _)).1.1, by have := (h9 (op - 1) (by grind) (by grind)).2.1; rw [eO] at this; exact this⟩
  have eE : ∀ q, q ≤ op - 1 → ¬ q = op - 1 → kE bS (op - 1) sz2 q = kE bS op sz q := fun q q2 e => by rw [kE_ne e, kE_ne (by grind)]
  have leE : ∀ q, q ≤ op - 1 → kE bS op sz q ≤ kE bS (op - 1) sz2 q := fun q q2 => by
    by_cases e : q = op - 1
    · rw [e, eO, kE_op]; exact hz.1
    · rw [eE q q2 e]; exact Int32.le_refl _
  have lo : ∀ q, 0 ≤ q → q ≤ op - 1 → kE bS op sz q ≤ bS op := fun q q1 q2 => by
    have := (h9 (op - 1) (by grind) (by grind)).2.2 q q1 q2
    rw [eO] at this
    exact this
  have hc : ∀ M, M ≤ bS op → ∀ M2, M ≤ M2 → ∀ j, kX lt (bS 1) M j → kX lt (bS 1) M2 j ∧ k2 j = k j ∧ v2 j = v j := fun M hM M2 hM2 j hj => ⟨hj.up hM2, hk j hj.1.1 (Int32.lt_of_lt_of_le hj.1.2 (Int32.le_trans hM hbs.2))⟩
  refine ⟨⟨by grind, by grind⟩, ⟨Int32.le_trans hbs.1 hz.1, hz.2⟩, ⟨h3, fun z => ?_, fun z => ?_⟩, h6, fun q q1 q2 => ?_, fun q q1 q2 => ?_, fun q q1 q2 => ?_, fun l l1 l2 l3 => ?_⟩
  · exact Classical.not_not.mp (fun y => hd ⟨by grind, y⟩)
  · have w := s1 z
    rw [(hk (bS 1) w.2.1 (by have := w.2.2.2.1; have := w.2.2.2.2; grind)).1]
    exact h5 z
  · have q3 : q ≤ op := by grind
    obtain ⟨a1, a2⟩ := h7 q q1 q3
    refine ⟨a1, fun z => ?_⟩
    obtain ⟨a3, a4, a5⟩ := a2 z
    refine ⟨a3, a4, fun z2 => ?_⟩
    obtain ⟨b1, b2, -⟩ := h9 q (by grind) q3
    have e1 : kB lt bS bT q = bS q + 1 := by unfold kB; rw [if_neg (by grind), if_pos (Or.inr (by rw [a3]; exact z2))]
    rw [e1] at b1
    have x := hk (bS q) a1.1 (kup a1 b1 b2).1
    rw [x.1, x.2]
    exact a5 z2
  · obtain ⟨b1, b2, b3⟩ := h9 q q1 (by grind)
    refine ⟨Int32.le_trans b1 (leE q q2), ?_, fun p p1 p2 => ?_⟩
    · by_cases e : q = op - 1
      · rw [e, kE_op]; exact Int32.le_refl _
      · rw [eE q q2 e]; exact Int32.le_trans (lo q q1 q2) hz.1
    · by_cases e : q = op - 1
      · rw [e, kE_op]
        by_cases e2 : p = op - 1
        · rw [e2, kE_op]; exact Int32.le_refl _
        · rw [eE p (by grind) e2]; exact Int32.le_trans (lo p p1 (by grind)) hz.1
      · rw [eE q q2 e, eE p (by grind) (by grind)]
        exact b3 p p1 p2
  · obtain ⟨a1, c, qq, a2, a3, a4⟩ := h10 q q1 (by grind)
    by_cases e : q = op - 1
    · rw [e] at a1 a2 a4
      rw [e, gAd_at, kE_op]
      rw [eO] at a4
      obtain ⟨c3, a5⟩ := hr c qq a2 (a4.cg (hc _ (Int32.le_refl _) _ (Int32.le_refl _)))
      exact ⟨hs2, c3, qq, a2, a3, a5⟩
    · rw [gAd_ne e, hs q q1 (by grind), eE q q2 e]
      exact ⟨a1, c, qq, a2, a3, a4.cg (hc _ (lo q q1 q2) _ (Int32.le_refl _))⟩
  · obtain ⟨a1, a2⟩ := h11 l l1 l2 l3
    refine ⟨a1, fun z => ?_⟩
    obtain ⟨c, e, a3, a4, a5⟩ := a2 z
    have y := hc _ (lo 0 (by decide) (by grind)) _ (leE 0 (by grind))
    exact ⟨c, e, (y e a3).1, by rw [(y e a3).2.1]; exact a4, a5.cg y⟩
/-- of a block, what is known -/
theorem kSt.blk {k v bS bT sS yS yT : Int32 → Int32} {op lt sz : Int32} {N : Nat} {g b : Int32 → zL} {t : Int32 → Int32} (h : kSt k v bS bT sS yS yT op lt sz N g b t) (h0 : 1 ≤ op) (hd : ¬ (op = 1 ∧ ¬ lt = -1)) : (bT op = t op ∧ (1 ≤ t op ∧ t op ≤ 99) ∧ (1 < t op → k (bS op) = 6 ∧ v (bS op) = t op)) ∧ (0 ≤ bS op ∧ bS op ≤ sz) ∧ (¬ lt = -1 → bS 1 < bS op) ∧ sS op = cL (g op) ∧ sS (op - 1) = cL (g (op - 1)) ∧ (1 < t op → kB lt bS bT op = bS op + 1 ∧ bS op < sz) ∧ (¬ 1 < t op → kB lt bS bT op = bS op) ∧ ∃ c, cQx (kX lt (bS 1) sz) k v (9 - op.toNatClampNeg + 8 * N) c 0 (kB lt bS bT op) sz (g op) := by
  have s1 := h.s1
  obtain ⟨h1, h2, ⟨h3, h4, h5⟩, h6, h7, h9, h10, h11⟩ := h
  have eop : op - 1 + 1 = op := by grind
  have eO : kE bS op sz (op - 1) = bS op := by rw [kE_ne (by grind), eop]
  obtain ⟨a1, a2⟩ := h7 op h0 (Int32.le_refl _)
  have a3 := a2 hd
  obtain ⟨b1, b2, b3⟩ := h9 op (by grind) (Int32.le_refl _)
  rw [kE_op] at b1
  obtain ⟨l1, c, qq, l2, l3, l4⟩ := h10 op (by grind) (Int32.le_refl _)
  have q0 := l2 (by grind)
  subst q0
  rw [kE_op] at l4
  have hb : 1 < t op → kB lt bS bT op = bS op + 1 := fun z => by unfold kB; rw [if_neg (by grind), if_pos (Or.inr (by rw [a3.1]; exact z))]
  have le : bS op ≤ sz := by
    have := (h9 (op - 1) (by grind) (by grind)).2.1
    rw [eO] at this
    exact this
  refine ⟨a3, ⟨a1.1, le⟩, fun z => ?_, l1, (h10 (op - 1) (by grind) (by grind)).1, fun z => ⟨hb z, ?_⟩, fun z => ?_, c, l4⟩
  · have w := s1 z
    have o2 : 1 ≤ op - 1 := by
      by_cases e : op = 1
      · exact absurd ⟨e, z⟩ hd
      · grind
    have m := (h9 (op - 1) (by grind) (by grind)).2.2 1 (by decide) o2
    rw [eO] at m
    have := w.2.2.2.1
    grind
  · rw [hb z] at b1
    exact (kup a1 b1 (Int32.le_refl _)).1
  · unfold kB
    rw [if_neg (by grind), if_neg (fun y => by
      rcases y with y | y
      · exact hd y
      · rw [a3.1] at y; exact z y)]
theorem kSt.clN {k v bS bT sS yS yT : Int32 → Int32} {op lt sz : Int32} {N : Nat} {g b : Int32 → zL} {t : Int32 → Int32} (h : kSt k v bS bT sS yS yT op lt sz N g b t) (h0 : 1 ≤ op) (hd : ¬ (op = 1 ∧ ¬ lt = -1)) (he : sS op = 0) : kSt k v bS bT sS yS yT (op - 1) lt (bS op) N (gAd g (op - 1) (rp (t op).toNatClampNeg (g op))) b t := by
  obtain ⟨b1, b2, b3, b4, b5, b6, b7, c, b8⟩ := h.blk h0 hd
  have e : g op = [] := cL_0.mp (b4.symm.trans he)
  have t1 : 1 ≤ (t op).toNatClampNeg := by
    have x := xnat (show 0 ≤ t op by have := b1.2.1.1; grind)
    have q := Int32.le_iff_toInt_le.mp b1.2.1.1
    rw [show (1 : Int32).toInt = 1 by decide] at q
    omega
  rw [(rp_nil t1).mpr e]
  refine h.clo h0 hd ⟨Int32.le_refl _, Int32.le_trans b2.2 h.2.1.2⟩ (fun _ _ _ => ⟨rfl, rfl⟩) (fun _ _ _ => rfl) (by rw [List.append_nil]; exact b5) (fun c qq _ z => ⟨c, by rw [List.append_nil]; exact z⟩)
theorem kSt.clO {k v bS bT sS sS2 yS yT : Int32 → Int32} {op lt sz : Int32} {N : Nat} {g b : Int32 → zL} {t : Int32 → Int32} (h : kSt k v bS bT sS yS yT op lt sz N g b t) (h0 : 1 ≤ op) (hd : ¬ (op = 1 ∧ ¬ lt = -1)) (ht : ¬ 1 < t op) (hs : ∀ q, 0 ≤ q → q < op - 1 → sS2 q = sS q) (hs2 : sS2 (op - 1) = cMn (sS (op - 1) + bT op * sS op) 5001) : kSt k v bS bT sS2 yS yT (op - 1) lt sz N (gAd g (op - 1) (rp (t op).toNatClampNeg (g op))) b t := by
  obtain ⟨b1, b2, b3, b4, b5, b6, b7, c, b8⟩ := h.blk h0 hd
  have t1 : t op = 1 := by have := b1.2.1; grind
  have n1 := kN1 h0 h.1.2
  have n8 := kN8 h.1.1 (Int32.le_refl _) h.1.2
  refine h.clo h0 hd ⟨b2.2, h.2.1.2⟩ (fun _ _ _ => ⟨rfl, rfl⟩) hs (by rw [hs2, b5, b4, b1.1]; exact cL_rp b1.2.1) (fun c1 qq _ z => ⟨c1 + c, ?_⟩)
  have y := (z.cg (fun j hj => ⟨hj.up b2.2, rfl, rfl⟩)).app (c2 := c) (q2 := 0) (e := sz) (ys := g op) (by
    rw [b7 ht] at b8
    exact b8.up (by omega))
  rw [t1]
  show cQx _ k v _ _ _ _ sz (g (op - 1) ++ (g op ++ []))
  rw [List.append_nil]
  exact y
theorem kSt.clR {k v k2 v2 bS bT sS sS2 yS yT : Int32 → Int32} {op lt sz : Int32} {N : Nat} {g b : Int32 → zL} {t : Int32 → Int32} (h : kSt k v bS bT sS yS yT op lt sz N g b t) (hz : sz < 200) (h0 : 1 ≤ op) (hd : ¬ (op = 1 ∧ ¬ lt = -1)) (ht : 1 < t op) (hp : 0 < sS op) (hk : ∀ j, 0 ≤ j → j < sz → k2 j = k j ∧ v2 j = v j) (h7 : k2 sz = 7) (hs : ∀ q, 0 ≤ q → q < op - 1 → sS2 q = sS q) (hs2 : sS2 (op - 1) = cMn (sS (op - 1) + bT op * sS op) 5001) : kSt k2 v2 bS bT sS2 yS yT (op - 1) lt (sz + 1) N (gAd g (op - 1) (rp (t op).toNatClampNeg (g op))) b t := by
  have hm := h.me
  obtain ⟨b1, b2, b3, b4, b5, b6, b7, c, b8⟩ := h.blk h0 hd
  have n1 := kN1 h0 h.1.2
  have n8 := kN8 h.1.1 (Int32.le_refl _) h.1.2
  have s0 := h.2.1
  have up : sz ≤ sz + 1 := by grind
  have b9 := b6 ht
  have gn : g op ≠ [] := fun e => by rw [b4, cL_0.mpr e] at hp; exact absurd hp (by decide)
  have hc : ∀ j, kX lt (bS 1) sz j → kX lt (bS 1) (sz + 1) j ∧ k2 j = k j ∧ v2 j = v j := fun j hj => ⟨hj.up up, hk j hj.1.1 hj.1.2⟩
  refine h.clo h0 hd ⟨Int32.le_trans b2.2 up, by grind⟩ hk hs (by rw [hs2, b5, b4, b1.1]; exact cL_rp b1.2.1) (fun c1 qq _ z => ?_)
  have kk := hk (bS op) b2.1 b9.2
  have k6 := b1.2.2 ht
  rw [b9.1] at b8
  have y := (z.cg (X2 := kX lt (bS 1) (sz + 1)) (fun j hj => ⟨hj.up (Int32.le_trans b2.2 up), rfl, rfl⟩)).rep (j := bS op) (e := sz) (ys := g op) (c2 := c) (t := 9 - op.toNatClampNeg + 8 * N) ⟨⟨b2.1, by have := b9.2; grind⟩, fun q => by have := b3 q.1; have := q.2; grind⟩ (by rw [kk.1]; exact k6.1) (by omega) (b8.cg hc) gn hm h7 (by rw [kk.2, k6.2]; have := b1.2.1; grind)
  rw [kk.2, k6.2] at y
  exact ⟨_, y⟩
theorem kN_up {yT yT2 : Int32 → Int32} {lt : Int32} {N : Nat} (h : (N : Int) = (mNd yT).toInt) (h0 : 0 ≤ lt ∧ lt ≤ 7) (h1 : yT lt = -1) (h2 : 0 ≤ yT2 lt) (h3 : ∀ l, 0 ≤ l → l ≤ 7 → ¬ l = lt → yT2 l = yT l) : ((N + 1 : Nat) : Int) = (mNd yT2).toInt := by
  have e := mNd_up (d := yT) (d2 := yT2) h0.1 h0.2 (by rw [h1]; decide) (by grind) h3
  have b := mNd_in yT
  have b1 := Int32.le_iff_toInt_le.mp b.1
  have b2 := Int32.le_iff_toInt_le.mp b.2
  rw [show (0 : Int32).toInt = 0 by decide] at b1
  rw [show (8 : Int32).toInt = 8 by decide] at b2
  rw [e, Int32.toInt_add, show (1 : Int32).toInt = 1 by decide, Int.bmod_eq_of_le (by omega) (by omega)]
  omega
/-- a } behind a def -/
theorem kSt.clM {k v bS bT sS yS yS2 yT yT2 : Int32 → Int32} {lt sz : Int32} {N : Nat} {g b : Int32 → zL} {t : Int32 → Int32} (h : kSt k v bS bT sS yS yT 1 lt sz N g b t) (hl : ¬ lt = -1) (he : sS 1 = 0) (hA : ∀ l, 0 ≤ l → l ≤ 7 → ¬ l = lt → yS2 l = yS l ∧ yT2 l = yT l) (hA2 : yT2 lt = 0) : kSt k v bS bT sS yS2 yT2 0 (-1) (bS 1) (N + 1) g (gLt b lt (g 1)) t := by
  obtain ⟨o1, s2, s3, s4, s5⟩ := h.s1 hl
  obtain ⟨h1, h2, ⟨h3, h4, h5⟩, h6, h7, h9, h10, h11⟩ := h
  rw [kE_op] at s4
  have l0 : 0 ≤ lt ∧ lt ≤ 7 := by grind
  have e0 : kE bS 1 sz 0 = bS 1 := kE_ne (by decide)
  have z0 : (0 : Int32).toNatClampNeg = 0 := by decide
  have hc : ∀ j, kX lt (bS 1) (bS 1) j → kX (-1) (bS 1) (bS 1) j ∧ k j = k j ∧ v j = v j := fun j hj => ⟨⟨hj.1, fun z => z.1 rfl⟩, rfl, rfl⟩
  have g1 : g 1 = [] := cL_0.mp ((h10 1 (by decide) (by decide)).1.symm.trans he)
  refine ⟨⟨by decide, by decide⟩, ⟨s2, by grind⟩, ⟨⟨by decide, by decide⟩, fun _ => rfl, fun z => absurd rfl z⟩, kN_up h6 l0 (h5 hl).1 (by rw [hA2]; decide) (fun l l1 l2 l3 => (hA l l1 l2 l3).2), fun q q1 q2 => absurd (Int32.le_trans q1 q2) (by decide), fun q q1 q2 => ?_, fun q q1 q2 => ?_, fun l l1 l2 l3 => ?_⟩
  · have q0 : q = 0 := by grind
    subst q0
    rw [kE_op]
    refine ⟨by unfold kB; rw [if_pos rfl]; exact s2, Int32.le_refl _, fun p p1 p2 => ?_⟩
    have p0 : p = 0 := by grind
    rw [p0, kE_op]
    exact Int32.le_refl _
  · have q0 : q = 0 := by grind
    subst q0
    obtain ⟨a1, c, qq, a2, a3, a4⟩ := h10 0 (by decide) (by decide)
    rw [e0] at a4
    rw [kE_op]
    refine ⟨a1, c, qq, a2, by omega, ?_⟩
    have e1 : kB lt bS bT 0 = kB (-1) bS bT 0 := by unfold kB; rw [if_pos rfl, if_pos rfl]
    rw [e1] at a4
    exact (a4.cg hc).up (by omega)
  · rw [kE_op]
    by_cases e : l = lt
    · have e1 : gLt b lt (g 1) l = [] := (if_pos e).trans g1
      rw [e1, e, hA2]
      exact ⟨rfl, fun z => absurd rfl z⟩
    · have e1 : gLt b lt (g 1) l = b l := if_neg e
      have w := hA l l1 l2 e
      rw [w.2] at l3
      obtain ⟨a1, a2⟩ := h11 l l1 l2 l3
      rw [e1, w.1, w.2]
      refine ⟨a1, fun z => ?_⟩
      obtain ⟨c, e2, a3, a4, a5⟩ := a2 z
      rw [e0] at a3 a5
      exact ⟨c, e2, (hc e2 a3).1, a4, (a5.cg hc).up (by omega)⟩
theorem kSt.clD {k v k2 v2 bS bT sS yS yS2 yT yT2 : Int32 → Int32} {lt sz : Int32} {N : Nat} {g b : Int32 → zL} {t : Int32 → Int32} (h : kSt k v bS bT sS yS yT 1 lt sz N g b t) (hl : ¬ lt = -1) (hz : sz < 200) (hp : 0 < sS 1) (hk : ∀ j, 0 ≤ j → j < sz → k2 j = k j ∧ (¬ j = bS 1 → v2 j = v j)) (h9 : k2 sz = 9) (hv : v2 (bS 1) = sz + 1) (hA : ∀ l, 0 ≤ l → l ≤ 7 → ¬ l = lt → yS2 l = yS l ∧ yT2 l = yT l) (hA2 : yT2 lt = sS 1 ∧ yS2 lt = bS 1 + 1) : kSt k2 v2 bS bT sS yS2 yT2 0 (-1) (sz + 1) (N + 1) g (gLt b lt (g 1)) t := by
  obtain ⟨o1, s2, s3, s4, s5⟩ := h.s1 hl
  obtain ⟨h1, h2, ⟨h3, h4, h5⟩, h6, h7, h8, h10, h11⟩ := h
  rw [kE_op] at s4
  have l0 : 0 ≤ lt ∧ lt ≤ 7 := by grind
  have e0 : kE bS 1 sz 0 = bS 1 := kE_ne (by decide)
  have up : bS 1 ≤ sz + 1 := by grind
  have hc : ∀ M, M ≤ sz → ∀ j, kX lt (bS 1) M j → kX (-1) (bS 1) (sz + 1) j ∧ k2 j = k j ∧ v2 j = v j := fun M hM j hj => by
    have jl := Int32.lt_of_lt_of_le hj.1.2 hM
    have w := hk j hj.1.1 jl
    exact ⟨⟨⟨hj.1.1, by grind⟩, fun z => z.1 rfl⟩, w.1, w.2 (fun e => hj.2 ⟨hl, e⟩)⟩
  obtain ⟨b1, c1, q1, b2, b3, b4⟩ := h10 1 (by decide) (by decide)
  have q0 := b2 (by decide)
  subst q0
  rw [kE_op, s3] at b4
  have g1 : g 1 ≠ [] := fun e => by rw [b1, cL_0.mpr e] at hp; exact absurd hp (by decide)
  have X1 : kX (-1) (bS 1) (sz + 1) (bS 1) := ⟨⟨s2, by grind⟩, fun z => z.1 rfl⟩
  have X2 : kX (-1) (bS 1) (sz + 1) sz := ⟨⟨h2.1, by grind⟩, fun z => z.1 rfl⟩
  refine ⟨⟨by decide, by decide⟩, ⟨by grind, by grind⟩, ⟨⟨by decide, by decide⟩, fun _ => rfl, fun z => absurd rfl z⟩, kN_up h6 l0 (h5 hl).1 (by rw [hA2.1]; grind) (fun l l1 l2 l3 => (hA l l1 l2 l3).2), fun q q1 q2 => absurd (Int32.le_trans q1 q2) (by decide), fun q q1 q2 => ?_, fun q q1 q2 => ?_, fun l l1 l2 l3 => ?_⟩
  · have q0 : q = 0 := by grind
    subst q0
    rw [kE_op]
    refine ⟨by unfold kB; rw [if_pos rfl]; grind, Int32.le_refl _, fun p p1 p2 => ?_⟩
    have p0 : p = 0 := by grind
    rw [p0, kE_op]
    exact Int32.le_refl _
  · have q0 : q = 0 := by grind
    subst q0
    obtain ⟨a1, c, qq, a2, a3, a4⟩ := h10 0 (by decide) (by decide)
    rw [e0] at a4
    rw [kE_op]
    refine ⟨a1, c + 1, qq + 1, fun z => absurd rfl z, by omega, ?_⟩
    have e1 : kB lt bS bT 0 = kB (-1) bS bT 0 := by unfold kB; rw [if_pos rfl, if_pos rfl]
    rw [e1] at a4
    have y := ((a4.cg (hc (bS 1) (by grind))).up (s2 := 9 - (0 : Int32).toNatClampNeg + 8 * (N + 1)) (by omega)).skip X1 (by rw [(hk (bS 1) s2 s4).1]; exact (h5 hl).2)
    rw [hv] at y
    exact y
  · rw [kE_op]
    by_cases e : l = lt
    · have e1 : gLt b lt (g 1) l = g 1 := if_pos e
      rw [e1, e, hA2.1, hA2.2]
      refine ⟨b1, fun _ => ⟨c1, sz, X2, h9, ?_⟩⟩
      have y := b4.cg (hc sz (Int32.le_refl _))
      rw [show 9 - (1 : Int32).toNatClampNeg + 8 * N = 8 * (N + 1) by rw [show (1 : Int32).toNatClampNeg = 1 by decide]; omega] at y
      exact y
    · have e1 : gLt b lt (g 1) l = b l := if_neg e
      have w := hA l l1 l2 e
      rw [w.2] at l3
      obtain ⟨a1, a2⟩ := h11 l l1 l2 l3
      rw [e1, w.1, w.2]
      refine ⟨a1, fun z => ?_⟩
      obtain ⟨c, e2, a3, a4, a5⟩ := a2 z
      rw [e0] at a3 a5
      have y := hc (bS 1) (by grind)
      exact ⟨c, e2, (y e2 a3).1, by rw [(y e2 a3).2.1]; exact a4, (a5.cg y).up (by omega)⟩
