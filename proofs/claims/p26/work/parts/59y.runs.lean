/-! stretches of the class's orders, with the steps that they come to -/
def cRx (k v : Int32 → Int32) (N : Int32) (s c q : Nat) (i j : Int32) (zs : List (Int32 × Int32)) : Prop := ∀ P : Nat → Nat → Nat → Int32 → Int32 → List (Int32 × Int32) → Prop,
  (∀ s i, P s 0 0 i i []) →
  (∀ s c q i j xs, P s c q i j xs → (0 ≤ j ∧ j < N) → (0 ≤ k j ∧ k j ≤ 5) → P s (c + 1) q i (j + 1) (xs ++ [(k j + 1, v j)])) →
  (∀ s c q i j xs, P s c q i j xs → (0 ≤ j ∧ j < N) → k j = 10 → P s (c + 1) (q + 1) i (v j) xs) →
  (∀ s c q i j t c2 e xs ys, P s c q i j xs → (0 ≤ j ∧ j < N) → k j = 8 → t < s → P t c2 0 (v j) e ys → ys ≠ [] → (0 ≤ e ∧ e < N) → k e = 9 → P s (c + c2 + 2) q i (j + 1) (xs ++ ys)) →
  (∀ s c q i j t c2 e xs ys, P s c q i j xs → (0 ≤ j ∧ j < N) → k j = 6 → t < s → P t c2 0 (j + 1) e ys → ys ≠ [] → (0 ≤ e ∧ e < N) → k e = 7 → (2 ≤ v j ∧ v j ≤ 99) → P s (c + 1 + (v j).toNatClampNeg * (c2 + 1)) q i (e + 1) (xs ++ rp (v j).toNatClampNeg ys)) → P s c q i j zs
theorem rp_len {ys : List (Int32 × Int32)} : ∀ m, (rp m ys).length = m * ys.length
  | 0 => by rw [Nat.zero_mul]; rfl
  | m + 1 => by
    show (ys ++ rp m ys).length = _
    rw [List.length_append, rp_len m, Nat.succ_mul, Nat.add_comm]
/-- an order takes no long time -/
theorem cRx_le {k v : Int32 → Int32} {N : Int32} {s c q : Nat} {i j : Int32} {zs : List (Int32 × Int32)} (h : cRx k v N s c q i j zs) : c ≤ (2 * s + 1) * zs.length + q := by
  refine h (fun s c q _ _ zs => c ≤ (2 * s + 1) * zs.length + q) ?_ ?_ ?_ ?_ ?_
  · intro s i; exact Nat.zero_le _
  · intro s c q i j xs hP _ _
    rw [List.length_append, Nat.mul_add]
    have e : [(k j + 1, v j)].length = 1 := rfl
    rw [e]
    omega
  · intro s c q i j xs hP _ _
    omega
  · intro s c q i j t c2 e xs ys hP _ _ ht hY hy _ _
    rw [List.length_append, Nat.mul_add]
    have y1 : 1 ≤ ys.length := by
      cases ys with
      | nil => exact absurd rfl hy
      | cons a b => exact Nat.succ_le_succ (Nat.zero_le _)
    have m1 : (2 * t + 1) * ys.length + 2 * ys.length ≤ (2 * s + 1) * ys.length := by
      rw [← Nat.add_mul]
      exact Nat.mul_le_mul_right _ (by omega)
    omega
  · intro s c q i j t c2 e xs ys hP _ _ ht hY hy _ _ hv
    rw [List.length_append, rp_len, Nat.mul_add (2 * s + 1)]
    have y1 : 1 ≤ ys.length := by
      cases ys with
      | nil => exact absurd rfl hy
      | cons a b => exact Nat.succ_le_succ (Nat.zero_le _)
    have v1 : 2 ≤ (v j).toNatClampNeg := by
      have := xnat (show 0 ≤ v j by have := hv.1; grind)
      have h2 := Int32.le_iff_toInt_le.mp hv.1
      rw [show (2 : Int32).toInt = 2 by decide] at h2
      omega
    have m1 : (2 * t + 1) * ys.length + 2 * ys.length ≤ (2 * s + 1) * ys.length := by
      rw [← Nat.add_mul]
      exact Nat.mul_le_mul_right _ (by omega)
    have m2 : c2 + 1 + 1 ≤ (2 * s + 1) * ys.length := by omega
    have m3 := Nat.mul_le_mul_left (v j).toNatClampNeg m2
    have m4 : (2 * s + 1) * ((v j).toNatClampNeg * ys.length) = (v j).toNatClampNeg * ((2 * s + 1) * ys.length) := by
      rw [Nat.mul_left_comm]
    rw [m4]
    rw [Nat.mul_add _ (c2 + 1) 1] at m3
    omega
theorem cRx_app {k v : Int32 → Int32} {N : Int32} {s c q c2 q2 : Nat} {i j e : Int32} {xs ys : List (Int32 × Int32)} (h : cRx k v N s c q i j xs) (h2 : cRx k v N s c2 q2 j e ys) : cRx k v N s (c + c2) (q + q2) i e (xs ++ ys) := by
  intro P p0 p1 p2 p3 p4
  have hx := h P p0 p1 p2 p3 p4
  have g : P s c2 q2 j e ys ∧ (∀ c q i xs, P s c q i j xs → P s (c + c2) (q + q2) i e (xs ++ ys)) := by
    refine h2 (fun s c2 q2 j e ys => P s c2 q2 j e ys ∧ ∀ c q i xs, P s c q i j xs → P s (c + c2) (q + q2) i e (xs ++ ys)) ?_ ?_ ?_ ?_ ?_
    · intro s i; exact ⟨p0 s i, fun c q i xs hP => by rw [List.append_nil]; exact hP⟩
    · intro s c q i j xs hP hj hk
      exact ⟨p1 s c q i j xs hP.1 hj hk, fun c1 q1 i1 xs1 h1 => by rw [← List.append_assoc]; exact p1 _ _ _ _ _ _ (hP.2 c1 q1 i1 xs1 h1) hj hk⟩
    · intro s c q i j xs hP hj hk
      exact ⟨p2 s c q i j xs hP.1 hj hk, fun c1 q1 i1 xs1 h1 => p2 _ _ _ _ _ _ (hP.2 c1 q1 i1 xs1 h1) hj hk⟩
    · intro s c q i j t c3 e xs ys hP hj hk ht hY hy he h9
      refine ⟨p3 s c q i j t c3 e xs ys hP.1 hj hk ht hY.1 hy he h9, fun c1 q1 i1 xs1 h1 => ?_⟩
      have z := p3 _ _ _ _ _ _ _ _ _ _ (hP.2 c1 q1 i1 xs1 h1) hj hk ht hY.1 hy he h9
      rw [List.append_assoc] at z
      rw [show c1 + (c + c3 + 2) = c1 + c + c3 + 2 by omega]
      exact z
    · intro s c q i j t c3 e xs ys hP hj hk ht hY hy he h9 hv
      refine ⟨p4 s c q i j t c3 e xs ys hP.1 hj hk ht hY.1 hy he h9 hv, fun c1 q1 i1 xs1 h1 => ?_⟩
      have z := p4 _ _ _ _ _ _ _ _ _ _ (hP.2 c1 q1 i1 xs1 h1) hj hk ht hY.1 hy he h9 hv
      rw [List.append_assoc] at z
      rw [show c1 + (c + 1 + (v j).toNatClampNeg * (c3 + 1)) = c1 + c + 1 + (v j).toNatClampNeg * (c3 + 1) by omega]
      exact z
  exact g.2 c q i xs hx
theorem on1 (m : Nat) : Int32.ofNat m + 1 = Int32.ofNat (m + 1) := by rw [Int32.ofNat_add]; rfl
theorem onlt {m : Nat} (h : m < 1000000) : Int32.ofNat m < 1000000 := by
  rw [Int32.lt_iff_toInt_lt, Int32.toInt_ofNat_of_lt (by omega), show (1000000 : Int32).toInt = 1000000 by decide]
  omega
def cAt (w : Nat) (st : Int32) (a : Int32) (m : Nat) (n : Nat) (I : px_I) (L : px_L) (R : px_R) (Q : px_Q) : Prop := px M_X9_go 0 0 29 [(0, .ref 86), (1, .ref w), (2, .int st), (3, .int a), (4, .int (Int32.ofNat m))] [] n I L R Q
/-- where a run stands -/
def cHe (I0 : px_I) (L0 : px_L) (d : Int32) (I : px_I) (L : px_L) : Prop := cWk I ∧ cWI I0 I ∧ cWL L0 L ∧ I 86 2 = d ∧ I 86 17 = 1 ∧ nice (cV I L)
def cSx (I0 : px_I) (w s c : Nat) (i j : Int32) (zs : List (Int32 × Int32)) : Prop := ∀ {n : Nat} {R : px_R} (_ : px_G n R) (_ : cWay n w) {Q : px_Q} (st : Int32) (L0 : px_L) (d : Int32) (I : px_I) (L : px_L), cHe I0 L0 d I L → 0 ≤ d.toInt → d.toInt + s ≤ 80 → (cV I L 8).toInt + zs.length ≤ 5000 → ∀ m : Nat, m + c < 1000000 →
  (fD (cTl I0) zs (cV I L) = none → ∀ I2 L2, cWI I0 I2 → cWL L0 L2 → I2 86 17 = 0 → Q none n I2 L2 R) →
  (∀ V, fD (cTl I0) zs (cV I L) = some V → ∀ I2 L2, cHe I0 L0 d I2 L2 → cV I2 L2 = V → (V 8).toInt = (cV I L 8).toInt + zs.length → (∀ q : Nat, (q : Int) < d.toInt → I2 87 q = I 87 q ∧ I2 88 q = I 88 q) → cAt w st j (m + c) n I2 L2 R Q) →
  cAt w st i m n I L R Q
theorem cWI.cTl {I0 I : px_I} (h : cWI I0 I) : ∀ k, k < 5 → cTl I k = cTl I0 k := fun k hk => h 86 (3 + k) (by decide) (by decide) (by omega)
theorem rSt_tC {I0 I : px_I} (h : cWI I0 I) (o v : Int32) (V : Nat → Int64) : rSt (cTl I) o v V = rSt (cTl I0) o v V := rDo_t h.cTl o v _
theorem nice_16 {I : px_I} {L : px_L} (h : nice (cV I L)) : 0 ≤ I 86 16 ∧ I 86 16 ≤ 1000000 := by
  have e : (cV I L 8).toInt = (I 86 16).toInt := by
    show ((I 86 16).toInt64).toInt = _
    rw [Int32.toInt_toInt64]
  have := h.2.2.2
  rw [e] at this
  rw [Int32.le_iff_toInt_le, Int32.le_iff_toInt_le, show (0 : Int32).toInt = 0 by decide, show (1000000 : Int32).toInt = 1000000 by decide]
  omega
/-- one step, at the loop's head -/
theorem cSx_step {I0 : px_I} {w : Nat} (h0 : w = 77 ∨ 147 ≤ w) (hv0 : cWv I0 w) (hT : tOk (cTl I0)) {n : Nat} {R : px_R} (hg : px_G n R) (hw : cWay n w) {Q : px_Q} (st : Int32) (L0 : px_L) (d : Int32) {I : px_I} {L : px_L} (hH : cHe I0 L0 d I L) {j : Int32} (hj : 0 ≤ j ∧ j < I0 w 2) (hk : 0 ≤ I0 (w + 1) j.toNatClampNeg ∧ I0 (w + 1) j.toNatClampNeg ≤ 5) (h8 : (cV I L 8).toInt < 5000) {m : Nat} (hm : m < 999999)
    (hq : rBb (rSt (cTl I0) (I0 (w + 1) j.toNatClampNeg + 1) (I0 (w + 2) j.toNatClampNeg) (cV I L)) 7 = true → ∀ I2 L2, cWI I0 I2 → cWL L0 L2 → I2 86 17 = 0 → Q none n I2 L2 R)
    (kk : ¬ rBb (rSt (cTl I0) (I0 (w + 1) j.toNatClampNeg + 1) (I0 (w + 2) j.toNatClampNeg) (cV I L)) 7 = true → ∀ I2 L2, cHe I0 L0 d I2 L2 → cV I2 L2 = rSt (cTl I0) (I0 (w + 1) j.toNatClampNeg + 1) (I0 (w + 2) j.toNatClampNeg) (cV I L) → (cV I2 L2 8).toInt = (cV I L 8).toInt + 1 → I2 87 = I 87 → I2 88 = I 88 → cAt w st (j + 1) (m + 1) n I2 L2 R Q) : cAt w st j m n I L R Q := by
  obtain ⟨hk1, hI, hL, hd, h17, hn⟩ := hH
  have hv := hI.wv h0 hv0
  have e0 : I w 2 = I0 w 2 := hI w 2 (by omega) (by omega) (by omega)
  have e1 : I (w + 1) j.toNatClampNeg = I0 (w + 1) j.toNatClampNeg := hI (w + 1) _ (by omega) (by omega) (by omega)
  have e2 : I (w + 2) j.toNatClampNeg = I0 (w + 2) j.toNatClampNeg := hI (w + 2) _ (by omega) (by omega) (by omega)
  have hv2 := hv0.2 j.toNatClampNeg
  refine cx_one hg hw st hk1 hv h17 j (Int32.ofNat m) (onlt (by omega)) ⟨hj.1, by rw [e0]; exact hj.2⟩ (fun r I2 L2 a1 a2 a3 a4 => ?_)
  rw [e1, e2] at a4
  obtain ⟨rfl, b2, b3, b4, b5, b6⟩ := a4.1 hk
  have h16 := nice_16 hn
  have b7 := b6 h16.1 h16.2
  rw [rSt_tC hI] at b7
  have hw8 := wide_step hT hn (v := I0 (w + 2) j.toNatClampNeg) (o := I0 (w + 1) j.toNatClampNeg + 1) (by
    have q1 := Int32.le_iff_toInt_le.mp hv2.1
    have q2 := Int32.le_iff_toInt_le.mp hv2.2
    rw [show (0 : Int32).toInt = 0 by decide] at q1
    rw [show (1000000 : Int32).toInt = 1000000 by decide] at q2
    exact ⟨q1, q2⟩) (by grind) h8
  rw [← b7] at hw8
  have hN := cNear_iff hw8.1
  rw [on1]
  by_cases c : rBb (cV I2 L2) 7 = true
  · refine cx_out hg hw st (a2.wv h0 hv) _ _ (Or.inl (a1.2.2.resolve_right (fun z => hN.mp (b5.mp z) c))) ?_
    exact hq (by rw [← b7]; exact c) I2 L2 (hI.trans a2) (hL.trans a3) (a1.2.2.resolve_right (fun z => hN.mp (b5.mp z) c))
  · exact kk (by rw [← b7]; exact c) I2 L2 ⟨a1, hI.trans a2, hL.trans a3, b2.trans hd, b5.mpr (hN.mpr c), wide_nice hw8.1 c⟩ b7 hw8.2 b3 b4

/-! in and out of blocks -/
theorem cV_e {I I2 : px_I} {L : px_L} (h1 : I2 86 15 = I 86 15) (h2 : I2 86 16 = I 86 16) : cV I2 L = cV I L := by unfold cV; rw [h1, h2]
theorem d_le {d : Int32} (h : 0 ≤ d.toInt) : 0 ≤ d := by rw [Int32.le_iff_toInt_le, show (0 : Int32).toInt = 0 by decide]; exact h
theorem d_lt {d : Int32} (h : d.toInt < 80) : d < 80 := by rw [Int32.lt_iff_toInt_lt, show (80 : Int32).toInt = 80 by decide]; exact h
theorem d_up {d : Int32} (h0 : 0 ≤ d.toInt) (h : d.toInt < 80) : (d + 1).toInt = d.toInt + 1 := by rw [Int32.toInt_add, show (1 : Int32).toInt = 1 by decide]; exact Int.bmod_eq_of_le (by omega) (by omega)
theorem cSx_in {I0 : px_I} {w : Nat} (h0 : w = 77 ∨ 147 ≤ w) (hv0 : cWv I0 w) {n : Nat} {R : px_R} (hg : px_G n R) (hw : cWay n w) {Q : px_Q} (st : Int32) (L0 : px_L) (d : Int32) {I : px_I} {L : px_L} (hH : cHe I0 L0 d I L) (hd0 : 0 ≤ d.toInt ∧ d.toInt < 80) {j : Int32} (hj : 0 ≤ j ∧ j < I0 w 2) {t x : Int32}
    (hk : (I0 (w + 1) j.toNatClampNeg = 8 ∧ x = I0 (w + 2) j.toNatClampNeg ∧ t = 0) ∨ (I0 (w + 1) j.toNatClampNeg = 6 ∧ x = j + 1 ∧ t = I0 (w + 2) j.toNatClampNeg)) {m : Nat} (hm : m < 999999)
    (kk : ∀ I2, cHe I0 L0 (d + 1) I2 L → cV I2 L = cV I L → I2 87 d.toNatClampNeg = j + 1 → I2 88 d.toNatClampNeg = t → (∀ q : Nat, (q : Int) < d.toInt → I2 87 q = I 87 q ∧ I2 88 q = I 88 q) → cAt w st x (m + 1) n I2 L R Q) : cAt w st j m n I L R Q := by
  obtain ⟨hk1, hI, hL, hd, h17, hn⟩ := hH
  have hv := hI.wv h0 hv0
  have e0 : I w 2 = I0 w 2 := hI w 2 (by omega) (by omega) (by omega)
  have e1 : I (w + 1) j.toNatClampNeg = I0 (w + 1) j.toNatClampNeg := hI (w + 1) _ (by omega) (by omega) (by omega)
  have e2 : I (w + 2) j.toNatClampNeg = I0 (w + 2) j.toNatClampNeg := hI (w + 2) _ (by omega) (by omega) (by omega)
  have hlt : I 86 2 < 80 := by rw [hd]; exact d_lt hd0.2
  have hd9 := xnat (d_le hd0.1)
  refine cx_one hg hw st hk1 hv h17 j (Int32.ofNat m) (onlt (by omega)) ⟨hj.1, by rw [e0]; exact hj.2⟩ (fun r I2 L2 a1 a2 a3 a4 => ?_)
  rw [e1, e2] at a4
  have hz : r = x ∧ L2 = L ∧ I2 = px_u (px_u (px_u I 87 (I 86 2).toNatClampNeg (j + 1)) 88 (I 86 2).toNatClampNeg t) 86 2 (I 86 2 + 1) := by
    rcases hk with ⟨q1, q2, q3⟩ | ⟨q1, q2, q3⟩
    · rw [q2, q3]; exact a4.2.2.2.1 q1 hlt
    · rw [q2, q3]; exact a4.2.1 q1 hlt
  obtain ⟨er, eL, hE⟩ := hz
  rw [hd] at hE
  rw [on1, er, eL]
  have u1 : I2 86 15 = I 86 15 := by rw [hE]; simp [px_ur]
  have u2 : I2 86 16 = I 86 16 := by rw [hE]; simp [px_ur]
  have u3 : I2 86 17 = I 86 17 := by rw [hE]; simp [px_ur]
  have u4 : I2 86 2 = d + 1 := by rw [hE]; simp [px_ur]
  have u5 : I2 87 d.toNatClampNeg = j + 1 := by rw [hE]; simp [px_ur]
  have u6 : I2 88 d.toNatClampNeg = t := by rw [hE]; simp [px_ur]
  have eV := cV_e (L := L) u1 u2
  refine kk I2 ⟨a1, hI.trans a2, hL, u4, by rw [u3]; exact h17, by rw [eV]; exact hn⟩ eV u5 u6 (fun q hq => ?_)
  have hne : q ≠ d.toNatClampNeg := by omega
  constructor
  · rw [hE]; simp [px_ur, hne]
  · rw [hE]; simp [px_ur, hne]
theorem cSx_skip {I0 : px_I} {w : Nat} (h0 : w = 77 ∨ 147 ≤ w) (hv0 : cWv I0 w) {n : Nat} {R : px_R} (hg : px_G n R) (hw : cWay n w) {Q : px_Q} (st : Int32) (L0 : px_L) (d : Int32) {I : px_I} {L : px_L} (hH : cHe I0 L0 d I L) {j : Int32} (hj : 0 ≤ j ∧ j < I0 w 2) (hk : I0 (w + 1) j.toNatClampNeg = 10) {m : Nat} (hm : m < 999999)
    (kk : cAt w st (I0 (w + 2) j.toNatClampNeg) (m + 1) n I L R Q) : cAt w st j m n I L R Q := by
  obtain ⟨hk1, hI, hL, hd, h17, hn⟩ := hH
  have hv := hI.wv h0 hv0
  have e0 : I w 2 = I0 w 2 := hI w 2 (by omega) (by omega) (by omega)
  have e1 : I (w + 1) j.toNatClampNeg = I0 (w + 1) j.toNatClampNeg := hI (w + 1) _ (by omega) (by omega) (by omega)
  have e2 : I (w + 2) j.toNatClampNeg = I0 (w + 2) j.toNatClampNeg := hI (w + 2) _ (by omega) (by omega) (by omega)
  refine cx_one hg hw st hk1 hv h17 j (Int32.ofNat m) (onlt (by omega)) ⟨hj.1, by rw [e0]; exact hj.2⟩ (fun r I2 L2 a1 a2 a3 a4 => ?_)
  rw [e1, e2] at a4
  obtain ⟨er, eL, hE⟩ := a4.2.2.2.2.2 hk
  rw [on1, er, eL, hE]
  exact kk
theorem cSx_ret {I0 : px_I} {w : Nat} (h0 : w = 77 ∨ 147 ≤ w) (hv0 : cWv I0 w) {n : Nat} {R : px_R} (hg : px_G n R) (hw : cWay n w) {Q : px_Q} (st : Int32) (L0 : px_L) (d : Int32) {I : px_I} {L : px_L} (hH : cHe I0 L0 (d + 1) I L) (hd0 : 0 ≤ d.toInt ∧ d.toInt < 80) {j : Int32} (hj : 0 ≤ j ∧ j < I0 w 2) (hk : I0 (w + 1) j.toNatClampNeg = 9) {m : Nat} (hm : m < 999999)
    (kk : ∀ I2, cHe I0 L0 d I2 L → cV I2 L = cV I L → I2 87 = I 87 → I2 88 = I 88 → cAt w st (I 87 d.toNatClampNeg) (m + 1) n I2 L R Q) : cAt w st j m n I L R Q := by
  obtain ⟨hk1, hI, hL, hd, h17, hn⟩ := hH
  have hv := hI.wv h0 hv0
  have e0 : I w 2 = I0 w 2 := hI w 2 (by omega) (by omega) (by omega)
  have e1 : I (w + 1) j.toNatClampNeg = I0 (w + 1) j.toNatClampNeg := hI (w + 1) _ (by omega) (by omega) (by omega)
  have e2 : I (w + 2) j.toNatClampNeg = I0 (w + 2) j.toNatClampNeg := hI (w + 2) _ (by omega) (by omega) (by omega)
  have h1 : 1 ≤ I 86 2 := by
    rw [hd, Int32.le_iff_toInt_le, d_up hd0.1 hd0.2, show (1 : Int32).toInt = 1 by decide]; omega
  have hdd : d + 1 - 1 = d := by grind
  refine cx_one hg hw st hk1 hv h17 j (Int32.ofNat m) (onlt (by omega)) ⟨hj.1, by rw [e0]; exact hj.2⟩ (fun r I2 L2 a1 a2 a3 a4 => ?_)
  rw [e1, e2] at a4
  obtain ⟨eL, er, hE⟩ := a4.2.2.2.2.1 hk h1
  rw [hd, hdd] at er hE
  rw [on1, er, eL]
  have u1 : I2 86 15 = I 86 15 := by rw [hE]; simp [px_ur]
  have u2 : I2 86 16 = I 86 16 := by rw [hE]; simp [px_ur]
  have u3 : I2 86 17 = I 86 17 := by rw [hE]; simp [px_ur]
  have u4 : I2 86 2 = d := by rw [hE]; simp [px_ur]
  have eV := cV_e (L := L) u1 u2
  exact kk I2 ⟨a1, hI.trans a2, hL, u4, by rw [u3]; exact h17, by rw [eV]; exact hn⟩ eV (by rw [hE, px_u_ne (by decide)]) (by rw [hE, px_u_ne (by decide)])
theorem cSx_again {I0 : px_I} {w : Nat} (h0 : w = 77 ∨ 147 ≤ w) (hv0 : cWv I0 w) {n : Nat} {R : px_R} (hg : px_G n R) (hw : cWay n w) {Q : px_Q} (st : Int32) (L0 : px_L) (d : Int32) {I : px_I} {L : px_L} (hH : cHe I0 L0 (d + 1) I L) (hd0 : 0 ≤ d.toInt ∧ d.toInt < 80) {j : Int32} (hj : 0 ≤ j ∧ j < I0 w 2) (hk : I0 (w + 1) j.toNatClampNeg = 7) {m : Nat} (hm : m < 999999)
    (k1 : 0 < I 88 d.toNatClampNeg - 1 → ∀ I2, cHe I0 L0 (d + 1) I2 L → cV I2 L = cV I L → I2 87 = I 87 → I2 88 d.toNatClampNeg = I 88 d.toNatClampNeg - 1 → (∀ q : Nat, q ≠ d.toNatClampNeg → I2 88 q = I 88 q) → cAt w st (I 87 d.toNatClampNeg) (m + 1) n I2 L R Q)
    (k2 : ¬ 0 < I 88 d.toNatClampNeg - 1 → ∀ I2, cHe I0 L0 d I2 L → cV I2 L = cV I L → I2 87 = I 87 → (∀ q : Nat, q ≠ d.toNatClampNeg → I2 88 q = I 88 q) → cAt w st (j + 1) (m + 1) n I2 L R Q) : cAt w st j m n I L R Q := by
  obtain ⟨hk1, hI, hL, hd, h17, hn⟩ := hH
  have hv := hI.wv h0 hv0
  have e0 : I w 2 = I0 w 2 := hI w 2 (by omega) (by omega) (by omega)
  have e1 : I (w + 1) j.toNatClampNeg = I0 (w + 1) j.toNatClampNeg := hI (w + 1) _ (by omega) (by omega) (by omega)
  have e2 : I (w + 2) j.toNatClampNeg = I0 (w + 2) j.toNatClampNeg := hI (w + 2) _ (by omega) (by omega) (by omega)
  have h1 : 1 ≤ I 86 2 := by
    rw [hd, Int32.le_iff_toInt_le, d_up hd0.1 hd0.2, show (1 : Int32).toInt = 1 by decide]; omega
  have hdd : d + 1 - 1 = d := by grind
  refine cx_one hg hw st hk1 hv h17 j (Int32.ofNat m) (onlt (by omega)) ⟨hj.1, by rw [e0]; exact hj.2⟩ (fun r I2 L2 a1 a2 a3 a4 => ?_)
  rw [e1, e2] at a4
  obtain ⟨eL, hz⟩ := a4.2.2.1 hk h1
  rw [hd, hdd] at hz
  rw [on1, eL]
  rcases hz with ⟨c, er, hE⟩ | ⟨c, er, hE⟩
  · rw [er]
    have u1 : I2 86 15 = I 86 15 := by rw [hE]; simp [px_ur]
    have u2 : I2 86 16 = I 86 16 := by rw [hE]; simp [px_ur]
    have u3 : I2 86 17 = I 86 17 := by rw [hE]; simp [px_ur]
    have u4 : I2 86 2 = d + 1 := by rw [hE]; simp [px_ur]; exact hd
    have eV := cV_e (L := L) u1 u2
    exact k1 c I2 ⟨a1, hI.trans a2, hL, u4, by rw [u3]; exact h17, by rw [eV]; exact hn⟩ eV (by rw [hE, px_u_ne (by decide)]) (by rw [hE, px_u_at]) (fun q hq => by rw [hE, px_u_at_ne hq])
  · rw [er]
    have u1 : I2 86 15 = I 86 15 := by rw [hE]; simp [px_ur]
    have u2 : I2 86 16 = I 86 16 := by rw [hE]; simp [px_ur]
    have u3 : I2 86 17 = I 86 17 := by rw [hE]; simp [px_ur]
    have u4 : I2 86 2 = d := by rw [hE]; simp [px_ur]
    have eV := cV_e (L := L) u1 u2
    exact k2 c I2 ⟨a1, hI.trans a2, hL, u4, by rw [u3]; exact h17, by rw [eV]; exact hn⟩ eV (by rw [hE, px_u_ne (by decide), px_u_ne (by decide)]) (fun q hq => by rw [hE, px_u_ne (by decide), px_u_at_ne hq])
