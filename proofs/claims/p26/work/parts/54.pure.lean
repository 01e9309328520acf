/-! distances: a table that is closed over all ways -/
def fU1 (F : Nat → Int64) (K : Nat) (v : Int64) : Nat → Int64 := fun k => if k = K then (if v < F K then v else F K) else F k
def fSt (F : Nat → Int64) (m i j : Nat) : Nat → Int64 := if F (24 * i + m) < 1000000000000 ∧ F (24 * m + j) < 1000000000000 then fU1 F (24 * i + j) (F (24 * i + m) + F (24 * m + j)) else F
def fRow (F : Nat → Int64) (m i : Nat) : Nat → Nat → Int64
  | 0 => F
  | j + 1 => fSt (fRow F m i j) m i j
def fCol (F : Nat → Int64) (m n : Nat) : Nat → Nat → Int64
  | 0 => F
  | i + 1 => fRow (fCol F m n i) m i n
def fAll (F : Nat → Int64) (n : Nat) : Nat → Nat → Int64
  | 0 => F
  | m + 1 => fCol (fAll F n m) m n n
def fGood (F : Nat → Int64) (n : Nat) : Prop := ∀ i, i < n → 0 ≤ F (25 * i)
def fU (F : Nat → Int64) (m a b : Nat) : Int64 := if F (24 * a + m) < 1000000000000 ∧ F (24 * m + b) < 1000000000000 ∧ F (24 * a + m) + F (24 * m + b) < F (24 * a + b) then F (24 * a + m) + F (24 * m + b) else F (24 * a + b)
theorem fSt_at {F : Nat → Int64} {m i j a b : Nat} (hb : b < 24) (hj : j < 24) : fSt F m i j (24 * a + b) = if a = i ∧ b = j then fU F m i j else F (24 * a + b) := by
  unfold fSt fU
  by_cases h : F (24 * i + m) < 1000000000000 ∧ F (24 * m + j) < 1000000000000
  · rw [if_pos h]
    unfold fU1
    by_cases e : a = i ∧ b = j
    · have e2 : 24 * a + b = 24 * i + j := by omega
      rw [if_pos e, if_pos e2]
      by_cases c : F (24 * i + m) + F (24 * m + j) < F (24 * i + j)
      · rw [if_pos c, if_pos ⟨h.1, h.2, c⟩]
      · rw [if_neg c, if_neg (fun q => c q.2.2)]
    · rw [if_neg (fun q => e (by omega)), if_neg e]
  · rw [if_neg h]
    by_cases e : a = i ∧ b = j
    · obtain ⟨rfl, rfl⟩ := e
      rw [if_pos ⟨rfl, rfl⟩, if_neg (fun q => h ⟨q.1, q.2.1⟩)]
    · rw [if_neg e]
theorem fRow_at {F : Nat → Int64} {m i : Nat} (hm : m < 24) (hU : fU F m i m = F (24 * i + m)) : ∀ j, j ≤ 24 → ∀ a b, b < 24 → fRow F m i j (24 * a + b) = if a = i ∧ b < j then fU F m i b else F (24 * a + b) := by
  intro j
  induction j with
  | zero => intro _ a b _; rw [if_neg (fun q => absurd q.2 (Nat.not_lt_zero _))]; rfl
  | succ j ih =>
    intro hj a b hb
    have ih := ih (by omega)
    show fSt (fRow F m i j) m i j (24 * a + b) = _
    rw [fSt_at hb (by omega)]
    have r1 : fRow F m i j (24 * i + m) = F (24 * i + m) := by
      rw [ih i m hm]
      by_cases c : m < j
      · rw [if_pos ⟨rfl, c⟩, hU]
      · rw [if_neg (fun q => c q.2)]
    have r2 : ∀ a, fRow F m i j (24 * a + j) = F (24 * a + j) := fun a => by
      rw [ih a j (by omega), if_neg (fun q => absurd q.2 (Nat.lt_irrefl _))]
    have rU : fU (fRow F m i j) m i j = fU F m i j := by unfold fU; rw [r1, r2, r2]
    by_cases e : a = i ∧ b = j
    · rw [if_pos e, rU, if_pos ⟨e.1, by omega⟩, e.2]
    · rw [if_neg e, ih a b hb]
      by_cases c : a = i ∧ b < j
      · rw [if_pos c, if_pos ⟨c.1, by omega⟩]
      · rw [if_neg c, if_neg (fun q => c ⟨q.1, by omega⟩)]
theorem fCol_at {F : Nat → Int64} {m n : Nat} (hm : m < 24) (hn : n ≤ 24) (hU : ∀ a, a < n → fU F m a m = F (24 * a + m)) (hR : ∀ b, b < n → fU F m m b = F (24 * m + b)) (hmn : m < n) : ∀ i, i ≤ n → ∀ a b, b < n → fCol F m n i (24 * a + b) = if a < i then fU F m a b else F (24 * a + b) := by
  intro i
  induction i with
  | zero => intro _ a b _; rw [if_neg (Nat.not_lt_zero _)]; rfl
  | succ i ih =>
    intro hi a b hb
    have ih := ih (by omega)
    show fRow (fCol F m n i) m i n (24 * a + b) = _
    have r1 : ∀ b, b < n → fCol F m n i (24 * i + b) = F (24 * i + b) := fun b hb => by rw [ih i b hb, if_neg (Nat.lt_irrefl _)]
    have r2 : ∀ b, b < n → fCol F m n i (24 * m + b) = F (24 * m + b) := fun b hb => by
      rw [ih m b hb]
      by_cases c : m < i
      · rw [if_pos c, hR b hb]
      · rw [if_neg c]
    have rU : ∀ b, b < n → fU (fCol F m n i) m i b = fU F m i b := fun b hb => by unfold fU; rw [r1 m hmn, r2 b hb, r1 b hb]
    rw [fRow_at hm (by rw [rU m hmn, hU i (by omega), r1 m hmn]) n hn a b (by omega)]
    by_cases e : a = i
    · subst e
      rw [if_pos ⟨rfl, hb⟩, rU b hb, if_pos (by omega)]
    · rw [if_neg (fun q => e q.1), ih a b hb]
      by_cases c : a < i
      · rw [if_pos c, if_pos (by omega)]
      · rw [if_neg c, if_neg (by omega)]
/-- how many below m -/
def cnt (P : Nat → Bool) : Nat → Nat
  | 0 => 0
  | m + 1 => cnt P m + if P m = true then 1 else 0
theorem cnt_le (P : Nat → Bool) : ∀ m, cnt P m ≤ m
  | 0 => Nat.le_refl _
  | m + 1 => by
    have := cnt_le P m
    show cnt P m + (if P m = true then 1 else 0) ≤ m + 1
    split <;> omega
theorem cnt_mono {P S : Nat → Bool} : ∀ m, (∀ v, v < m → P v = true → S v = true) → cnt P m ≤ cnt S m
  | 0, _ => Nat.le_refl _
  | m + 1, h => by
    have := cnt_mono m (fun v hv => h v (by omega))
    show cnt P m + (if P m = true then 1 else 0) ≤ cnt S m + (if S m = true then 1 else 0)
    by_cases c : P m = true
    · rw [if_pos c, if_pos (h m (by omega) c)]; omega
    · rw [if_neg c]; omega
theorem cnt_lt {P S : Nat → Bool} {j : Nat} : ∀ m, (∀ v, v < m → P v = true → S v = true) → j < m → P j = false → S j = true → cnt P m + 1 ≤ cnt S m
  | 0, _, h, _, _ => absurd h (Nat.not_lt_zero _)
  | m + 1, h, hj, h1, h2 => by
    show cnt P m + (if P m = true then 1 else 0) + 1 ≤ cnt S m + (if S m = true then 1 else 0)
    by_cases e : j = m
    · subst e
      have := cnt_mono j (fun v hv => h v (by omega))
      rw [if_neg (by rw [h1]; decide), if_pos h2]; omega
    · have := cnt_lt m (fun v hv => h v (by omega)) (by omega) h1 h2
      by_cases c : P m = true
      · rw [if_pos c, if_pos (h m (by omega) c)]; omega
      · rw [if_neg c]; omega
theorem cnt_two {P Q S : Nat → Bool} : ∀ m, (∀ v, v < m → P v = true → Q v = true → False) → (∀ v, v < m → P v = true → S v = true) → (∀ v, v < m → Q v = true → S v = true) → cnt P m + cnt Q m ≤ cnt S m
  | 0, _, _, _ => Nat.le_refl _
  | m + 1, h, h1, h2 => by
    have := cnt_two m (fun v hv => h v (by omega)) (fun v hv => h1 v (by omega)) (fun v hv => h2 v (by omega))
    show cnt P m + (if P m = true then 1 else 0) + (cnt Q m + (if Q m = true then 1 else 0)) ≤ cnt S m + (if S m = true then 1 else 0)
    by_cases c : P m = true
    · have d : ¬ Q m = true := fun d => h m (by omega) c d
      rw [if_pos c, if_neg d, if_pos (h1 m (by omega) c)]; omega
    · by_cases d : Q m = true
      · rw [if_neg c, if_pos d, if_pos (h2 m (by omega) d)]; omega
      · rw [if_neg c, if_neg d]; omega
theorem cnt_all {P : Nat → Bool} : ∀ m, (∀ v, v < m → P v = true) → cnt P m = m
  | 0, _ => rfl
  | m + 1, h => by
    show cnt P m + (if P m = true then 1 else 0) = m + 1
    rw [if_pos (h m (by omega)), cnt_all m (fun v hv => h v (by omega))]
/-- between i and j lies v -/
def fV (G : Nat → Nat → Int) (i j v : Nat) : Bool := decide (G i v < 1000000000000) && decide (G v j < 1000000000000)
theorem fV_iff {G : Nat → Nat → Int} {i j v : Nat} : fV G i j v = true ↔ (G i v < 1000000000000 ∧ G v j < 1000000000000) := by unfold fV; simp
def fInv (G : Nat → Nat → Int) (n m : Nat) (B : Int) : Prop :=
  (∀ i j, i < n → j < n → -B ≤ G i j ∧ G i j ≤ 1000000000000) ∧
  (∀ i j, i < n → j < n → G i j < 1000000000000 → G i j ≤ ((cnt (fV G i j) m : Nat) + 1 : Int) * 1000000) ∧
  (∀ k, k < m → ∀ i j, i < n → j < n → G i k < 1000000000000 → G k j < 1000000000000 → G i j ≤ G i k + G k j) ∧
  (∀ i j, i < n → j < n → G i j < 1000000000000 → G j i < 1000000000000)
def fNx (G : Nat → Nat → Int) (m i j : Nat) : Int := if G i m < 1000000000000 ∧ G m j < 1000000000000 ∧ G i m + G m j < G i j then G i m + G m j else G i j
theorem fNx_le (G : Nat → Nat → Int) (m i j : Nat) : fNx G m i j ≤ G i j := by unfold fNx; split <;> omega
theorem fNx_via {G : Nat → Nat → Int} {m i j : Nat} (h1 : G i m < 1000000000000) (h2 : G m j < 1000000000000) : fNx G m i j ≤ G i m + G m j := by unfold fNx; split <;> omega
theorem fNx_cases (G : Nat → Nat → Int) (m i j : Nat) : fNx G m i j = G i j ∨ (G i m < 1000000000000 ∧ G m j < 1000000000000 ∧ G i m + G m j < G i j ∧ fNx G m i j = G i m + G m j) := by
  unfold fNx; split
  · rename_i h; exact Or.inr ⟨h.1, h.2.1, h.2.2, rfl⟩
  · exact Or.inl rfl
theorem fInv.small {G : Nat → Nat → Int} {n m : Nat} {B : Int} (h : fInv G n m B) (hm : m ≤ 24) {i j : Nat} (hi : i < n) (hj : j < n) (hf : G i j < 1000000000000) : G i j ≤ 25000000 := by
  have h1 := h.2.1 i j hi hj hf
  have h2 := cnt_le (fV G i j) m
  omega
theorem fInv.next {G : Nat → Nat → Int} {n m : Nat} {B : Int} (h : fInv G n m B) (hm : m < n) (hn : n ≤ 24) (hB : 0 ≤ B) (hd : 0 ≤ G m m) : fInv (fNx G m) n (m + 1) (2 * B) := by
  have sm := fun {i j} => h.small (i := i) (j := j) (by omega)
  have hf := fun {i j : Nat} (q : G i j < 1000000000000) => Int.lt_of_le_of_lt (fNx_le G m i j) q
  refine ⟨fun i j hi hj => ?_, fun i j hi hj hfin => ?_, fun k hk i j hi hj h1 h2 => ?_, fun i j hi hj hfin => ?_⟩
  · have b1 := h.1 i j hi hj
    have b2 := h.1 i m hi hm
    have b3 := h.1 m j hm hj
    rcases fNx_cases G m i j with e | ⟨-, -, e1, e⟩ <;> rw [e] <;> omega
  · have key : G i j < 1000000000000 → fNx G m i j ≤ ((cnt (fV (fNx G m) i j) (m + 1) : Nat) + 1 : Int) * 1000000 := fun q => by
      have h1 := h.2.1 i j hi hj q
      have h2 := fNx_le G m i j
      have h3 : cnt (fV G i j) m ≤ cnt (fV (fNx G m) i j) m := cnt_mono m (fun v _ hv => by
        have := fV_iff.mp hv
        exact fV_iff.mpr ⟨hf this.1, hf this.2⟩)
      have h4 : cnt (fV (fNx G m) i j) m ≤ cnt (fV (fNx G m) i j) (m + 1) := Nat.le_add_right _ _
      omega
    by_cases q : G i j < 1000000000000
    · exact key q
    · rcases fNx_cases G m i j with e | ⟨f1, f2, e1, e⟩
      · rw [e] at hfin; exact absurd hfin q
      · have a1 := h.2.1 i m hi hm f1
        have a2 := h.2.1 m j hm hj f2
        have a3 : cnt (fV G i m) m + cnt (fV G m j) m ≤ cnt (fV (fNx G m) i j) m := by
          refine cnt_two m (fun v hv p1 p2 => q ?_) (fun v hv p1 => ?_) (fun v hv p1 => ?_)
          · have p1 := fV_iff.mp p1
            have p2 := fV_iff.mp p2
            have := h.2.2.1 v hv i j hi hj p1.1 p2.2
            have s1 := sm hi (by omega) p1.1
            have s2 := sm (by omega) hj p2.2
            omega
          · have p1 := fV_iff.mp p1
            have s1 := sm (by omega) hm p1.2
            have s2 := sm hm hj f2
            have := fNx_via (G := G) (m := m) (i := v) (j := j) p1.2 f2
            exact fV_iff.mpr ⟨hf p1.1, by omega⟩
          · have p1 := fV_iff.mp p1
            have s1 := sm hi hm f1
            have s2 := sm hm (by omega) p1.1
            have := fNx_via (G := G) (m := m) (i := i) (j := v) f1 p1.1
            exact fV_iff.mpr ⟨by omega, hf p1.2⟩
        have a4 : cnt (fV (fNx G m) i j) (m + 1) = cnt (fV (fNx G m) i j) m + 1 := by
          show _ + (if fV (fNx G m) i j m = true then 1 else 0) = _
          rw [if_pos (fV_iff.mpr ⟨hf f1, hf f2⟩)]
        rw [e, a4]
        omega
  · by_cases e : k = m
    · subst e
      have c1 : fNx G k i k = G i k := by
        rcases fNx_cases G k i k with e | ⟨f1, f2, e1, e⟩
        · exact e
        · omega
      have c2 : fNx G k k j = G k j := by
        rcases fNx_cases G k k j with e | ⟨f1, f2, e1, e⟩
        · exact e
        · omega
      rw [c1] at h1 ⊢
      rw [c2] at h2 ⊢
      exact fNx_via h1 h2
    · have hk : k < m := by omega
      have cl := fun {i j} => h.2.2.1 k hk i j
      have l0 := fNx_le G m i j
      rcases fNx_cases G m i k with e1 | ⟨f1, f2, -, e1⟩
      · rw [e1] at h1 ⊢
        rcases fNx_cases G m k j with e2 | ⟨f3, f4, -, e2⟩
        · rw [e2] at h2 ⊢
          have := cl hi hj h1 h2
          omega
        · rw [e2] at h2 ⊢
          have c1 := cl hi hm h1 f3
          have s1 := sm hi (by omega) h1
          have s2 := sm (by omega) hm f3
          have := fNx_via (G := G) (m := m) (i := i) (j := j) (by omega) f4
          omega
      · rw [e1] at h1 ⊢
        rcases fNx_cases G m k j with e2 | ⟨f3, f4, -, e2⟩
        · rw [e2] at h2 ⊢
          have c1 := cl hm hj f2 h2
          have s1 := sm hm (by omega) f2
          have s2 := sm (by omega) hj h2
          have := fNx_via (G := G) (m := m) (i := i) (j := j) f1 (by omega)
          omega
        · rw [e2] at h2 ⊢
          have c1 := cl hm hm f2 f3
          have := fNx_via (G := G) (m := m) (i := i) (j := j) f1 f4
          omega
  · rcases fNx_cases G m i j with e | ⟨f1, f2, e1, e⟩
    · rw [e] at hfin
      exact hf (h.2.2.2 i j hi hj hfin)
    · have g1 := h.2.2.2 i m hi hm f1
      have g2 := h.2.2.2 m j hm hj f2
      have s1 := sm hm hi g1
      have s2 := sm hj hm g2
      have := fNx_via (G := G) (m := m) (i := j) (j := i) g2 g1
      omega
/-- the table as whole numbers -/
def fG (F : Nat → Int64) (i j : Nat) : Int := (F (24 * i + j)).toInt
theorem px_i64 {x y : Int64} (h1 : -100000000000000 ≤ x.toInt ∧ x.toInt ≤ 1000000000000) (h2 : -100000000000000 ≤ y.toInt ∧ y.toInt ≤ 1000000000000) : (x + y).toInt = x.toInt + y.toInt := by
  rw [Int64.toInt_add]; exact Int.bmod_eq_of_le (by omega) (by omega)
theorem px_far : (1000000000000 : Int64).toInt = 1000000000000 := by decide
theorem fU_G {F : Nat → Int64} {n m i j : Nat} {B : Int} (hB : B ≤ 100000000000000) (h : ∀ i j, i < n → j < n → -B ≤ fG F i j ∧ fG F i j ≤ 1000000000000) (hm : m < n) (hi : i < n) (hj : j < n) : (fU F m i j).toInt = fNx (fG F) m i j := by
  have b1 := h i m hi hm
  have b2 := h m j hm hj
  unfold fG at b1 b2
  have e := px_i64 (x := F (24 * i + m)) (y := F (24 * m + j)) (by omega) (by omega)
  unfold fU fNx
  simp only [Int64.lt_iff_toInt_lt, e, px_far]
  unfold fG
  split
  · exact e
  · rfl
theorem fCol_G {F : Nat → Int64} {n m : Nat} {B : Int} (hB : B ≤ 100000000000000) (h : ∀ i j, i < n → j < n → -B ≤ fG F i j ∧ fG F i j ≤ 1000000000000) (hm : m < n) (hn : n ≤ 24) (hd : 0 ≤ fG F m m) {i j : Nat} (hi : i < n) (hj : j < n) : fG (fCol F m n n) i j = fNx (fG F) m i j := by
  have key : ∀ a b, a < n → b < n → (fU F m a b).toInt = fNx (fG F) m a b := fun a b ha hb => fU_G hB h hm ha hb
  have c := fCol_at (F := F) (by omega : m < 24) hn (fun a ha => Int64.toInt_inj.mp ?_) (fun b hb => Int64.toInt_inj.mp ?_) hm n (Nat.le_refl _) i j hj
  · unfold fG
    rw [c, if_pos hi]
    exact key i j hi hj
  · rw [key a m ha hm]
    rcases fNx_cases (fG F) m a m with e | ⟨f1, f2, e1, e⟩
    · exact e
    · omega
  · rw [key m b hm hb]
    rcases fNx_cases (fG F) m m b with e | ⟨f1, f2, e1, e⟩
    · exact e
    · omega
theorem fSt_mono (F : Nat → Int64) (m i j k : Nat) : (fSt F m i j k).toInt ≤ (F k).toInt := by
  unfold fSt fU1
  split
  · show (if k = 24 * i + j then _ else _ : Int64).toInt ≤ _
    split
    · rename_i e; subst e
      split
      · rename_i h; exact Int.le_of_lt (Int64.lt_iff_toInt_lt.mp h)
      · exact Int.le_refl _
    · exact Int.le_refl _
  · exact Int.le_refl _
theorem fRow_mono (F : Nat → Int64) (m i k : Nat) : ∀ j, (fRow F m i j k).toInt ≤ (F k).toInt
  | 0 => Int.le_refl _
  | j + 1 => Int.le_trans (fSt_mono _ m i j k) (fRow_mono F m i k j)
theorem fCol_mono (F : Nat → Int64) (m n k : Nat) : ∀ i, (fCol F m n i k).toInt ≤ (F k).toInt
  | 0 => Int.le_refl _
  | i + 1 => Int.le_trans (fRow_mono _ m i k n) (fCol_mono F m n k i)
theorem fAll_mono (F : Nat → Int64) (n m k : Nat) : ∀ d, (fAll F n (m + d) k).toInt ≤ (fAll F n m k).toInt
  | 0 => Int.le_refl _
  | d + 1 => Int.le_trans (fCol_mono _ (m + d) n k n) (fAll_mono F n m k d)
/-- where no place of the middle row is below 0 at the end, the table is closed -/
theorem fAll_inv {F : Nat → Int64} {n : Nat} (hn : n ≤ 24) (h0 : ∀ i j, i < n → j < n → (-1000000 ≤ fG F i j ∧ fG F i j ≤ 1000000000000) ∧ (fG F i j < 1000000000000 → fG F i j ≤ 1000000) ∧ (fG F i j < 1000000000000 → fG F j i < 1000000000000)) (hg : fGood (fAll F n n) n) : fInv (fG (fAll F n n)) n n (1000000 * 2 ^ n) := by
  have step : ∀ m, m ≤ n → fInv (fG (fAll F n m)) n m (1000000 * 2 ^ m) := by
    intro m
    induction m with
    | zero =>
      intro _
      refine ⟨fun i j hi hj => ?_, fun i j hi hj hf => ?_, fun k hk => absurd hk (Nat.not_lt_zero _), fun i j hi hj hf => (h0 i j hi hj).2.2 hf⟩
      · have := (h0 i j hi hj).1
        show -(1000000 * 2 ^ 0) ≤ fG F i j ∧ fG F i j ≤ _
        omega
      · have := (h0 i j hi hj).2.1 hf
        have c : cnt (fV (fG (fAll F n 0)) i j) 0 = 0 := rfl
        rw [c]
        show fG F i j ≤ _
        omega
    | succ m ih =>
      intro hm
      have ih := ih (by omega)
      have p1 : (2 : Nat) ^ m ≤ 2 ^ 24 := Nat.pow_le_pow_right (by decide) (by omega)
      have p2 : ((2 ^ m : Nat) : Int) = (2 : Int) ^ m := by rw [Int.natCast_pow]; rfl
      have p3 : (2 : Int) ^ (m + 1) = 2 * 2 ^ m := by rw [Int.pow_succ, Int.mul_comm]
      have p4 : (2 : Nat) ^ 24 = 16777216 := by decide
      have p5 : 0 ≤ (2 : Int) ^ m := by rw [← p2]; exact Int.natCast_nonneg _
      have hd : 0 ≤ fG (fAll F n m) m m := by
        have a1 := Int64.le_iff_toInt_le.mp (hg m (by omega))
        have a2 := fAll_mono F n m (25 * m) (n - m)
        rw [show m + (n - m) = n by omega] at a2
        rw [show (0 : Int64).toInt = 0 by decide] at a1
        unfold fG
        rw [show 24 * m + m = 25 * m by omega]
        omega
      have nx := ih.next (by omega) hn (by omega) hd
      have eq : ∀ i j, i < n → j < n → fG (fAll F n (m + 1)) i j = fNx (fG (fAll F n m)) m i j := fun i j hi hj => fCol_G (B := 1000000 * 2 ^ m) (by omega) ih.1 (by omega) hn hd hi hj
      rw [p3, show (1000000 : Int) * (2 * 2 ^ m) = 2 * (1000000 * 2 ^ m) by omega]
      have cv : ∀ i j, i < n → j < n → cnt (fV (fNx (fG (fAll F n m)) m) i j) (m + 1) ≤ cnt (fV (fG (fAll F n (m + 1))) i j) (m + 1) := fun i j hi hj => cnt_mono _ (fun v hv q => by
        have q := fV_iff.mp q
        exact fV_iff.mpr ⟨by rw [eq i v hi (by omega)]; exact q.1, by rw [eq v j (by omega) hj]; exact q.2⟩)
      refine ⟨fun i j hi hj => ?_, fun i j hi hj hf => ?_, fun k hk i j hi hj h1 h2 => ?_, fun i j hi hj hf => ?_⟩
      · rw [eq i j hi hj]; exact nx.1 i j hi hj
      · rw [eq i j hi hj] at hf
        have a1 := nx.2.1 i j hi hj hf
        have a2 := cv i j hi hj
        rw [eq i j hi hj]
        omega
      · rw [eq i k hi (by omega)] at h1
        rw [eq k j (by omega) hj] at h2
        rw [eq i j hi hj, eq i k hi (by omega), eq k j (by omega) hj]
        exact nx.2.2.1 k hk i j hi hj h1 h2
      · rw [eq i j hi hj] at hf
        rw [eq j i hj hi]
        exact nx.2.2.2 i j hi hj hf
  exact step n (Nat.le_refl _)
/-- heights that keep to a table keep to what is made of it -/
def fOk (F : Nat → Int64) (n : Nat) (t : Nat → Int) : Prop := ∀ i j, i < n → j < n → t j - t i ≤ fG F i j ∧ fG F i j ≤ 1000000000000
theorem fSt_ok {F : Nat → Int64} {n m i j : Nat} {t : Nat → Int} (ht : ∀ i, i < n → -10000000000 ≤ t i ∧ t i ≤ 10000000000) (h : fOk F n t) (hn : n ≤ 24) (hm : m < n) (hi : i < n) (hj : j < n) : fOk (fSt F m i j) n t := by
  intro a b ha hb
  have h0 := h a b ha hb
  have h1 := h i m hi hm
  have h2 := h m j hm hj
  have t1 := ht i hi
  have t2 := ht m hm
  have t3 := ht j hj
  unfold fG at h0 h1 h2 ⊢
  rw [fSt_at (by omega) (by omega)]
  split
  · rename_i e; obtain ⟨rfl, rfl⟩ := e
    unfold fU
    split
    · rename_i c
      have e := px_i64 (x := F (24 * a + m)) (y := F (24 * m + b)) (by omega) (by omega)
      have c3 := Int64.lt_iff_toInt_lt.mp c.2.2
      rw [e] at c3 ⊢
      omega
    · exact h0
  · exact h0
theorem fRow_ok {F : Nat → Int64} {n m i : Nat} {t : Nat → Int} (ht : ∀ i, i < n → -10000000000 ≤ t i ∧ t i ≤ 10000000000) (h : fOk F n t) (hn : n ≤ 24) (hm : m < n) (hi : i < n) : ∀ j, j ≤ n → fOk (fRow F m i j) n t
  | 0, _ => h
  | j + 1, hj => fSt_ok ht (fRow_ok ht h hn hm hi j (by omega)) hn hm hi (by omega)
theorem fCol_ok {F : Nat → Int64} {n m : Nat} {t : Nat → Int} (ht : ∀ i, i < n → -10000000000 ≤ t i ∧ t i ≤ 10000000000) (h : fOk F n t) (hn : n ≤ 24) (hm : m < n) : ∀ i, i ≤ n → fOk (fCol F m n i) n t
  | 0, _ => h
  | i + 1, hi => fRow_ok ht (fCol_ok ht h hn hm i (by omega)) hn hm (by omega) n (Nat.le_refl _)
theorem fAll_ok {F : Nat → Int64} {n : Nat} {t : Nat → Int} (ht : ∀ i, i < n → -10000000000 ≤ t i ∧ t i ≤ 10000000000) (h : fOk F n t) (hn : n ≤ 24) : ∀ m, m ≤ n → fOk (fAll F n m) n t
  | 0, _ => h
  | m + 1, hm => fCol_ok ht (fAll_ok ht h hn m (by omega)) hn (by omega) n (Nat.le_refl _)
theorem fOk.good {F : Nat → Int64} {n : Nat} {t : Nat → Int} (h : fOk F n t) : fGood F n := fun i hi => by
  have := (h i i hi hi).1
  unfold fG at this
  rw [show 24 * i + i = 25 * i by omega] at this
  rw [Int64.le_iff_toInt_le, show (0 : Int64).toInt = 0 by decide]
  omega
/-! distances: a row that is shortened till it stands -/
def sH (d : Nat → Int64) (i j : Nat) (w : Int64) : Nat → Int64 := if d i ≠ 1000000000000 ∧ d i + w < d j then (fun k => if k = j then d i + w else d k) else d
def sA (A : Nat → Bool) (f t : Nat → Nat) (p q : Nat → Int64) (d : Nat → Int64) : Nat → Nat → Int64
  | 0 => d
  | k + 1 => if A k = true then sH (sH (sA A f t p q d k) (f k) (t k) (p k)) (t k) (f k) (q k) else sA A f t p q d k
def sR (A : Nat → Bool) (f t : Nat → Nat) (p q : Nat → Int64) (c : Nat) (d : Nat → Int64) : Nat → Nat → Int64
  | 0 => d
  | r + 1 => sA A f t p q (sR A f t p q c d r) c
def sFx (A : Nat → Bool) (f t : Nat → Nat) (p q : Nat → Int64) (c : Nat) (d : Nat → Int64) : Prop := ∀ k, k < c → A k = true → ¬ (d (f k) ≠ 1000000000000 ∧ d (f k) + p k < d (t k)) ∧ ¬ (d (t k) ≠ 1000000000000 ∧ d (t k) + q k < d (f k))
theorem sH_no {d : Nat → Int64} {i j : Nat} {w : Int64} (h : ¬ (d i ≠ 1000000000000 ∧ d i + w < d j)) : sH d i j w = d := if_neg h
theorem sA_fx {A : Nat → Bool} {f t : Nat → Nat} {p q : Nat → Int64} {c : Nat} {d : Nat → Int64} (h : sFx A f t p q c d) : ∀ k, k ≤ c → sA A f t p q d k = d
  | 0, _ => rfl
  | k + 1, hk => by
    have ih := sA_fx h k (by omega)
    show (if A k = true then sH (sH (sA A f t p q d k) (f k) (t k) (p k)) (t k) (f k) (q k) else sA A f t p q d k) = d
    rw [ih]
    split
    · rename_i hA
      have e := h k (by omega) hA
      rw [sH_no e.1, sH_no e.2]
    · rfl
theorem sR_fx {A : Nat → Bool} {f t : Nat → Nat} {p q : Nat → Int64} {c : Nat} {d : Nat → Int64} {r : Nat} (h : sFx A f t p q c (sR A f t p q c d r)) : ∀ m, sR A f t p q c d (r + m) = sR A f t p q c d r
  | 0 => rfl
  | m + 1 => by
    show sA A f t p q (sR A f t p q c d (r + m)) c = _
    rw [sR_fx h m, sA_fx h c (Nat.le_refl _)]
theorem sH_mono (d : Nat → Int64) (i j : Nat) (w : Int64) (k : Nat) : (sH d i j w k).toInt ≤ (d k).toInt := by
  unfold sH
  split
  · rename_i h
    show (if k = j then _ else _ : Int64).toInt ≤ _
    split
    · rename_i e; rw [e]; exact Int.le_of_lt (Int64.lt_iff_toInt_lt.mp h.2)
    · exact Int.le_refl _
  · exact Int.le_refl _
theorem sA_mono (A : Nat → Bool) (f t : Nat → Nat) (p q : Nat → Int64) (d : Nat → Int64) (j k : Nat) : ∀ m, (sA A f t p q d (k + m) j).toInt ≤ (sA A f t p q d k j).toInt
  | 0 => Int.le_refl _
  | m + 1 => by
    refine Int.le_trans ?_ (sA_mono A f t p q d j k m)
    show (ite (A (k + m) = true) (sH (sH (sA A f t p q d (k + m)) (f (k + m)) (t (k + m)) (p (k + m))) (t (k + m)) (f (k + m)) (q (k + m))) (sA A f t p q d (k + m)) j).toInt ≤ _
    split
    · exact Int.le_trans (sH_mono _ _ _ _ _) (sH_mono _ _ _ _ _)
    · exact Int.le_refl _
theorem sR_mono (A : Nat → Bool) (f t : Nat → Nat) (p q : Nat → Int64) (c : Nat) (d : Nat → Int64) (j : Nat) : ∀ r, (sR A f t p q c d r j).toInt ≤ (d j).toInt
  | 0 => Int.le_refl _
  | r + 1 => by
    have h := sA_mono A f t p q (sR A f t p q c d r) j 0 c
    rw [Nat.zero_add] at h
    exact Int.le_trans h (sR_mono A f t p q c d j r)
/-- what the sights are: both ends stand, the bounds are small -/
def sOk (n c : Nat) (A : Nat → Bool) (f t : Nat → Nat) (p q : Nat → Int64) : Prop := ∀ k, k < c → A k = true → (f k < n ∧ t k < n) ∧ (-1000000 ≤ (p k).toInt ∧ (p k).toInt ≤ 1000000) ∧ (-1000000 ≤ (q k).toInt ∧ (q k).toInt ≤ 1000000)
/-- heights that keep to all sights, where Rc holds -/
def sFe (c : Nat) (A : Nat → Bool) (f t : Nat → Nat) (p q : Nat → Int64) (Rc : Nat → Bool) (P : Nat → Int) : Prop := ∀ k, k < c → A k = true → Rc (f k) = Rc (t k) ∧ (Rc (f k) = true → P (t k) ≤ P (f k) + (p k).toInt ∧ P (f k) ≤ P (t k) + (q k).toInt)
def sI (n : Nat) (Rc : Nat → Bool) (P : Nat → Int) (d : Nat → Int64) : Prop := ∀ j, j < n → (Rc j = true → P j ≤ (d j).toInt) ∧ (Rc j = false → d j = 1000000000000) ∧ (d j).toInt ≤ 1000000000000
theorem sI.H {n : Nat} {Rc : Nat → Bool} {P : Nat → Int} {d : Nat → Int64} {i j : Nat} {w : Int64} (h : sI n Rc P d) (hP : ∀ j, j < n → Rc j = true → -30000000 ≤ P j ∧ P j ≤ 30000000) (hi : i < n) (hj : j < n) (hw : -1000000 ≤ w.toInt ∧ w.toInt ≤ 1000000) (e : Rc i = Rc j) (hf : Rc i = true → P j ≤ P i + w.toInt) : sI n Rc P (sH d i j w) := by
  unfold sH
  split
  · rename_i c
    intro k hk
    show (Rc k = true → P k ≤ (if k = j then d i + w else d k : Int64).toInt) ∧ (Rc k = false → (if k = j then d i + w else d k : Int64) = 1000000000000) ∧ (if k = j then d i + w else d k : Int64).toInt ≤ 1000000000000
    by_cases q : k = j
    · subst q
      rw [if_pos rfl]
      have h1 := h i hi
      have c2 := Int64.lt_iff_toInt_lt.mp c.2
      cases r : Rc i with
      | false => exact absurd (h1.2.1 r) c.1
      | true =>
        have h2 := h1.1 r
        have h3 := hP i hi r
        have e1 := px_i64 (x := d i) (y := w) (by omega) (by omega)
        rw [e1] at c2 ⊢
        have h4 := (h k hk).2.2
        have h5 := hf r
        exact ⟨fun _ => by omega, fun r2 => absurd (e.symm.trans r) (by rw [r2]; decide), by omega⟩
    · rw [if_neg q]; exact h k hk
  · exact h
theorem sI.A {n c : Nat} {A : Nat → Bool} {f t : Nat → Nat} {p q : Nat → Int64} {Rc : Nat → Bool} {P : Nat → Int} {d : Nat → Int64} (h : sI n Rc P d) (hP : ∀ j, j < n → Rc j = true → -30000000 ≤ P j ∧ P j ≤ 30000000) (ho : sOk n c A f t p q) (hf : sFe c A f t p q Rc P) : ∀ k, k ≤ c → sI n Rc P (sA A f t p q d k)
  | 0, _ => h
  | k + 1, hk => by
    have ih := sI.A h hP ho hf k (by omega)
    show sI n Rc P (if A k = true then sH (sH (sA A f t p q d k) (f k) (t k) (p k)) (t k) (f k) (q k) else sA A f t p q d k)
    split
    · rename_i hA
      obtain ⟨⟨o1, o2⟩, o3, o4⟩ := ho k (by omega) hA
      obtain ⟨g1, g2⟩ := hf k (by omega) hA
      exact (ih.H hP o1 o2 o3 g1 (fun r => (g2 r).1)).H hP o2 o1 o4 g1.symm (fun r => (g2 (g1.trans r)).2)
    · exact ih
theorem sI.R {n c : Nat} {A : Nat → Bool} {f t : Nat → Nat} {p q : Nat → Int64} {Rc : Nat → Bool} {P : Nat → Int} {d : Nat → Int64} (h : sI n Rc P d) (hP : ∀ j, j < n → Rc j = true → -30000000 ≤ P j ∧ P j ≤ 30000000) (ho : sOk n c A f t p q) (hf : sFe c A f t p q Rc P) : ∀ r, sI n Rc P (sR A f t p q c d r)
  | 0 => h
  | r + 1 => (sI.R h hP ho hf r).A hP ho hf c (Nat.le_refl _)
/-- an edge that is looked at leaves no shorter way over it -/
theorem sH_via {d : Nat → Int64} {i j : Nat} {w : Int64} (h1 : d i ≠ 1000000000000) (hs : (d i + w).toInt = (d i).toInt + w.toInt) : (sH d i j w j).toInt ≤ (d i).toInt + w.toInt := by
  unfold sH
  by_cases c : d i ≠ 1000000000000 ∧ d i + w < d j
  · rw [if_pos c]
    show (if j = j then d i + w else d j : Int64).toInt ≤ _
    rw [if_pos rfl, hs]
    exact Int.le_refl _
  · rw [if_neg c]
    have : ¬ d i + w < d j := fun q => c ⟨h1, q⟩
    rw [Int64.lt_iff_toInt_lt, hs] at this
    omega
theorem sA_via {n c : Nat} {A : Nat → Bool} {f t : Nat → Nat} {p q : Nat → Int64} {Rc : Nat → Bool} {P : Nat → Int} {d : Nat → Int64} (h : sI n Rc P d) (hP : ∀ j, j < n → Rc j = true → -30000000 ≤ P j ∧ P j ≤ 30000000) (ho : sOk n c A f t p q) (hf : sFe c A f t p q Rc P) {k : Nat} (hk : k < c) (hA : A k = true) :
    (Rc (f k) = true → (d (f k)).toInt = P (f k) → (sA A f t p q d c (t k)).toInt ≤ P (f k) + (p k).toInt) ∧ (Rc (t k) = true → (d (t k)).toInt = P (t k) → (sA A f t p q d c (f k)).toInt ≤ P (t k) + (q k).toInt) := by
  have ih := h.A hP ho hf k (by omega)
  obtain ⟨⟨o1, o2⟩, o3, o4⟩ := ho k hk hA
  obtain ⟨g1, g2⟩ := hf k hk hA
  have ih2 := ih.H hP o1 o2 o3 g1 (fun r => (g2 r).1)
  have st : sA A f t p q d (k + 1) = sH (sH (sA A f t p q d k) (f k) (t k) (p k)) (t k) (f k) (q k) := if_pos hA
  have mo : ∀ j, (sA A f t p q d c j).toInt ≤ (sA A f t p q d (k + 1) j).toInt := fun j => by
    have := sA_mono A f t p q d j (k + 1) (c - (k + 1))
    rw [show k + 1 + (c - (k + 1)) = c by omega] at this
    exact this
  have ms : ∀ j, (sA A f t p q d k j).toInt ≤ (d j).toInt := fun j => by
    have := sA_mono A f t p q d j 0 k
    rw [Nat.zero_add] at this
    exact this
  have nf : ∀ x : Int64, x.toInt ≤ 30000000 → x ≠ 1000000000000 := fun x hx e => by rw [e, px_far] at hx; omega
  refine ⟨fun r e => ?_, fun r e => ?_⟩
  · have b := hP _ o1 r
    have v1 := (ih _ o1).1 r
    have v2 := ms (f k)
    have s := sH_via (d := sA A f t p q d k) (i := f k) (j := t k) (w := p k) (nf _ (by omega)) (px_i64 (by omega) (by omega))
    have m1 := mo (t k)
    rw [st] at m1
    have m2 := sH_mono (sH (sA A f t p q d k) (f k) (t k) (p k)) (t k) (f k) (q k) (t k)
    omega
  · have b := hP _ o2 r
    have v1 := (ih2 _ o2).1 r
    have v2 := ms (t k)
    have v3 := sH_mono (sA A f t p q d k) (f k) (t k) (p k) (t k)
    have s := sH_via (d := sH (sA A f t p q d k) (f k) (t k) (p k)) (i := t k) (j := f k) (w := q k) (nf _ (by omega)) (px_i64 (by omega) (by omega))
    have m1 := mo (f k)
    rw [st] at m1
    omega
def sS (n : Nat) (Rc : Nat → Bool) (P : Nat → Int) (d : Nat → Int64) (j : Nat) : Bool := Rc j && decide ((d j).toInt = P j)
theorem sS_iff {n : Nat} {Rc : Nat → Bool} {P : Nat → Int} {d : Nat → Int64} {j : Nat} : sS n Rc P d j = true ↔ (Rc j = true ∧ (d j).toInt = P j) := by unfold sS; simp
/-- it stands after as many rounds as there are stations -/
theorem sR_conv {n c : Nat} {A : Nat → Bool} {f t : Nat → Nat} {p q : Nat → Int64} {Rc : Nat → Bool} {P : Nat → Int} {d : Nat → Int64} (h : sI n Rc P d) (hP : ∀ j, j < n → Rc j = true → -30000000 ≤ P j ∧ P j ≤ 30000000) (ho : sOk n c A f t p q) (hf : sFe c A f t p q Rc P)
    (mx : ∀ u : Nat → Int, (∀ j, j < n → Rc j = true → P j ≤ u j ∧ u j ≤ P j + 1) → sFe c A f t p q Rc u → (∀ j, j < n → Rc j = true → u j ≤ (d j).toInt) → ∀ j, j < n → Rc j = true → u j ≤ P j) :
    ∀ j, j < n → Rc j = true → (sR A f t p q c d n j).toInt = P j := by
  have key : ∀ r, (∀ j, j < n → Rc j = true → (sR A f t p q c d r j).toInt = P j) ∨ r ≤ cnt (sS n Rc P (sR A f t p q c d r)) n := by
    intro r
    induction r with
    | zero => exact Or.inr (Nat.zero_le _)
    | succ r ih =>
      have hr := h.R hP ho hf r
      have hr1 := h.R hP ho hf (r + 1)
      have mo : ∀ j, (sR A f t p q c d (r + 1) j).toInt ≤ (sR A f t p q c d r j).toInt := fun j => by
        have := sA_mono A f t p q (sR A f t p q c d r) j 0 c
        rw [Nat.zero_add] at this
        exact this
      have keep : ∀ j, j < n → Rc j = true → (sR A f t p q c d r j).toInt = P j → (sR A f t p q c d (r + 1) j).toInt = P j := fun j hj r1 e => by
        have := (hr1 j hj).1 r1
        have := mo j
        omega
      by_cases all : ∀ j, j < n → Rc j = true → (sR A f t p q c d r j).toInt = P j
      · exact Or.inl (fun j hj r1 => keep j hj r1 (all j hj r1))
      · have ih := ih.resolve_left all
        refine Or.inr (Nat.le_trans (Nat.succ_le_succ ih) ?_)
        -- some edge leads out of those that are right already
        have ex : ∃ j, j < n ∧ Rc j = true ∧ (sR A f t p q c d r j).toInt ≠ P j ∧ (sR A f t p q c d (r + 1) j).toInt = P j := by
          apply Classical.byContradiction
          intro no
          have no : ∀ j, j < n → Rc j = true → (sR A f t p q c d r j).toInt ≠ P j → P j < (sR A f t p q c d (r + 1) j).toInt := fun j hj r1 e => by
            have a1 := (hr1 j hj).1 r1
            have a2 : (sR A f t p q c d (r + 1) j).toInt ≠ P j := fun e2 => no ⟨j, hj, r1, e, e2⟩
            omega
          apply all
          intro j hj r1
          apply Classical.byContradiction
          intro e
          have u := mx (fun j => if (sR A f t p q c d r j).toInt = P j then P j else P j + 1) (fun j hj r1 => by show P j ≤ (if (sR A f t p q c d r j).toInt = P j then P j else P j + 1) ∧ (if (sR A f t p q c d r j).toInt = P j then P j else P j + 1) ≤ P j + 1; split <;> omega) ?_ (fun j hj r1 => ?_) j hj r1
          · simp only [if_neg e] at u
            omega
          · intro k hk hA
            obtain ⟨⟨o1, o2⟩, o3, o4⟩ := ho k hk hA
            obtain ⟨g1, g2⟩ := hf k hk hA
            refine ⟨g1, fun r2 => ?_⟩
            have r3 := g1.symm.trans r2
            obtain ⟨w1, w2⟩ := g2 r2
            obtain ⟨v1, v2⟩ := sA_via hr hP ho hf hk hA
            have n1 := no _ o1 r2
            have n2 := no _ o2 r3
            show (if (sR A f t p q c d r (t k)).toInt = P (t k) then P (t k) else P (t k) + 1) ≤ (if (sR A f t p q c d r (f k)).toInt = P (f k) then P (f k) else P (f k) + 1) + (p k).toInt ∧ (if (sR A f t p q c d r (f k)).toInt = P (f k) then P (f k) else P (f k) + 1) ≤ (if (sR A f t p q c d r (t k)).toInt = P (t k) then P (t k) else P (t k) + 1) + (q k).toInt
            have v1 : (sR A f t p q c d r (f k)).toInt = P (f k) → (sR A f t p q c d (r + 1) (t k)).toInt ≤ P (f k) + (p k).toInt := v1 r2
            have v2 : (sR A f t p q c d r (t k)).toInt = P (t k) → (sR A f t p q c d (r + 1) (f k)).toInt ≤ P (t k) + (q k).toInt := v2 r3
            by_cases c1 : (sR A f t p q c d r (f k)).toInt = P (f k)
            · have v1 := v1 c1
              by_cases c2 : (sR A f t p q c d r (t k)).toInt = P (t k)
              · rw [if_pos c1, if_pos c2]; omega
              · have n2 := n2 c2
                rw [if_pos c1, if_neg c2]; omega
            · have n1 := n1 c1
              by_cases c2 : (sR A f t p q c d r (t k)).toInt = P (t k)
              · have v2 := v2 c2
                rw [if_neg c1, if_pos c2]; omega
              · rw [if_neg c1, if_neg c2]; omega
          · have a1 := (hr j hj).1 r1
            have a2 := sR_mono A f t p q c d j r
            show (if (sR A f t p q c d r j).toInt = P j then P j else P j + 1) ≤ (d j).toInt
            split <;> omega
        obtain ⟨j, hj, r1, e1, e2⟩ := ex
        refine cnt_lt (j := j) n (fun v hv q => ?_) hj ?_ (sS_iff.mpr ⟨r1, e2⟩)
        · have q := sS_iff.mp q
          exact sS_iff.mpr ⟨q.1, keep v hv q.1 q.2⟩
        · cases z : sS n Rc P (sR A f t p q c d r) j with
          | false => rfl
          | true => exact absurd (sS_iff.mp z).2 e1
  rcases key n with h | h
  · exact h
  · intro j hj r1
    apply Classical.byContradiction
    intro e
    have a : cnt (sS n Rc P (sR A f t p q c d n)) n + 1 ≤ cnt (fun _ => true) n := cnt_lt (j := j) n (fun _ _ _ => rfl) hj (by
      cases z : sS n Rc P (sR A f t p q c d n) j with
      | false => rfl
      | true => exact absurd (sS_iff.mp z).2 e) rfl
    rw [cnt_all n (fun _ _ => rfl)] at a
    omega
theorem sI.fx {n c : Nat} {A : Nat → Bool} {f t : Nat → Nat} {p q : Nat → Int64} {Rc : Nat → Bool} {P : Nat → Int} {d : Nat → Int64} (h : sI n Rc P d) (hP : ∀ j, j < n → Rc j = true → -30000000 ≤ P j ∧ P j ≤ 30000000) (ho : sOk n c A f t p q) (hf : sFe c A f t p q Rc P) (he : ∀ j, j < n → Rc j = true → (d j).toInt = P j) : sFx A f t p q c d := by
  intro k hk hA
  obtain ⟨⟨o1, o2⟩, o3, o4⟩ := ho k hk hA
  obtain ⟨g1, g2⟩ := hf k hk hA
  cases r : Rc (f k) with
  | false => exact ⟨fun z => z.1 ((h _ o1).2.1 r), fun z => z.1 ((h _ o2).2.1 (g1.symm.trans r))⟩
  | true =>
    have r3 := g1.symm.trans r
    obtain ⟨w1, w2⟩ := g2 r
    have e1 := he _ o1 r
    have e2 := he _ o2 r3
    have b1 := hP _ o1 r
    have b2 := hP _ o2 r3
    refine ⟨fun z => ?_, fun z => ?_⟩
    · have z2 := Int64.lt_iff_toInt_lt.mp z.2
      rw [px_i64 (by omega) (by omega)] at z2
      omega
    · have z2 := Int64.lt_iff_toInt_lt.mp z.2
      rw [px_i64 (by omega) (by omega)] at z2
      omega
/-! distances: the table of the sights, and that both ways of looking agree -/
def gI : Nat → Int64 := fun k => if k / 24 = k % 24 then 0 else 1000000000000
def gS (A : Nat → Bool) (f t : Nat → Nat) (p q : Nat → Int64) : Nat → Nat → Int64
  | 0 => gI
  | k + 1 => if A k = true then fU1 (fU1 (gS A f t p q k) (24 * f k + t k) (p k)) (24 * t k + f k) (q k) else gS A f t p q k
theorem gI_at {i j : Nat} (hj : j < 24) : gI (24 * i + j) = if i = j then 0 else 1000000000000 := by
  unfold gI
  rw [show (24 * i + j) / 24 = i by omega, show (24 * i + j) % 24 = j by omega]
/-- what every table of sights is -/
def gB (F : Nat → Int64) (n : Nat) : Prop := ∀ i j, i < n → j < n → (-1000000 ≤ fG F i j ∧ fG F i j ≤ 1000000000000) ∧ (fG F i j < 1000000000000 → fG F i j ≤ 1000000) ∧ (fG F i j < 1000000000000 → fG F j i < 1000000000000)
theorem fU1_at {F : Nat → Int64} {a b i j : Nat} {v : Int64} (hb : b < 24) (hj : j < 24) : fU1 F (24 * a + b) v (24 * i + j) = if i = a ∧ j = b then (if v < F (24 * a + b) then v else F (24 * a + b)) else F (24 * i + j) := by
  unfold fU1
  by_cases e : i = a ∧ j = b
  · rw [if_pos e, if_pos (by rw [e.1, e.2])]
  · rw [if_neg e, if_neg (fun z => e (by omega))]
theorem fU1_le {F : Nat → Int64} {K k : Nat} {v : Int64} : (fU1 F K v k).toInt ≤ (F k).toInt := by
  unfold fU1
  split
  · rename_i e; subst e
    split
    · rename_i h; exact Int.le_of_lt (Int64.lt_iff_toInt_lt.mp h)
    · exact Int.le_refl _
  · exact Int.le_refl _
theorem fU1_v {F : Nat → Int64} {K : Nat} {v : Int64} : (fU1 F K v K).toInt ≤ v.toInt := by
  unfold fU1
  rw [if_pos rfl]
  split
  · exact Int.le_refl _
  · rename_i h; rw [Int64.lt_iff_toInt_lt] at h; omega
theorem gB.two {F : Nat → Int64} {n a b : Nat} {v w : Int64} (h : gB F n) (hn : n ≤ 24) (ha : a < n) (hb : b < n) (hv : -1000000 ≤ v.toInt ∧ v.toInt ≤ 1000000) (hw : -1000000 ≤ w.toInt ∧ w.toInt ≤ 1000000) : gB (fU1 (fU1 F (24 * a + b) v) (24 * b + a) w) n := by
  have c : ∀ i j, i < n → j < n → (fG (fU1 (fU1 F (24 * a + b) v) (24 * b + a) w) i j = fG F i j ∧ ¬ (i = a ∧ j = b) ∧ ¬ (i = b ∧ j = a)) ∨ (((i = a ∧ j = b) ∨ (i = b ∧ j = a)) ∧ -1000000 ≤ fG (fU1 (fU1 F (24 * a + b) v) (24 * b + a) w) i j ∧ fG (fU1 (fU1 F (24 * a + b) v) (24 * b + a) w) i j ≤ 1000000) := by
    intro i j hi hj
    have b1 := (h i j hi hj).1
    have b2 := (h a b ha hb).1
    have b3 := (h b a hb ha).1
    unfold fG at b1 b2 b3 ⊢
    rw [fU1_at (by omega) (by omega), fU1_at (by omega) (by omega), fU1_at (by omega) (by omega)]
    by_cases e2 : i = b ∧ j = a
    · rw [if_pos e2]
      refine Or.inr ⟨Or.inr e2, ?_⟩
      by_cases e3 : b = a ∧ a = b
      · rw [if_pos e3]
        (repeat' split) <;> simp only [Int64.lt_iff_toInt_lt] at * <;> omega
      · rw [if_neg e3]
        (repeat' split) <;> simp only [Int64.lt_iff_toInt_lt] at * <;> omega
    · rw [if_neg e2]
      by_cases e1 : i = a ∧ j = b
      · rw [if_pos e1]
        refine Or.inr ⟨Or.inl e1, ?_⟩
        (repeat' split) <;> simp only [Int64.lt_iff_toInt_lt] at * <;> omega
      · rw [if_neg e1]
        exact Or.inl ⟨rfl, e1, e2⟩
  intro i j hi hj
  have b1 := h i j hi hj
  rcases c i j hi hj with ⟨e, n1, n2⟩ | ⟨m, e⟩
  · rw [e]
    rcases c j i hj hi with ⟨e2, -, -⟩ | ⟨m2, -⟩
    · rw [e2]; exact b1
    · exact absurd m2 (by omega)
  · rcases c j i hj hi with ⟨e2, n1, n2⟩ | ⟨m2, e3⟩
    · exact absurd m (by omega)
    · exact ⟨by omega, fun _ => by omega, fun _ => by omega⟩
theorem gI_B {n : Nat} (hn : n ≤ 24) : gB gI n := by
  have e : ∀ i j, j < 24 → fG gI i j = if i = j then 0 else 1000000000000 := fun i j hj => by
    unfold fG
    rw [gI_at hj]
    split
    · decide
    · exact px_far
  intro i j hi hj
  rw [e i j (by omega), e j i (by omega)]
  refine ⟨by split <;> omega, fun z => ?_, fun z => ?_⟩
  · split at z <;> omega
  · by_cases q : i = j
    · rw [if_pos q.symm]; omega
    · rw [if_neg q] at z; omega
theorem gS_B {n c : Nat} {A : Nat → Bool} {f t : Nat → Nat} {p q : Nat → Int64} (hn : n ≤ 24) (ho : sOk n c A f t p q) : ∀ k, k ≤ c → gB (gS A f t p q k) n
  | 0, _ => gI_B hn
  | k + 1, hk => by
    have ih := gS_B hn ho k (by omega)
    show gB (if A k = true then fU1 (fU1 (gS A f t p q k) (24 * f k + t k) (p k)) (24 * t k + f k) (q k) else gS A f t p q k) n
    split
    · rename_i hA
      obtain ⟨⟨o1, o2⟩, o3, o4⟩ := ho k (by omega) hA
      exact ih.two hn o1 o2 o3 o4
    · exact ih
theorem gS_mono {A : Nat → Bool} {f t : Nat → Nat} {p q : Nat → Int64} (k j : Nat) : ∀ m, (gS A f t p q (k + m) j).toInt ≤ (gS A f t p q k j).toInt
  | 0 => Int.le_refl _
  | m + 1 => by
    refine Int.le_trans ?_ (gS_mono k j m)
    show (ite (A (k + m) = true) (fU1 (fU1 (gS A f t p q (k + m)) (24 * f (k + m) + t (k + m)) (p (k + m))) (24 * t (k + m) + f (k + m)) (q (k + m))) (gS A f t p q (k + m)) j).toInt ≤ _
    split
    · exact Int.le_trans fU1_le fU1_le
    · exact Int.le_refl _
theorem gS_edge {c : Nat} {A : Nat → Bool} {f t : Nat → Nat} {p q : Nat → Int64} {k : Nat} (hk : k < c) (hA : A k = true) : fG (gS A f t p q c) (f k) (t k) ≤ (p k).toInt ∧ fG (gS A f t p q c) (t k) (f k) ≤ (q k).toInt := by
  have st : gS A f t p q (k + 1) = fU1 (fU1 (gS A f t p q k) (24 * f k + t k) (p k)) (24 * t k + f k) (q k) := if_pos hA
  have mo : ∀ j, (gS A f t p q c j).toInt ≤ (gS A f t p q (k + 1) j).toInt := fun j => by
    have := gS_mono (A := A) (f := f) (t := t) (p := p) (q := q) (k + 1) j (c - (k + 1))
    rw [show k + 1 + (c - (k + 1)) = c by omega] at this
    exact this
  have m1 := mo (24 * f k + t k)
  have m2 := mo (24 * t k + f k)
  rw [st] at m1 m2
  exact ⟨Int.le_trans m1 (Int.le_trans fU1_le fU1_v), Int.le_trans m2 fU1_v⟩
theorem gS_diag {A : Nat → Bool} {f t : Nat → Nat} {p q : Nat → Int64} {c i : Nat} (hi : i < 24) : fG (gS A f t p q c) i i ≤ 0 := by
  have m := gS_mono (A := A) (f := f) (t := t) (p := p) (q := q) 0 (24 * i + i) c
  rw [Nat.zero_add] at m
  have e : (gS A f t p q 0 (24 * i + i)).toInt = 0 := by
    show (gI (24 * i + i)).toInt = 0
    rw [gI_at hi, if_pos rfl]; decide
  unfold fG
  omega
theorem fU1_ok {F : Nat → Int64} {n a b : Nat} {v : Int64} {u : Nat → Int} (h : fOk F n u) (hn : n ≤ 24) (hb : b < n) (hv : u b - u a ≤ v.toInt) : fOk (fU1 F (24 * a + b) v) n u := by
  intro i j hi hj
  have h1 := h i j hi hj
  refine ⟨?_, Int.le_trans fU1_le h1.2⟩
  have h1 := h1.1
  unfold fG at h1 ⊢
  rw [fU1_at (by omega) (by omega)]
  split
  · rename_i e; obtain ⟨rfl, rfl⟩ := e
    split
    · exact hv
    · exact h1
  · exact h1
theorem gS_ok {n c : Nat} {A : Nat → Bool} {f t : Nat → Nat} {p q : Nat → Int64} {u : Nat → Int} (hn : n ≤ 24) (hu : ∀ i, i < n → -10000000000 ≤ u i ∧ u i ≤ 10000000000) (ho : sOk n c A f t p q) (hf : sFe c A f t p q (fun _ => true) u) : ∀ k, k ≤ c → fOk (gS A f t p q k) n u
  | 0, _ => by
    intro i j hi hj
    have e : fG gI i j = if i = j then 0 else 1000000000000 := by
      unfold fG
      rw [gI_at (by omega)]
      split
      · decide
      · exact px_far
    show u j - u i ≤ fG gI i j ∧ fG gI i j ≤ 1000000000000
    have h1 := hu i hi
    have h2 := hu j hj
    rw [e]
    split
    · rename_i q; subst q; omega
    · omega
  | k + 1, hk => by
    have ih := gS_ok hn hu ho hf k (by omega)
    show fOk (if A k = true then fU1 (fU1 (gS A f t p q k) (24 * f k + t k) (p k)) (24 * t k + f k) (q k) else gS A f t p q k) n u
    split
    · rename_i hA
      obtain ⟨⟨o1, o2⟩, -⟩ := ho k (by omega) hA
      have g2 := (hf k (by omega) hA).2 rfl
      exact fU1_ok (fU1_ok ih hn o2 (by omega)) hn o1 (by omega)
    · exact ih
/-- the closed table, where it is good -/
def gD (A : Nat → Bool) (f t : Nat → Nat) (p q : Nat → Int64) (c n : Nat) : Nat → Int64 := fAll (gS A f t p q c) n n
theorem gD_facts {n c : Nat} {A : Nat → Bool} {f t : Nat → Nat} {p q : Nat → Int64} (hn : n ≤ 24) (ho : sOk n c A f t p q) (hg : fGood (gD A f t p q c n) n) :
    (∀ i j, i < n → j < n → fG (gD A f t p q c n) i j < 1000000000000 → -25000000 ≤ fG (gD A f t p q c n) i j ∧ fG (gD A f t p q c n) i j ≤ 25000000 ∧ fG (gD A f t p q c n) j i < 1000000000000) ∧
    (∀ i j k, i < n → j < n → k < n → fG (gD A f t p q c n) i k < 1000000000000 → fG (gD A f t p q c n) k j < 1000000000000 → fG (gD A f t p q c n) i j ≤ fG (gD A f t p q c n) i k + fG (gD A f t p q c n) k j) ∧
    (∀ i, i < n → fG (gD A f t p q c n) i i = 0) ∧
    (∀ k, k < c → A k = true → fG (gD A f t p q c n) (f k) (t k) ≤ (p k).toInt ∧ fG (gD A f t p q c n) (t k) (f k) ≤ (q k).toInt) := by
  have iv := fAll_inv hn (gS_B hn ho c (Nat.le_refl _)) hg
  have mo : ∀ k, (gD A f t p q c n k).toInt ≤ (gS A f t p q c k).toInt := fun k => by
    have := fAll_mono (gS A f t p q c) n 0 k n
    rw [Nat.zero_add] at this
    exact this
  have dg : ∀ i, i < n → fG (gD A f t p q c n) i i = 0 := fun i hi => by
    have a1 := Int64.le_iff_toInt_le.mp (hg i hi)
    rw [show (0 : Int64).toInt = 0 by decide] at a1
    have a2 := gS_diag (A := A) (f := f) (t := t) (p := p) (q := q) (c := c) (i := i) (by omega)
    have a3 := mo (24 * i + i)
    unfold fG at a2 ⊢
    rw [show 24 * i + i = 25 * i by omega] at *
    omega
  refine ⟨fun i j hi hj hf => ?_, fun i j k hi hj hk h1 h2 => iv.2.2.1 k hk i j hi hj h1 h2, dg, fun k hk hA => ?_⟩
  · have s := iv.2.2.2 i j hi hj hf
    have b1 := iv.small hn hi hj hf
    have b2 := iv.small hn hj hi s
    have c1 := iv.2.2.1 j hj i i hi hi hf s
    have c2 := dg i hi
    exact ⟨by unfold gD at c2; unfold gD; omega, b1, s⟩
  · have e := gS_edge (f := f) (t := t) (p := p) (q := q) hk hA
    exact ⟨Int.le_trans (mo _) e.1, Int.le_trans (mo _) e.2⟩
/-- the least of a column, or 0 -/
def gMn (G : Nat → Nat → Int) (j : Nat) : Nat → Int
  | 0 => 0
  | i + 1 => if G i j < gMn G j i then G i j else gMn G j i
theorem gMn_le (G : Nat → Nat → Int) (j : Nat) : ∀ n, gMn G j n ≤ 0 ∧ ∀ i, i < n → gMn G j n ≤ G i j
  | 0 => ⟨Int.le_refl _, fun i hi => absurd hi (Nat.not_lt_zero _)⟩
  | n + 1 => by
    have ih := gMn_le G j n
    show (if G n j < gMn G j n then G n j else gMn G j n) ≤ 0 ∧ ∀ i, i < n + 1 → (if G n j < gMn G j n then G n j else gMn G j n) ≤ G i j
    refine ⟨by split <;> omega, fun i hi => ?_⟩
    by_cases e : i = n
    · subst e; split <;> omega
    · have := ih.2 i (by omega)
      split <;> omega
theorem gMn_at (G : Nat → Nat → Int) (j : Nat) : ∀ n, gMn G j n = 0 ∨ ∃ i, i < n ∧ gMn G j n = G i j ∧ G i j < 0
  | 0 => Or.inl rfl
  | n + 1 => by
    have ih := gMn_at G j n
    have le := (gMn_le G j n).1
    show (if G n j < gMn G j n then G n j else gMn G j n) = 0 ∨ ∃ i, i < n + 1 ∧ (if G n j < gMn G j n then G n j else gMn G j n) = G i j ∧ G i j < 0
    split
    · exact Or.inr ⟨n, by omega, rfl, by omega⟩
    · rcases ih with h | ⟨i, h1, h2, h3⟩
      · exact Or.inl h
      · exact Or.inr ⟨i, by omega, h2, h3⟩
def gZ (A : Nat → Bool) (f t : Nat → Nat) (p q : Nat → Int64) (c n : Nat) (j : Nat) : Int := gMn (fG (gD A f t p q c n)) j n
theorem gZ_facts {n c : Nat} {A : Nat → Bool} {f t : Nat → Nat} {p q : Nat → Int64} (hn : n ≤ 24) (ho : sOk n c A f t p q) (hg : fGood (gD A f t p q c n) n) :
    (∀ j, j < n → -25000000 ≤ gZ A f t p q c n j ∧ gZ A f t p q c n j ≤ 0) ∧ sFe c A f t p q (fun _ => true) (gZ A f t p q c n) := by
  obtain ⟨d1, d2, d3, d4⟩ := gD_facts hn ho hg
  have half : ∀ a b : Nat, a < n → b < n → ∀ w : Int, w ≤ 1000000 → fG (gD A f t p q c n) a b ≤ w → gZ A f t p q c n b ≤ gZ A f t p q c n a + w := fun a b ha hb w hw hl => by
    have m := gMn_le (fG (gD A f t p q c n)) b n
    unfold gZ
    rcases gMn_at (fG (gD A f t p q c n)) a n with h | ⟨i, h1, h2, h3⟩
    · rw [h]
      have := m.2 a ha
      omega
    · rw [h2]
      have := m.2 i h1
      have := d2 i b a h1 hb ha (by omega) (by omega)
      omega
  refine ⟨fun j hj => ?_, fun k hk hA => ⟨rfl, fun _ => ?_⟩⟩
  · have m := (gMn_le (fG (gD A f t p q c n)) j n).1
    unfold gZ
    rcases gMn_at (fG (gD A f t p q c n)) j n with h | ⟨i, h1, h2, h3⟩
    · omega
    · have := (d1 i j h1 hj (by omega)).1
      omega
  · obtain ⟨⟨o1, o2⟩, o3, o4⟩ := ho k hk hA
    obtain ⟨e1, e2⟩ := d4 k hk hA
    exact ⟨half _ _ o1 o2 _ o3.2 e1, half _ _ o2 o1 _ o4.2 e2⟩
def d0Z : Nat → Int64 := fun _ => 0
def d0S (s : Nat) : Nat → Int64 := fun j => if j = s then 0 else 1000000000000
/-- good: from all stations at once it comes to stand -/
theorem good_fx {n c : Nat} {A : Nat → Bool} {f t : Nat → Nat} {p q : Nat → Int64} {d : Nat → Int64} (hn : n ≤ 24) (ho : sOk n c A f t p q) (hd : ∀ j, j < n → d j = 0) (hg : fGood (gD A f t p q c n) n) : sFx A f t p q c (sR A f t p q c d n) := by
  obtain ⟨z1, z2⟩ := gZ_facts hn ho hg
  have h : sI n (fun _ => true) (gZ A f t p q c n) d := fun j hj => by
    have := z1 j hj
    rw [hd j hj, show (0 : Int64).toInt = 0 by decide]
    exact ⟨fun _ => this.2, fun z => Bool.noConfusion z, by omega⟩
  have hP : ∀ j, j < n → (fun _ : Nat => true) j = true → -30000000 ≤ gZ A f t p q c n j ∧ gZ A f t p q c n j ≤ 30000000 := fun j hj _ => by have := z1 j hj; omega
  refine (h.R hP ho z2 n).fx hP ho z2 (sR_conv h hP ho z2 (fun u u1 u2 u3 j hj _ => ?_))
  have ub : ∀ i, i < n → -10000000000 ≤ u i ∧ u i ≤ 10000000000 := fun i hi => by
    have := u1 i hi rfl
    have := z1 i hi
    omega
  have ok := fAll_ok ub (gS_ok hn ub ho u2 c (Nat.le_refl _)) hn n (Nat.le_refl _)
  have le0 : ∀ i, i < n → u i ≤ 0 := fun i hi => by
    have := u3 i hi rfl
    rw [hd i hi, show (0 : Int64).toInt = 0 by decide] at this
    exact this
  unfold gZ
  rcases gMn_at (fG (gD A f t p q c n)) j n with h | ⟨i, h1, h2, h3⟩
  · rw [h]; exact le0 j hj
  · rw [h2]
    have := (ok i j h1 hj).1
    have := le0 i h1
    unfold gD
    omega
theorem sR_low {n c : Nat} {A : Nat → Bool} {f t : Nat → Nat} {p q : Nat → Int64} {d : Nat → Int64} (ho : sOk n c A f t p q) (hd : ∀ j, j < n → d j = 0) (hc : c ≤ 80) : ∀ r : Nat, r ≤ 26 → ∀ j : Nat, j < n → -(2 * 80 * 1000000 * (r : Int)) ≤ (sR A f t p q c d r j).toInt ∧ (sR A f t p q c d r j).toInt ≤ 0 := by
  have one : ∀ (B : Int) (e : Nat → Int64) (i j : Nat) (w : Int64), 0 ≤ B → B ≤ 10000000000 → (∀ j, j < n → -B ≤ (e j).toInt ∧ (e j).toInt ≤ 0) → i < n → j < n → -1000000 ≤ w.toInt → w.toInt ≤ 1000000 → ∀ k, k < n → -(B + 1000000) ≤ (sH e i j w k).toInt ∧ (sH e i j w k).toInt ≤ 0 := fun B e i j w hB0 hB he hi hj hw1 hw2 k hk => by
    have m := sH_mono e i j w k
    have hk1 := he k hk
    refine ⟨?_, by omega⟩
    unfold sH
    split
    · show -(B + 1000000) ≤ (if k = j then e i + w else e k : Int64).toInt
      split
      · have := he i hi
        rw [px_i64 (by omega) (by omega)]
        omega
      · omega
    · omega
  have rnd : ∀ (B : Int) (e : Nat → Int64), 0 ≤ B → B ≤ 5000000000 → (∀ j, j < n → -B ≤ (e j).toInt ∧ (e j).toInt ≤ 0) → ∀ k, k ≤ c → ∀ j, j < n → -(B + 2 * 1000000 * (k : Int)) ≤ (sA A f t p q e k j).toInt ∧ (sA A f t p q e k j).toInt ≤ 0 := by
    intro B e hB0 hB he k
    induction k with
    | zero => intro _ j hj; have := he j hj; show -(B + 2 * 1000000 * ((0 : Nat) : Int)) ≤ (e j).toInt ∧ (e j).toInt ≤ 0; omega
    | succ k ih =>
      intro hk j hj
      have ih := ih (by omega)
      show -(B + 2 * 1000000 * ((k + 1 : Nat) : Int)) ≤ (ite (A k = true) (sH (sH (sA A f t p q e k) (f k) (t k) (p k)) (t k) (f k) (q k)) (sA A f t p q e k) j).toInt ∧ (ite (A k = true) (sH (sH (sA A f t p q e k) (f k) (t k) (p k)) (t k) (f k) (q k)) (sA A f t p q e k) j).toInt ≤ 0
      split
      · rename_i hA
        obtain ⟨⟨o1, o2⟩, o3, o4⟩ := ho k (by omega) hA
        have s1 := one (B + 2 * 1000000 * (k : Int)) _ (f k) (t k) (p k) (by omega) (by omega) ih o1 o2 o3.1 o3.2
        have s2 := one (B + 2 * 1000000 * (k : Int) + 1000000) _ (t k) (f k) (q k) (by omega) (by omega) s1 o2 o1 o4.1 o4.2 j hj
        omega
      · have := ih j hj
        omega
  intro r
  induction r with
  | zero => intro _ j hj; rw [show sR A f t p q c d 0 = d from rfl, hd j hj, show (0 : Int64).toInt = 0 by decide]; omega
  | succ r ih =>
    intro hr j hj
    have := rnd (2 * 80 * 1000000 * (r : Int)) _ (by omega) (by omega) (ih (by omega)) c (Nat.le_refl _) j hj
    show -(2 * 80 * 1000000 * ((r + 1 : Nat) : Int)) ≤ (sA A f t p q (sR A f t p q c d r) c j).toInt ∧ (sA A f t p q (sR A f t p q c d r) c j).toInt ≤ 0
    omega
/-- where it comes to stand from all stations at once, it is good -/
theorem fx_good {n c : Nat} {A : Nat → Bool} {f t : Nat → Nat} {p q : Nat → Int64} {d : Nat → Int64} {r : Nat} (hn : n ≤ 24) (hc : c ≤ 80) (hr : r ≤ 26) (ho : sOk n c A f t p q) (hd : ∀ j, j < n → d j = 0) (h : sFx A f t p q c (sR A f t p q c d r)) : fGood (gD A f t p q c n) n := by
  have lo := sR_low ho hd hc r hr
  have ub : ∀ i, i < n → -10000000000 ≤ (sR A f t p q c d r i).toInt ∧ (sR A f t p q c d r i).toInt ≤ 10000000000 := fun i hi => by have := lo i hi; omega
  have nf : ∀ x : Int64, x.toInt ≤ 0 → x ≠ 1000000000000 := fun x hx e => by rw [e, px_far] at hx; omega
  have fe : sFe c A f t p q (fun _ => true) (fun j => (sR A f t p q c d r j).toInt) := fun k hk hA => by
    obtain ⟨⟨o1, o2⟩, o3, o4⟩ := ho k hk hA
    obtain ⟨e1, e2⟩ := h k hk hA
    have l1 := lo _ o1
    have l2 := lo _ o2
    refine ⟨rfl, fun _ => ⟨?_, ?_⟩⟩
    · have z : ¬ sR A f t p q c d r (f k) + p k < sR A f t p q c d r (t k) := fun z => e1 ⟨nf _ l1.2, z⟩
      rw [Int64.lt_iff_toInt_lt, px_i64 (by omega) (by omega)] at z
      show (sR A f t p q c d r (t k)).toInt ≤ (sR A f t p q c d r (f k)).toInt + _
      omega
    · have z : ¬ sR A f t p q c d r (t k) + q k < sR A f t p q c d r (f k) := fun z => e2 ⟨nf _ l2.2, z⟩
      rw [Int64.lt_iff_toInt_lt, px_i64 (by omega) (by omega)] at z
      show (sR A f t p q c d r (f k)).toInt ≤ (sR A f t p q c d r (t k)).toInt + _
      omega
  exact (fAll_ok ub (gS_ok hn ub ho fe c (Nat.le_refl _)) hn n (Nat.le_refl _)).good
/-- from one station: the row of the table -/
theorem good_row {n c s : Nat} {A : Nat → Bool} {f t : Nat → Nat} {p q : Nat → Int64} {d : Nat → Int64} (hn : n ≤ 24) (hs : s < n) (ho : sOk n c A f t p q) (hd : ∀ j, j < n → d j = if j = s then 0 else 1000000000000) (hg : fGood (gD A f t p q c n) n) :
    sFx A f t p q c (sR A f t p q c d n) ∧ ∀ j, j < n → sR A f t p q c d n j = gD A f t p q c n (24 * s + j) := by
  obtain ⟨z1, z2⟩ := gZ_facts hn ho hg
  obtain ⟨d1, d2, d3, d4⟩ := gD_facts hn ho hg
  have iv := fAll_inv hn (gS_B hn ho c (Nat.le_refl _)) hg
  generalize hRc : (fun j => decide (fG (gD A f t p q c n) s j < 1000000000000)) = Rc
  have rc : ∀ j, Rc j = true ↔ fG (gD A f t p q c n) s j < 1000000000000 := fun j => by rw [← hRc]; simp
  have rcF : ∀ j, Rc j = false ↔ ¬ fG (gD A f t p q c n) s j < 1000000000000 := fun j => by rw [← hRc]; simp
  have hP : ∀ j, j < n → Rc j = true → -30000000 ≤ fG (gD A f t p q c n) s j ∧ fG (gD A f t p q c n) s j ≤ 30000000 := fun j hj r => by
    have := d1 s j hs hj ((rc j).mp r)
    omega
  have rs : Rc s = true := (rc s).mpr (by rw [d3 s hs]; omega)
  have h : sI n Rc (fG (gD A f t p q c n) s) d := fun j hj => by
    rw [hd j hj]
    by_cases e : j = s
    · subst e
      rw [if_pos rfl, d3 j hj, show (0 : Int64).toInt = 0 by decide]
      exact ⟨fun _ => Int.le_refl _, fun z => absurd (z.symm.trans rs) (by decide), by omega⟩
    · rw [if_neg e, px_far]
      exact ⟨fun z => Int.le_of_lt ((rc j).mp z), fun _ => rfl, by omega⟩
  have fe : sFe c A f t p q Rc (fG (gD A f t p q c n) s) := fun k hk hA => by
    obtain ⟨⟨o1, o2⟩, o3, o4⟩ := ho k hk hA
    obtain ⟨e1, e2⟩ := d4 k hk hA
    have a1 : Rc (f k) = true → Rc (t k) = true ∧ fG (gD A f t p q c n) s (t k) ≤ fG (gD A f t p q c n) s (f k) + (p k).toInt := fun r => by
      have r := (rc _).mp r
      have b := d1 s _ hs o1 r
      have := d2 s (t k) (f k) hs o2 o1 r (by omega)
      exact ⟨(rc _).mpr (by omega), by omega⟩
    have a2 : Rc (t k) = true → Rc (f k) = true ∧ fG (gD A f t p q c n) s (f k) ≤ fG (gD A f t p q c n) s (t k) + (q k).toInt := fun r => by
      have r := (rc _).mp r
      have b := d1 s _ hs o2 r
      have := d2 s (f k) (t k) hs o1 o2 r (by omega)
      exact ⟨(rc _).mpr (by omega), by omega⟩
    refine ⟨?_, fun r => ⟨(a1 r).2, (a2 (a1 r).1).2⟩⟩
    cases x : Rc (f k) with
    | true => exact (a1 x).1.symm
    | false =>
      cases y : Rc (t k) with
      | true => exact absurd ((a2 y).1.symm.trans x) (by decide)
      | false => rfl
  have cv := sR_conv h hP ho fe (fun u u1 u2 u3 j hj r => by
    have u0 : u s ≤ 0 := by
      have := u3 s hs rs
      rw [hd s hs, if_pos rfl, show (0 : Int64).toInt = 0 by decide] at this
      exact this
    have ub : ∀ i, i < n → -10000000000 ≤ (if Rc i = true then u i else gZ A f t p q c n i) ∧ (if Rc i = true then u i else gZ A f t p q c n i) ≤ 10000000000 := fun i hi => by
      by_cases r : Rc i = true
      · rw [if_pos r]
        have := u1 i hi r
        have := hP i hi r
        omega
      · rw [if_neg r]
        have := z1 i hi
        omega
    have uf : sFe c A f t p q (fun _ => true) (fun i => if Rc i = true then u i else gZ A f t p q c n i) := fun k hk hA => by
      have a := u2 k hk hA
      have b := (z2 k hk hA).2 rfl
      refine ⟨rfl, fun _ => ?_⟩
      show (if Rc (t k) = true then u (t k) else gZ A f t p q c n (t k)) ≤ (if Rc (f k) = true then u (f k) else gZ A f t p q c n (f k)) + (p k).toInt ∧ (if Rc (f k) = true then u (f k) else gZ A f t p q c n (f k)) ≤ (if Rc (t k) = true then u (t k) else gZ A f t p q c n (t k)) + (q k).toInt
      by_cases x : Rc (f k) = true
      · have y := a.1.symm.trans x
        rw [if_pos x, if_pos y]
        exact a.2 x
      · have y : ¬ Rc (t k) = true := fun y => x (a.1.trans y)
        rw [if_neg x, if_neg y]
        exact b
    have ok := (fAll_ok ub (gS_ok hn ub ho uf c (Nat.le_refl _)) hn n (Nat.le_refl _) s j hs hj).1
    simp only [if_pos r, if_pos rs] at ok
    unfold gD
    omega)
  have hr := h.R hP ho fe n
  refine ⟨hr.fx hP ho fe cv, fun j hj => ?_⟩
  by_cases r : Rc j = true
  · exact Int64.toInt_inj.mp (cv j hj r)
  · have r2 : Rc j = false := by
      cases x : Rc j with
      | true => exact absurd x r
      | false => rfl
    rw [(hr j hj).2.1 r2]
    have b1 := (rcF j).mp r2
    have b2 := (iv.1 s j hs hj).2
    apply Int64.toInt_inj.mp
    rw [px_far]
    show 1000000000000 = fG (gD A f t p q c n) s j
    unfold gD at b1 ⊢
    omega
