/-! a gallery of the class's: its passes, number by number -/
theorem cMx_int (a b : Int32) : (cMx a b).toInt = imx a.toInt b.toInt := by
  unfold cMx imx
  simp only [Int32.lt_iff_toInt_lt]
  split <;> rfl
theorem cMn_int (a b : Int32) : (cMn a b).toInt = imn a.toInt b.toInt := by
  unfold cMn imn
  simp only [Int32.lt_iff_toInt_lt]
  split <;> rfl
theorem px_adi {a b : Int32} (h1 : -100000000 ≤ a.toInt ∧ a.toInt ≤ 100000000) (h2 : -100000000 ≤ b.toInt ∧ b.toInt ≤ 100000000) : (a + b).toInt = a.toInt + b.toInt := by
  rw [Int32.toInt_add]; exact Int.bmod_eq_of_le (by omega) (by omega)
theorem px_sbi {a b : Int32} (h1 : -100000000 ≤ a.toInt ∧ a.toInt ≤ 100000000) (h2 : -100000000 ≤ b.toInt ∧ b.toInt ≤ 100000000) : (a - b).toInt = a.toInt - b.toInt := by
  rw [Int32.toInt_sub]; exact Int.bmod_eq_of_le (by omega) (by omega)
def dFw (I : px_I) (g p : Nat) : Int := if p = 0 then 0 else (I (g + 4) p).toInt
def dMo (I : px_I) (g p : Nat) : Int := if p = 0 then 0 else (I (g + 5) p).toInt
def dMf (I : px_I) (g p : Nat) : Int := (I (g + 7) p).toInt
def dMt (I : px_I) (g p : Nat) : Int := (I (g + 8) p).toInt
abbrev dN (I : px_I) (g : Nat) : Nat := (I g 13).toNatClampNeg
def gSm (I : px_I) (g : Nat) : Prop := dSm (dN I g) (dFw I g) (dMo I g) (dMf I g) (dMt I g)
def gOk (I : px_I) (g : Nat) : Prop := dOk (dN I g) (dFw I g) (dMo I g) (dMf I g) (dMt I g)
abbrev gEI (I : px_I) (g : Nat) : Nat → Int := dE (dMf I g) (dFw I g)
abbrev gLI (I : px_I) (g : Nat) : Nat → Int := dL (dMt I g) (dMo I g)
def gEB (I : px_I) (g p : Nat) : Int := EB (gEI I g) (dMo I g) (dN I g - 1) p
def gLB (I : px_I) (g p : Nat) : Int := LB (gLI I g) (dFw I g) (dN I g - 1) p
/-- forward: up to i all is in order -/
def dInv (I : px_I) (g : Nat) (J : px_I) (i : Nat) : Prop := ∀ j, j < i → ((J (g + 9) j).toInt = gEI I g j ∧ (J (g + 10) j).toInt = gLI I g j) ∧ (0 < j → dFw I g j ≤ dMo I g j) ∧ gEI I g j ≤ gLI I g j
theorem dInv.bd {I J : px_I} {g i : Nat} (hs : gSm I g) (h : dInv I g J i) (hi : i ≤ dN I g) : ∀ j, j < i → 0 ≤ gEI I g j ∧ gLI I g j ≤ 20000 := by
  intro j
  induction j with
  | zero => intro hj; have := hs 0 (by omega); exact ⟨this.2.2.1.1, this.2.2.2.2⟩
  | succ j ih =>
    intro hj
    have ih := ih (by omega)
    have s := hs (j + 1) (by omega)
    show 0 ≤ imx (dMf I g (j + 1)) (gEI I g j + dFw I g (j + 1)) ∧ imn (dMt I g (j + 1)) (gLI I g j + dMo I g (j + 1)) ≤ 20000
    rcases imx_c (dMf I g (j + 1)) (gEI I g j + dFw I g (j + 1)) with ⟨x, _⟩ | ⟨x, _⟩ <;> rcases imn_c (dMt I g (j + 1)) (gLI I g j + dMo I g (j + 1)) with ⟨y, _⟩ | ⟨y, _⟩ <;> rw [x, y] <;> omega
theorem dInv.up {I J K : px_I} {g i : Nat} {e l : Int32} (h : dInv I g J i) (h9 : ∀ j, K (g + 9) j = if j = i then e else J (g + 9) j) (h10 : ∀ j, K (g + 10) j = if j = i then l else J (g + 10) j) (he : e.toInt = gEI I g i) (hl : l.toInt = gLI I g i) (hf : 0 < i → dFw I g i ≤ dMo I g i) (hle : gEI I g i ≤ gLI I g i) : dInv I g K (i + 1) := by
  intro j hj
  rw [h9, h10]
  by_cases c : j = i
  · rw [if_pos c, if_pos c, c]; exact ⟨⟨he, hl⟩, hf, hle⟩
  · rw [if_neg c, if_neg c]; exact h j (by omega)
theorem dInv.ok {I J : px_I} {g : Nat} (h : dInv I g J (dN I g)) : gOk I g := fun p hp => (h p hp).2
/-- backward: from i on the last word is said -/
def dBk (I : px_I) (g : Nat) (J : px_I) (i : Nat) : Prop := ∀ j, j < dN I g → (J (g + 9) j).toInt = (if i ≤ j then gEB I g j else gEI I g j) ∧ (J (g + 10) j).toInt = (if i ≤ j then gLB I g j else gLI I g j)
theorem dBk.start {I J : px_I} {g : Nat} (h : dInv I g J (dN I g)) : dBk I g J (dN I g - 1) := by
  intro j hj
  have k := (h j hj).1
  by_cases c : dN I g - 1 ≤ j
  · have e : j = dN I g - 1 := by omega
    rw [if_pos c, if_pos c, k.1, k.2, e]
    unfold gEB gLB
    rw [EB_top, LB_top]
    exact ⟨rfl, rfl⟩
  · rw [if_neg c, if_neg c]; exact k
theorem dBk.step {I J K : px_I} {g i : Nat} {e l : Int32} (h : dBk I g J i) (h0 : 0 < i) (hi : i < dN I g) (h9 : ∀ j, K (g + 9) j = if j = i - 1 then e else J (g + 9) j) (h10 : ∀ j, K (g + 10) j = if j = i - 1 then l else J (g + 10) j)
    (he : e.toInt = imx (gEI I g (i - 1)) (gEB I g i - dMo I g i)) (hl : l.toInt = imn (gLI I g (i - 1)) (gLB I g i - dFw I g i)) : dBk I g K (i - 1) := by
  intro j hj
  rw [h9, h10]
  by_cases c : j = i - 1
  · rw [if_pos c, if_pos c, if_pos (by omega), if_pos (by omega), he, hl, c]
    unfold gEB gLB
    rw [EB_at _ _ (show i - 1 < dN I g - 1 by omega), LB_at _ _ (show i - 1 < dN I g - 1 by omega), show i - 1 + 1 = i by omega]
    exact ⟨rfl, rfl⟩
  · rw [if_neg c, if_neg c]
    have k := h j hj
    by_cases d : i ≤ j
    · rw [if_pos d, if_pos d] at k
      rw [if_pos (by omega), if_pos (by omega)]; exact k
    · rw [if_neg d, if_neg d] at k
      rw [if_neg (by omega), if_neg (by omega)]; exact k
theorem gB_in {I : px_I} {g : Nat} (hs : gSm I g) (o : gOk I g) {p : Nat} (hp : p < dN I g) : (0 ≤ gEB I g p ∧ gEB I g p ≤ 20000) ∧ (0 ≤ gLB I g p ∧ gLB I g p ≤ 20000) ∧ (0 ≤ gEI I g p ∧ gEI I g p ≤ 20000) ∧ (0 ≤ gLI I g p ∧ gLI I g p ≤ 20000) := by
  have q : dMf I g p ≤ gEB I g p ∧ gEB I g p ≤ gLB I g p ∧ gLB I g p ≤ dMt I g p ∧ gEI I g p ≤ gEB I g p ∧ gLB I g p ≤ gLI I g p ∧ gEB I g p ≤ gLI I g p ∧ gEI I g p ≤ gLB I g p := (dig_in o (T := dN I g - 1) (by omega) (dN I g - 1 - p) p (by omega)).1
  have s := hs p hp
  have lo : ∀ p, p < dN I g → 0 ≤ gEI I g p ∧ gLI I g p ≤ 20000 := by
    intro p
    induction p with
    | zero => intro hj; have := hs 0 hj; exact ⟨this.2.2.1.1, this.2.2.2.2⟩
    | succ j ih =>
      intro hj
      have ih := ih (by omega)
      have s := hs (j + 1) hj
      show 0 ≤ imx (dMf I g (j + 1)) (gEI I g j + dFw I g (j + 1)) ∧ imn (dMt I g (j + 1)) (gLI I g j + dMo I g (j + 1)) ≤ 20000
      rcases imx_c (dMf I g (j + 1)) (gEI I g j + dFw I g (j + 1)) with ⟨x, _⟩ | ⟨x, _⟩ <;> rcases imn_c (dMt I g (j + 1)) (gLI I g j + dMo I g (j + 1)) with ⟨y, _⟩ | ⟨y, _⟩ <;> rw [x, y] <;> omega
  have l := lo p hp
  have o2 : gEI I g p ≤ gLI I g p := (o p hp).2
  exact ⟨⟨by omega, by omega⟩, ⟨by omega, by omega⟩, ⟨by omega, by omega⟩, by omega, by omega⟩
theorem px_pr {i : Int32} (h0 : 0 < i) (h1 : i < 1000) : (i - 1).toNatClampNeg = i.toNatClampNeg - 1 ∧ 0 < i.toNatClampNeg := by
  have a1 := Int32.lt_iff_toInt_lt.mp h0
  have a2 := Int32.lt_iff_toInt_lt.mp h1
  rw [show (0 : Int32).toInt = 0 by decide] at a1
  rw [show (1000 : Int32).toInt = 1000 by decide] at a2
  have e : (i - 1).toInt = i.toInt - 1 := by rw [Int32.toInt_sub, show (1 : Int32).toInt = 1 by decide]; exact Int.bmod_eq_of_le (by omega) (by omega)
  show (i - 1).toInt.toNat = i.toInt.toNat - 1 ∧ 0 < i.toInt.toNat
  omega
theorem px_ltN {i N : Int32} (h0 : 0 ≤ i) (h : i < N) : i.toNatClampNeg < N.toNatClampNeg := by
  have a1 := px_nat h0
  have a2 := px_nat (x := N) (by grind)
  have a3 := Int32.lt_iff_toInt_lt.mp h
  omega
theorem px_np {i : Int32} (h : i ≤ 0) : i.toNatClampNeg = 0 := by
  have a := Int32.le_iff_toInt_le.mp h
  rw [show (0 : Int32).toInt = 0 by decide] at a
  show i.toInt.toNat = 0
  omega
theorem px_leN {i N : Int32} (h0 : 0 ≤ N) (h : N ≤ i) : N.toNatClampNeg ≤ i.toNatClampNeg := by
  have a1 := px_nat h0
  have a2 := px_nat (x := i) (by grind)
  have a3 := Int32.le_iff_toInt_le.mp h
  omega
theorem px_mm1 {N : Int32} (h0 : 0 ≤ N) (h1 : N ≤ 20) : (N - 1).toNatClampNeg = N.toNatClampNeg - 1 := by
  have a1 := Int32.le_iff_toInt_le.mp h0
  have a2 := Int32.le_iff_toInt_le.mp h1
  rw [show (0 : Int32).toInt = 0 by decide] at a1
  rw [show (20 : Int32).toInt = 20 by decide] at a2
  have e : (N - 1).toInt = N.toInt - 1 := by rw [Int32.toInt_sub, show (1 : Int32).toInt = 1 by decide]; exact Int.bmod_eq_of_le (by omega) (by omega)
  show (N - 1).toInt.toNat = N.toInt.toNat - 1
  omega
theorem px_sc20 {b : Int32} (h : 0 ≤ b ∧ b < 20) : (b + 1).toInt = b.toInt + 1 := by
  have a1 := Int32.le_iff_toInt_le.mp h.1
  have a2 := Int32.lt_iff_toInt_lt.mp h.2
  rw [show (0 : Int32).toInt = 0 by decide] at a1
  rw [show (20 : Int32).toInt = 20 by decide] at a2
  rw [Int32.toInt_add, show (1 : Int32).toInt = 1 by decide]; exact Int.bmod_eq_of_le (by omega) (by omega)
def qWh (ok : Prop) (E Lt : Nat → Int) (N p h r : Int32) : Prop := ((0 ≤ p ∧ p < N) ∧ ((ok ∧ (¬ h = 0 → r.toInt = Lt p.toNatClampNeg) ∧ (h = 0 → r.toInt = E p.toNatClampNeg)) ∨ (¬ ok ∧ r = -1))) ∨ (¬ (0 ≤ p ∧ p < N) ∧ r = -1)
def qBt (ok : Prop) (E Lt few most : Nat → Int) (N a b h r : Int32) : Prop := (((0 ≤ a ∧ a < N) ∧ (0 ≤ b ∧ b < N) ∧ a < b) ∧ ((ok ∧ (¬ h = 0 → r.toInt = imn (wS most a.toNatClampNeg (b.toNatClampNeg - a.toNatClampNeg)) (Lt b.toNatClampNeg - E a.toNatClampNeg)) ∧ (h = 0 → r.toInt = imx (wS few a.toNatClampNeg (b.toNatClampNeg - a.toNatClampNeg)) (E b.toNatClampNeg - Lt a.toNatClampNeg))) ∨ (¬ ok ∧ r = -1))) ∨ (¬ ((0 ≤ a ∧ a < N) ∧ (0 ≤ b ∧ b < N) ∧ a < b) ∧ r = -1)

set_option maxRecDepth 100000 in
theorem ls_dig145A {n : Nat} {R : px_R} (hg : px_G n R) {Q : px_Q} {I : px_I} {L : px_L} (hp : 0 ≤ I 41 13 ∧ I 41 13 ≤ 20) (hs : gSm I 41) (ho : gOk I 41) (hq1 : ∀ I2, cEI 41 I I2 → (∀ j, j < dN I 41 → (I2 50 j).toInt = gEB I 41 j ∧ (I2 51 j).toInt = gLB I 41 j) → Q (some (.int 1)) n I2 L R) : ∀ i : Int32, -1 ≤ i → i < 20 → i < I 41 13 → ∀ I1, cEI 41 I I1 → dBk I 41 I1 i.toNatClampNeg → px M_X1_dig 0 0 145 [(0, .ref 41), (1, .int i)] [] n I1 L R Q := by
  refine px_dn (-1) (fun i ih hk => ?_)
  intro h0 hiN I1 h1 hB
  have e13 : I1 41 13 = I 41 13 := by rw [h1 41 (by decide) (by decide)]
  have f4 : I1 45 = I 45 := h1 45 (by decide) (by decide)
  have f5 : I1 46 = I 46 := h1 46 (by decide) (by decide)
  have f7 : I1 48 = I 48 := h1 48 (by decide) (by decide)
  have f8 : I1 49 = I 49 := h1 49 (by decide) (by decide)
  refine px_le rfl q_X1_dig_145 hg rfl trivial (fun c146 => ?_) (fun c146 => ?_)
  · refine px_rz rfl q_X1_dig_219 rfl rfl rfl hg rfl trivial (by first | exact Or.inl rfl | exact Or.inr rfl | grind) ?_
    have z : i.toNatClampNeg = 0 := px_np c146
    exact hq1 _ h1 (fun j hj => by
      have k := hB j hj
      rw [if_pos (by omega), if_pos (by omega)] at k
      exact k)
  · have hi0 : 0 ≤ i ∧ i < 20 := by grind
    have hi1 : 0 ≤ i - 1 ∧ i - 1 < 20 := by grind
    refine px_cSP rfl q_X1_dig_149 hg rfl ⟨⟨⟨trivial, (by with_reducible assumption)⟩, (by with_reducible assumption)⟩, (by with_reducible assumption)⟩ lk_1_78 nm_J9_max_7cf53 (j_max hg _ _) rfl rfl rfl ⟨rfl, rfl⟩ ?_
    intro x177 h177
    refine px_cSP rfl q_X1_dig_180 hg rfl ⟨⟨⟨⟨trivial, (by with_reducible assumption)⟩, (by with_reducible assumption)⟩, (by with_reducible assumption)⟩, (by with_reducible assumption)⟩ lk_1_84 nm_J9_min_7cf53 (j_min hg _ _) rfl rfl rfl ⟨rfl, rfl⟩ ?_
    intro x209 h209
    refine px_b rfl q_X1_dig_212 hg rfl ⟨trivial, (by with_reducible assumption)⟩ ?_
    have pr := px_pr (i := i) (by grind) (by grind)
    have iN : i.toNatClampNeg < dN I 41 := px_ltN (i := i) (N := I 41 13) (by grind) hiN
    have b1 := gB_in hs ho (p := i.toNatClampNeg) iN
    have b2 := gB_in hs ho (p := i.toNatClampNeg - 1) (by omega)
    have sm := hs i.toNatClampNeg iN
    have k1 : (I1 50 i.toNatClampNeg).toInt = gEB I 41 i.toNatClampNeg ∧ (I1 51 i.toNatClampNeg).toInt = gLB I 41 i.toNatClampNeg := by
      have k := hB i.toNatClampNeg iN
      rw [if_pos (Nat.le_refl _), if_pos (Nat.le_refl _)] at k
      exact k
    have k2 : (I1 50 (i.toNatClampNeg - 1)).toInt = gEI I 41 (i.toNatClampNeg - 1) ∧ (I1 51 (i.toNatClampNeg - 1)).toInt = gLI I 41 (i.toNatClampNeg - 1) := by
      have k := hB (i.toNatClampNeg - 1) (by omega)
      rw [if_neg (by omega), if_neg (by omega)] at k
      exact k
    have d4 : dFw I 41 i.toNatClampNeg = (I 45 i.toNatClampNeg).toInt := if_neg (by omega)
    have d5 : dMo I 41 i.toNatClampNeg = (I 46 i.toNatClampNeg).toInt := if_neg (by omega)
    have e177 : x177 = cMx (I1 50 (i - 1).toNatClampNeg) (I1 50 i.toNatClampNeg - I 46 i.toNatClampNeg) := by rw [h177]; simp [px_ur, cMx, f5]
    have e209 : x209 = cMn (I1 51 (i - 1).toNatClampNeg) (I1 51 i.toNatClampNeg - I 45 i.toNatClampNeg) := by rw [h209]; simp [px_ur, cMn, f4]
    have hB2 : dBk I 41 (px_u (px_u I1 50 (i - 1).toNatClampNeg x177) 51 (i - 1).toNatClampNeg x209) (i + -1).toNatClampNeg := by
      rw [show i + -1 = i - 1 by grind, pr.1]
      refine hB.step pr.2 iN (e := x177) (l := x209) (fun j => by by_cases e : j = i.toNatClampNeg - 1 <;> simp [px_ur, e]) (fun j => by by_cases e : j = i.toNatClampNeg - 1 <;> simp [px_ur, e]) ?_ ?_
      · rw [e177, cMx_int, px_sbi (by omega) (by omega), pr.1, k1.1, k2.1, d5]
      · rw [e209, cMn_int, px_sbi (by omega) (by omega), pr.1, k1.2, k2.2, d4]
    exact px_go (ih (i + -1) (by grind) (by grind) (by grind) (by grind) _ (by repeat (first | exact h1 | refine cEI.u9 ?_ (Or.inl rfl) _ _ | refine cEI.u9 ?_ (Or.inr rfl) _ _)) hB2) ⟨rfl, rfl, trivial⟩

set_option maxRecDepth 100000 in
theorem ls_dig2A {n : Nat} {R : px_R} (hg : px_G n R) {Q : px_Q} {I : px_I} {L : px_L} (hp : 0 ≤ I 41 13 ∧ I 41 13 ≤ 20) (hs : gSm I 41) (hq1 : ∀ I2, cEI 41 I I2 → gOk I 41 → (∀ j, j < dN I 41 → (I2 50 j).toInt = gEB I 41 j ∧ (I2 51 j).toInt = gLB I 41 j) → Q (some (.int 1)) n I2 L R) (hq0 : ∀ I2, cEI 41 I I2 → ¬ gOk I 41 → Q (some (.int 0)) n I2 L R) : ∀ i : Int32, i ≤ 20 → 0 ≤ i → ∀ I1, cEI 41 I I1 → dInv I 41 I1 i.toNatClampNeg → px M_X1_dig 0 0 2 [(0, .ref 41), (1, .int i)] [] n I1 L R Q := by
  refine px_up 20 (fun i ih hk => ?_)
  intro h0 I1 h1 hF1
  have hpx := hp.1
  have e13 : I1 41 13 = I 41 13 := by rw [h1 41 (by decide) (by decide)]
  have f4 : I1 45 = I 45 := h1 45 (by decide) (by decide)
  have f5 : I1 46 = I 46 := h1 46 (by decide) (by decide)
  have f7 : I1 48 = I 48 := h1 48 (by decide) (by decide)
  have f8 : I1 49 = I 49 := h1 49 (by decide) (by decide)
  refine px_ige rfl q_X1_dig_2 hg rfl trivial (fun c7 => ?_) (fun c7 => ?_)
  · refine px_b rfl q_X1_dig_138 hg rfl trivial ?_
    have e9 : dInv I 41 I1 (dN I 41) := fun j hj => hF1 j (Nat.lt_of_lt_of_le hj (px_leN hp.1 (by rw [← e13]; exact c7)))
    exact px_go (ls_dig145A hg hp hs e9.ok (fun I2 h2 => hq1 I2 h2 e9.ok) (I1 41 13 - 1) (by grind) (by grind) (by grind) I1 h1 (by rw [e13, px_mm1 hp.1 (by grind)]; exact dBk.start e9)) ⟨rfl, rfl, trivial⟩
  · have hi0 : 0 ≤ i ∧ i < 20 := by grind
    have hi1 : 0 < i → 0 ≤ i - 1 ∧ i - 1 < 20 := fun z => by grind
    refine px_le rfl q_X1_dig_10 hg rfl ⟨⟨⟨⟨trivial, (by with_reducible assumption)⟩, (by with_reducible assumption)⟩, (by with_reducible assumption)⟩, (by with_reducible assumption)⟩ (fun c35 => ?_) (fun c35 => ?_)
    · refine px_ile rfl q_X1_dig_115 hg rfl ⟨⟨trivial, (by with_reducible assumption)⟩, (by with_reducible assumption)⟩ (fun c127 => ?_) (fun c127 => ?_)
      · refine px_b rfl q_X1_dig_132 hg rfl trivial ?_
        have lt := px_ltN (i := i) (N := I 41 13) h0 (by grind)
        have z0 : i.toNatClampNeg = 0 := px_np c35
        have t0 : (I1 48 i.toNatClampNeg).toInt = gEI I 41 i.toNatClampNeg := by rw [f7, z0]; rfl
        have t1 : (I1 49 i.toNatClampNeg).toInt = gLI I 41 i.toNatClampNeg := by rw [f8, z0]; rfl
        have le : gEI I 41 i.toNatClampNeg ≤ gLI I 41 i.toNatClampNeg := by have c := c127; simp only [px_ur] at c; simp at c; rw [← t0, ← t1]; exact Int32.le_iff_toInt_le.mp c
        exact px_go (ih (i + 1) (by grind) (by grind) (by grind) _ (by repeat (first | exact h1 | refine cEI.u9 ?_ (Or.inl rfl) _ _ | refine cEI.u9 ?_ (Or.inr rfl) _ _)) (by rw [(px_tnS h0 (by grind)).1]; exact hF1.up (e := I1 48 i.toNatClampNeg) (l := I1 49 i.toNatClampNeg) (fun j => by by_cases e : j = i.toNatClampNeg <;> simp [px_ur, e]) (fun j => by by_cases e : j = i.toNatClampNeg <;> simp [px_ur, e]) t0 t1 (fun q => absurd q (by omega)) le)) ⟨rfl, rfl, trivial⟩
      · refine px_rz rfl q_X1_dig_130 rfl rfl rfl hg rfl trivial (by first | exact Or.inl rfl | exact Or.inr rfl | grind) ?_
        have lt := px_ltN (i := i) (N := I 41 13) h0 (by grind)
        have z0 : i.toNatClampNeg = 0 := px_np c35
        have t0 : (I1 48 i.toNatClampNeg).toInt = gEI I 41 i.toNatClampNeg := by rw [f7, z0]; rfl
        have t1 : (I1 49 i.toNatClampNeg).toInt = gLI I 41 i.toNatClampNeg := by rw [f8, z0]; rfl
        exact hq0 _ (by repeat (first | exact h1 | refine cEI.u9 ?_ (Or.inl rfl) _ _ | refine cEI.u9 ?_ (Or.inr rfl) _ _)) (fun o => by
          have z := (o i.toNatClampNeg lt).2
          have c := c127
          simp only [px_ur] at c
          simp at c
          have c2 := Int32.lt_iff_toInt_lt.mp c
          rw [t0, t1] at c2
          exact absurd z (Int.not_le.mpr c2))
    · replace hi1 := hi1 (Int32.not_le.mp (by assumption))
      refine px_ile rfl q_X1_dig_38 hg rfl ⟨⟨trivial, (by with_reducible assumption)⟩, (by with_reducible assumption)⟩ (fun c50 => ?_) (fun c50 => ?_)
      · refine px_cSP rfl q_X1_dig_55 hg rfl ⟨⟨⟨trivial, (by with_reducible assumption)⟩, (by with_reducible assumption)⟩, (by with_reducible assumption)⟩ lk_1_78 nm_J9_max_7cf53 (j_max hg _ _) rfl rfl rfl ⟨rfl, rfl⟩ ?_
        intro x81 h81
        refine px_cSP rfl q_X1_dig_84 hg rfl ⟨⟨⟨⟨trivial, (by with_reducible assumption)⟩, (by with_reducible assumption)⟩, (by with_reducible assumption)⟩, (by with_reducible assumption)⟩ lk_1_84 nm_J9_min_7cf53 (j_min hg _ _) rfl rfl rfl ⟨rfl, rfl⟩ ?_
        intro x111 h111
        refine px_ile rfl q_X1_dig_114 hg rfl ⟨⟨⟨trivial, (by with_reducible assumption)⟩, (by with_reducible assumption)⟩, (by with_reducible assumption)⟩ (fun c127 => ?_) (fun c127 => ?_)
        · refine px_b rfl q_X1_dig_132 hg rfl trivial ?_
          have lt : i.toNatClampNeg < dN I 41 := px_ltN (i := i) (N := I 41 13) h0 (by grind)
          have pr := px_pr (i := i) (by grind) (by grind)
          have sm := hs i.toNatClampNeg lt
          have bd := hF1.bd hs (Nat.le_of_lt lt) (i.toNatClampNeg - 1) (by omega)
          have k : (I1 50 (i.toNatClampNeg - 1)).toInt = gEI I 41 (i.toNatClampNeg - 1) ∧ (I1 51 (i.toNatClampNeg - 1)).toInt = gLI I 41 (i.toNatClampNeg - 1) := (hF1 (i.toNatClampNeg - 1) (by omega)).1
          have kl : gEI I 41 (i.toNatClampNeg - 1) ≤ gLI I 41 (i.toNatClampNeg - 1) := (hF1 (i.toNatClampNeg - 1) (by omega)).2.2
          have d4 : dFw I 41 i.toNatClampNeg = (I 45 i.toNatClampNeg).toInt := if_neg (by omega)
          have d5 : dMo I 41 i.toNatClampNeg = (I 46 i.toNatClampNeg).toInt := if_neg (by omega)
          have fm : dFw I 41 i.toNatClampNeg ≤ dMo I 41 i.toNatClampNeg := by have c := c50; simp only [px_ur] at c; simp [f4, f5] at c; rw [d4, d5]; exact Int32.le_iff_toInt_le.mp c
          have ne : ¬ (i.toNatClampNeg - 1 = i.toNatClampNeg) := by omega
          have e81 : x81 = cMx (I 48 i.toNatClampNeg) (I1 50 (i.toNatClampNeg - 1) + I 45 i.toNatClampNeg) := by rw [h81, pr.1]; simp [px_ur, cMx, f4, f7, ne]
          have e111 : x111 = cMn (I 49 i.toNatClampNeg) (I1 51 (i.toNatClampNeg - 1) + I 46 i.toNatClampNeg) := by rw [h111, pr.1]; simp [px_ur, cMn, f5, f8, ne]
          have t81 : x81.toInt = gEI I 41 i.toNatClampNeg := by
            rw [e81, cMx_int, px_adi (by omega) (by omega), k.1, ← d4]
            have : i.toNatClampNeg = i.toNatClampNeg - 1 + 1 := by omega
            rw [this]; rfl
          have t111 : x111.toInt = gLI I 41 i.toNatClampNeg := by
            rw [e111, cMn_int, px_adi (by omega) (by omega), k.2, ← d5]
            have : i.toNatClampNeg = i.toNatClampNeg - 1 + 1 := by omega
            rw [this]; rfl
          have le : gEI I 41 i.toNatClampNeg ≤ gLI I 41 i.toNatClampNeg := by have c := c127; simp only [px_ur] at c; simp at c; rw [← t81, ← t111]; exact Int32.le_iff_toInt_le.mp c
          exact px_go (ih (i + 1) (by grind) (by grind) (by grind) _ (by repeat (first | exact h1 | refine cEI.u9 ?_ (Or.inl rfl) _ _ | refine cEI.u9 ?_ (Or.inr rfl) _ _)) (by rw [(px_tnS h0 (by grind)).1]; exact hF1.up (e := x81) (l := x111) (fun j => by by_cases e : j = i.toNatClampNeg <;> simp [px_ur, e]) (fun j => by by_cases e : j = i.toNatClampNeg <;> simp [px_ur, e]) t81 t111 (fun _ => fm) le)) ⟨rfl, rfl, trivial⟩
        · refine px_rz rfl q_X1_dig_130 rfl rfl rfl hg rfl trivial (by first | exact Or.inl rfl | exact Or.inr rfl | grind) ?_
          have lt : i.toNatClampNeg < dN I 41 := px_ltN (i := i) (N := I 41 13) h0 (by grind)
          have pr := px_pr (i := i) (by grind) (by grind)
          have sm := hs i.toNatClampNeg lt
          have bd := hF1.bd hs (Nat.le_of_lt lt) (i.toNatClampNeg - 1) (by omega)
          have k : (I1 50 (i.toNatClampNeg - 1)).toInt = gEI I 41 (i.toNatClampNeg - 1) ∧ (I1 51 (i.toNatClampNeg - 1)).toInt = gLI I 41 (i.toNatClampNeg - 1) := (hF1 (i.toNatClampNeg - 1) (by omega)).1
          have kl : gEI I 41 (i.toNatClampNeg - 1) ≤ gLI I 41 (i.toNatClampNeg - 1) := (hF1 (i.toNatClampNeg - 1) (by omega)).2.2
          have d4 : dFw I 41 i.toNatClampNeg = (I 45 i.toNatClampNeg).toInt := if_neg (by omega)
          have d5 : dMo I 41 i.toNatClampNeg = (I 46 i.toNatClampNeg).toInt := if_neg (by omega)
          have fm : dFw I 41 i.toNatClampNeg ≤ dMo I 41 i.toNatClampNeg := by have c := c50; simp only [px_ur] at c; simp [f4, f5] at c; rw [d4, d5]; exact Int32.le_iff_toInt_le.mp c
          have ne : ¬ (i.toNatClampNeg - 1 = i.toNatClampNeg) := by omega
          have e81 : x81 = cMx (I 48 i.toNatClampNeg) (I1 50 (i.toNatClampNeg - 1) + I 45 i.toNatClampNeg) := by rw [h81, pr.1]; simp [px_ur, cMx, f4, f7, ne]
          have e111 : x111 = cMn (I 49 i.toNatClampNeg) (I1 51 (i.toNatClampNeg - 1) + I 46 i.toNatClampNeg) := by rw [h111, pr.1]; simp [px_ur, cMn, f5, f8, ne]
          have t81 : x81.toInt = gEI I 41 i.toNatClampNeg := by
            rw [e81, cMx_int, px_adi (by omega) (by omega), k.1, ← d4]
            have : i.toNatClampNeg = i.toNatClampNeg - 1 + 1 := by omega
            rw [this]; rfl
          have t111 : x111.toInt = gLI I 41 i.toNatClampNeg := by
            rw [e111, cMn_int, px_adi (by omega) (by omega), k.2, ← d5]
            have : i.toNatClampNeg = i.toNatClampNeg - 1 + 1 := by omega
            rw [this]; rfl
          exact hq0 _ (by repeat (first | exact h1 | refine cEI.u9 ?_ (Or.inl rfl) _ _ | refine cEI.u9 ?_ (Or.inr rfl) _ _)) (fun o => by
            have z := (o i.toNatClampNeg lt).2
            have c := c127
            simp only [px_ur] at c
            simp at c
            have c2 := Int32.lt_iff_toInt_lt.mp c
            rw [t81, t111] at c2
            exact absurd z (Int.not_le.mpr c2))
      · refine px_rz rfl q_X1_dig_53 rfl rfl rfl hg rfl trivial (by first | exact Or.inl rfl | exact Or.inr rfl | grind) ?_
        exact hq0 _ (by repeat (first | exact h1 | refine cEI.u9 ?_ (Or.inl rfl) _ _ | refine cEI.u9 ?_ (Or.inr rfl) _ _)) (fun o => by
          have lt := px_ltN (i := i) (N := I 41 13) h0 (by grind)
          have pr := px_pr (i := i) (by grind) (by grind)
          have z := (o i.toNatClampNeg lt).1 pr.2
          have c := c50
          simp only [px_ur] at c
          simp [f4, f5] at c
          have c2 := Int32.lt_iff_toInt_lt.mp c
          have d4 : dFw I 41 i.toNatClampNeg = (I 45 i.toNatClampNeg).toInt := if_neg (by omega)
          have d5 : dMo I 41 i.toNatClampNeg = (I 46 i.toNatClampNeg).toInt := if_neg (by omega)
          rw [d4, d5] at z
          exact absurd z (Int.not_le.mpr c2))

set_option maxRecDepth 100000 in
theorem cs_digA {n : Nat} {I : px_I} {L : px_L} {R : px_R} (hg : px_G n R) (hp : 0 ≤ I 41 13 ∧ I 41 13 ≤ 20) (hs : gSm I 41) : px_KS M_X1_dig [.ref 41] n I L R (fun r I2 L2 => L2 = L ∧ cEI 41 I I2 ∧ ((r = 1 ∧ gOk I 41 ∧ (∀ j, j < dN I 41 → (I2 50 j).toInt = gEB I 41 j ∧ (I2 51 j).toInt = gLB I 41 j)) ∨ (r = 0 ∧ ¬ gOk I 41))) := by
  refine px_of (plainFor_of_name np_RX1) (fun _ _ _ => trivial) rfl ?_
  refine px_b rfl q_X1_dig_0 hg rfl trivial ?_
  exact px_go (ls_dig2A hg hp hs (fun I2 h o hr => ⟨rfl, rfl, 1, rfl, rfl, h, Or.inl ⟨rfl, o, hr⟩⟩) (fun I2 h o => ⟨rfl, rfl, 0, rfl, rfl, h, Or.inr ⟨rfl, o⟩⟩) 0 (by decide) (by decide) I (fun _ _ _ => rfl) (fun j hj => absurd hj (by rw [px_z0]; exact Nat.not_lt_zero _))) ⟨rfl, rfl, trivial⟩

set_option maxRecDepth 100000 in
theorem ls_dig145B {n : Nat} {R : px_R} (hg : px_G n R) {Q : px_Q} {I : px_I} {L : px_L} (hp : 0 ≤ I 55 13 ∧ I 55 13 ≤ 20) (hs : gSm I 55) (ho : gOk I 55) (hq1 : ∀ I2, cEI 55 I I2 → (∀ j, j < dN I 55 → (I2 64 j).toInt = gEB I 55 j ∧ (I2 65 j).toInt = gLB I 55 j) → Q (some (.int 1)) n I2 L R) : ∀ i : Int32, -1 ≤ i → i < 20 → i < I 55 13 → ∀ I1, cEI 55 I I1 → dBk I 55 I1 i.toNatClampNeg → px M_X1_dig 0 0 145 [(0, .ref 55), (1, .int i)] [] n I1 L R Q := by
  refine px_dn (-1) (fun i ih hk => ?_)
  intro h0 hiN I1 h1 hB
  have e13 : I1 55 13 = I 55 13 := by rw [h1 55 (by decide) (by decide)]
  have f4 : I1 59 = I 59 := h1 59 (by decide) (by decide)
  have f5 : I1 60 = I 60 := h1 60 (by decide) (by decide)
  have f7 : I1 62 = I 62 := h1 62 (by decide) (by decide)
  have f8 : I1 63 = I 63 := h1 63 (by decide) (by decide)
  refine px_le rfl q_X1_dig_145 hg rfl trivial (fun c146 => ?_) (fun c146 => ?_)
  · refine px_rz rfl q_X1_dig_219 rfl rfl rfl hg rfl trivial (by first | exact Or.inl rfl | exact Or.inr rfl | grind) ?_
    have z : i.toNatClampNeg = 0 := px_np c146
    exact hq1 _ h1 (fun j hj => by
      have k := hB j hj
      rw [if_pos (by omega), if_pos (by omega)] at k
      exact k)
  · have hi0 : 0 ≤ i ∧ i < 20 := by grind
    have hi1 : 0 ≤ i - 1 ∧ i - 1 < 20 := by grind
    refine px_cSP rfl q_X1_dig_149 hg rfl ⟨⟨⟨trivial, (by with_reducible assumption)⟩, (by with_reducible assumption)⟩, (by with_reducible assumption)⟩ lk_1_78 nm_J9_max_7cf53 (j_max hg _ _) rfl rfl rfl ⟨rfl, rfl⟩ ?_
    intro x177 h177
    refine px_cSP rfl q_X1_dig_180 hg rfl ⟨⟨⟨⟨trivial, (by with_reducible assumption)⟩, (by with_reducible assumption)⟩, (by with_reducible assumption)⟩, (by with_reducible assumption)⟩ lk_1_84 nm_J9_min_7cf53 (j_min hg _ _) rfl rfl rfl ⟨rfl, rfl⟩ ?_
    intro x209 h209
    refine px_b rfl q_X1_dig_212 hg rfl ⟨trivial, (by with_reducible assumption)⟩ ?_
    have pr := px_pr (i := i) (by grind) (by grind)
    have iN : i.toNatClampNeg < dN I 55 := px_ltN (i := i) (N := I 55 13) (by grind) hiN
    have b1 := gB_in hs ho (p := i.toNatClampNeg) iN
    have b2 := gB_in hs ho (p := i.toNatClampNeg - 1) (by omega)
    have sm := hs i.toNatClampNeg iN
    have k1 : (I1 64 i.toNatClampNeg).toInt = gEB I 55 i.toNatClampNeg ∧ (I1 65 i.toNatClampNeg).toInt = gLB I 55 i.toNatClampNeg := by
      have k := hB i.toNatClampNeg iN
      rw [if_pos (Nat.le_refl _), if_pos (Nat.le_refl _)] at k
      exact k
    have k2 : (I1 64 (i.toNatClampNeg - 1)).toInt = gEI I 55 (i.toNatClampNeg - 1) ∧ (I1 65 (i.toNatClampNeg - 1)).toInt = gLI I 55 (i.toNatClampNeg - 1) := by
      have k := hB (i.toNatClampNeg - 1) (by omega)
      rw [if_neg (by omega), if_neg (by omega)] at k
      exact k
    have d4 : dFw I 55 i.toNatClampNeg = (I 59 i.toNatClampNeg).toInt := if_neg (by omega)
    have d5 : dMo I 55 i.toNatClampNeg = (I 60 i.toNatClampNeg).toInt := if_neg (by omega)
    have e177 : x177 = cMx (I1 64 (i - 1).toNatClampNeg) (I1 64 i.toNatClampNeg - I 60 i.toNatClampNeg) := by rw [h177]; simp [px_ur, cMx, f5]
    have e209 : x209 = cMn (I1 65 (i - 1).toNatClampNeg) (I1 65 i.toNatClampNeg - I 59 i.toNatClampNeg) := by rw [h209]; simp [px_ur, cMn, f4]
    have hB2 : dBk I 55 (px_u (px_u I1 64 (i - 1).toNatClampNeg x177) 65 (i - 1).toNatClampNeg x209) (i + -1).toNatClampNeg := by
      rw [show i + -1 = i - 1 by grind, pr.1]
      refine hB.step pr.2 iN (e := x177) (l := x209) (fun j => by by_cases e : j = i.toNatClampNeg - 1 <;> simp [px_ur, e]) (fun j => by by_cases e : j = i.toNatClampNeg - 1 <;> simp [px_ur, e]) ?_ ?_
      · rw [e177, cMx_int, px_sbi (by omega) (by omega), pr.1, k1.1, k2.1, d5]
      · rw [e209, cMn_int, px_sbi (by omega) (by omega), pr.1, k1.2, k2.2, d4]
    exact px_go (ih (i + -1) (by grind) (by grind) (by grind) (by grind) _ (by repeat (first | exact h1 | refine cEI.u9 ?_ (Or.inl rfl) _ _ | refine cEI.u9 ?_ (Or.inr rfl) _ _)) hB2) ⟨rfl, rfl, trivial⟩

set_option maxRecDepth 100000 in
theorem ls_dig2B {n : Nat} {R : px_R} (hg : px_G n R) {Q : px_Q} {I : px_I} {L : px_L} (hp : 0 ≤ I 55 13 ∧ I 55 13 ≤ 20) (hs : gSm I 55) (hq1 : ∀ I2, cEI 55 I I2 → gOk I 55 → (∀ j, j < dN I 55 → (I2 64 j).toInt = gEB I 55 j ∧ (I2 65 j).toInt = gLB I 55 j) → Q (some (.int 1)) n I2 L R) (hq0 : ∀ I2, cEI 55 I I2 → ¬ gOk I 55 → Q (some (.int 0)) n I2 L R) : ∀ i : Int32, i ≤ 20 → 0 ≤ i → ∀ I1, cEI 55 I I1 → dInv I 55 I1 i.toNatClampNeg → px M_X1_dig 0 0 2 [(0, .ref 55), (1, .int i)] [] n I1 L R Q := by
  refine px_up 20 (fun i ih hk => ?_)
  intro h0 I1 h1 hF1
  have hpx := hp.1
  have e13 : I1 55 13 = I 55 13 := by rw [h1 55 (by decide) (by decide)]
  have f4 : I1 59 = I 59 := h1 59 (by decide) (by decide)
  have f5 : I1 60 = I 60 := h1 60 (by decide) (by decide)
  have f7 : I1 62 = I 62 := h1 62 (by decide) (by decide)
  have f8 : I1 63 = I 63 := h1 63 (by decide) (by decide)
  refine px_ige rfl q_X1_dig_2 hg rfl trivial (fun c7 => ?_) (fun c7 => ?_)
  · refine px_b rfl q_X1_dig_138 hg rfl trivial ?_
    have e9 : dInv I 55 I1 (dN I 55) := fun j hj => hF1 j (Nat.lt_of_lt_of_le hj (px_leN hp.1 (by rw [← e13]; exact c7)))
    exact px_go (ls_dig145B hg hp hs e9.ok (fun I2 h2 => hq1 I2 h2 e9.ok) (I1 55 13 - 1) (by grind) (by grind) (by grind) I1 h1 (by rw [e13, px_mm1 hp.1 (by grind)]; exact dBk.start e9)) ⟨rfl, rfl, trivial⟩
  · have hi0 : 0 ≤ i ∧ i < 20 := by grind
    have hi1 : 0 < i → 0 ≤ i - 1 ∧ i - 1 < 20 := fun z => by grind
    refine px_le rfl q_X1_dig_10 hg rfl ⟨⟨⟨⟨trivial, (by with_reducible assumption)⟩, (by with_reducible assumption)⟩, (by with_reducible assumption)⟩, (by with_reducible assumption)⟩ (fun c35 => ?_) (fun c35 => ?_)
    · refine px_ile rfl q_X1_dig_115 hg rfl ⟨⟨trivial, (by with_reducible assumption)⟩, (by with_reducible assumption)⟩ (fun c127 => ?_) (fun c127 => ?_)
      · refine px_b rfl q_X1_dig_132 hg rfl trivial ?_
        have lt := px_ltN (i := i) (N := I 55 13) h0 (by grind)
        have z0 : i.toNatClampNeg = 0 := px_np c35
        have t0 : (I1 62 i.toNatClampNeg).toInt = gEI I 55 i.toNatClampNeg := by rw [f7, z0]; rfl
        have t1 : (I1 63 i.toNatClampNeg).toInt = gLI I 55 i.toNatClampNeg := by rw [f8, z0]; rfl
        have le : gEI I 55 i.toNatClampNeg ≤ gLI I 55 i.toNatClampNeg := by have c := c127; simp only [px_ur] at c; simp at c; rw [← t0, ← t1]; exact Int32.le_iff_toInt_le.mp c
        exact px_go (ih (i + 1) (by grind) (by grind) (by grind) _ (by repeat (first | exact h1 | refine cEI.u9 ?_ (Or.inl rfl) _ _ | refine cEI.u9 ?_ (Or.inr rfl) _ _)) (by rw [(px_tnS h0 (by grind)).1]; exact hF1.up (e := I1 62 i.toNatClampNeg) (l := I1 63 i.toNatClampNeg) (fun j => by by_cases e : j = i.toNatClampNeg <;> simp [px_ur, e]) (fun j => by by_cases e : j = i.toNatClampNeg <;> simp [px_ur, e]) t0 t1 (fun q => absurd q (by omega)) le)) ⟨rfl, rfl, trivial⟩
      · refine px_rz rfl q_X1_dig_130 rfl rfl rfl hg rfl trivial (by first | exact Or.inl rfl | exact Or.inr rfl | grind) ?_
        have lt := px_ltN (i := i) (N := I 55 13) h0 (by grind)
        have z0 : i.toNatClampNeg = 0 := px_np c35
        have t0 : (I1 62 i.toNatClampNeg).toInt = gEI I 55 i.toNatClampNeg := by rw [f7, z0]; rfl
        have t1 : (I1 63 i.toNatClampNeg).toInt = gLI I 55 i.toNatClampNeg := by rw [f8, z0]; rfl
        exact hq0 _ (by repeat (first | exact h1 | refine cEI.u9 ?_ (Or.inl rfl) _ _ | refine cEI.u9 ?_ (Or.inr rfl) _ _)) (fun o => by
          have z := (o i.toNatClampNeg lt).2
          have c := c127
          simp only [px_ur] at c
          simp at c
          have c2 := Int32.lt_iff_toInt_lt.mp c
          rw [t0, t1] at c2
          exact absurd z (Int.not_le.mpr c2))
    · replace hi1 := hi1 (Int32.not_le.mp (by assumption))
      refine px_ile rfl q_X1_dig_38 hg rfl ⟨⟨trivial, (by with_reducible assumption)⟩, (by with_reducible assumption)⟩ (fun c50 => ?_) (fun c50 => ?_)
      · refine px_cSP rfl q_X1_dig_55 hg rfl ⟨⟨⟨trivial, (by with_reducible assumption)⟩, (by with_reducible assumption)⟩, (by with_reducible assumption)⟩ lk_1_78 nm_J9_max_7cf53 (j_max hg _ _) rfl rfl rfl ⟨rfl, rfl⟩ ?_
        intro x81 h81
        refine px_cSP rfl q_X1_dig_84 hg rfl ⟨⟨⟨⟨trivial, (by with_reducible assumption)⟩, (by with_reducible assumption)⟩, (by with_reducible assumption)⟩, (by with_reducible assumption)⟩ lk_1_84 nm_J9_min_7cf53 (j_min hg _ _) rfl rfl rfl ⟨rfl, rfl⟩ ?_
        intro x111 h111
        refine px_ile rfl q_X1_dig_114 hg rfl ⟨⟨⟨trivial, (by with_reducible assumption)⟩, (by with_reducible assumption)⟩, (by with_reducible assumption)⟩ (fun c127 => ?_) (fun c127 => ?_)
        · refine px_b rfl q_X1_dig_132 hg rfl trivial ?_
          have lt : i.toNatClampNeg < dN I 55 := px_ltN (i := i) (N := I 55 13) h0 (by grind)
          have pr := px_pr (i := i) (by grind) (by grind)
          have sm := hs i.toNatClampNeg lt
          have bd := hF1.bd hs (Nat.le_of_lt lt) (i.toNatClampNeg - 1) (by omega)
          have k : (I1 64 (i.toNatClampNeg - 1)).toInt = gEI I 55 (i.toNatClampNeg - 1) ∧ (I1 65 (i.toNatClampNeg - 1)).toInt = gLI I 55 (i.toNatClampNeg - 1) := (hF1 (i.toNatClampNeg - 1) (by omega)).1
          have kl : gEI I 55 (i.toNatClampNeg - 1) ≤ gLI I 55 (i.toNatClampNeg - 1) := (hF1 (i.toNatClampNeg - 1) (by omega)).2.2
          have d4 : dFw I 55 i.toNatClampNeg = (I 59 i.toNatClampNeg).toInt := if_neg (by omega)
          have d5 : dMo I 55 i.toNatClampNeg = (I 60 i.toNatClampNeg).toInt := if_neg (by omega)
          have fm : dFw I 55 i.toNatClampNeg ≤ dMo I 55 i.toNatClampNeg := by have c := c50; simp only [px_ur] at c; simp [f4, f5] at c; rw [d4, d5]; exact Int32.le_iff_toInt_le.mp c
          have ne : ¬ (i.toNatClampNeg - 1 = i.toNatClampNeg) := by omega
          have e81 : x81 = cMx (I 62 i.toNatClampNeg) (I1 64 (i.toNatClampNeg - 1) + I 59 i.toNatClampNeg) := by rw [h81, pr.1]; simp [px_ur, cMx, f4, f7, ne]
          have e111 : x111 = cMn (I 63 i.toNatClampNeg) (I1 65 (i.toNatClampNeg - 1) + I 60 i.toNatClampNeg) := by rw [h111, pr.1]; simp [px_ur, cMn, f5, f8, ne]
          have t81 : x81.toInt = gEI I 55 i.toNatClampNeg := by
            rw [e81, cMx_int, px_adi (by omega) (by omega), k.1, ← d4]
            have : i.toNatClampNeg = i.toNatClampNeg - 1 + 1 := by omega
            rw [this]; rfl
          have t111 : x111.toInt = gLI I 55 i.toNatClampNeg := by
            rw [e111, cMn_int, px_adi (by omega) (by omega), k.2, ← d5]
            have : i.toNatClampNeg = i.toNatClampNeg - 1 + 1 := by omega
            rw [this]; rfl
          have le : gEI I 55 i.toNatClampNeg ≤ gLI I 55 i.toNatClampNeg := by have c := c127; simp only [px_ur] at c; simp at c; rw [← t81, ← t111]; exact Int32.le_iff_toInt_le.mp c
          exact px_go (ih (i + 1) (by grind) (by grind) (by grind) _ (by repeat (first | exact h1 | refine cEI.u9 ?_ (Or.inl rfl) _ _ | refine cEI.u9 ?_ (Or.inr rfl) _ _)) (by rw [(px_tnS h0 (by grind)).1]; exact hF1.up (e := x81) (l := x111) (fun j => by by_cases e : j = i.toNatClampNeg <;> simp [px_ur, e]) (fun j => by by_cases e : j = i.toNatClampNeg <;> simp [px_ur, e]) t81 t111 (fun _ => fm) le)) ⟨rfl, rfl, trivial⟩
        · refine px_rz rfl q_X1_dig_130 rfl rfl rfl hg rfl trivial (by first | exact Or.inl rfl | exact Or.inr rfl | grind) ?_
          have lt : i.toNatClampNeg < dN I 55 := px_ltN (i := i) (N := I 55 13) h0 (by grind)
          have pr := px_pr (i := i) (by grind) (by grind)
          have sm := hs i.toNatClampNeg lt
          have bd := hF1.bd hs (Nat.le_of_lt lt) (i.toNatClampNeg - 1) (by omega)
          have k : (I1 64 (i.toNatClampNeg - 1)).toInt = gEI I 55 (i.toNatClampNeg - 1) ∧ (I1 65 (i.toNatClampNeg - 1)).toInt = gLI I 55 (i.toNatClampNeg - 1) := (hF1 (i.toNatClampNeg - 1) (by omega)).1
          have kl : gEI I 55 (i.toNatClampNeg - 1) ≤ gLI I 55 (i.toNatClampNeg - 1) := (hF1 (i.toNatClampNeg - 1) (by omega)).2.2
          have d4 : dFw I 55 i.toNatClampNeg = (I 59 i.toNatClampNeg).toInt := if_neg (by omega)
          have d5 : dMo I 55 i.toNatClampNeg = (I 60 i.toNatClampNeg).toInt := if_neg (by omega)
          have fm : dFw I 55 i.toNatClampNeg ≤ dMo I 55 i.toNatClampNeg := by have c := c50; simp only [px_ur] at c; simp [f4, f5] at c; rw [d4, d5]; exact Int32.le_iff_toInt_le.mp c
          have ne : ¬ (i.toNatClampNeg - 1 = i.toNatClampNeg) := by omega
          have e81 : x81 = cMx (I 62 i.toNatClampNeg) (I1 64 (i.toNatClampNeg - 1) + I 59 i.toNatClampNeg) := by rw [h81, pr.1]; simp [px_ur, cMx, f4, f7, ne]
          have e111 : x111 = cMn (I 63 i.toNatClampNeg) (I1 65 (i.toNatClampNeg - 1) + I 60 i.toNatClampNeg) := by rw [h111, pr.1]; simp [px_ur, cMn, f5, f8, ne]
          have t81 : x81.toInt = gEI I 55 i.toNatClampNeg := by
            rw [e81, cMx_int, px_adi (by omega) (by omega), k.1, ← d4]
            have : i.toNatClampNeg = i.toNatClampNeg - 1 + 1 := by omega
            rw [this]; rfl
          have t111 : x111.toInt = gLI I 55 i.toNatClampNeg := by
            rw [e111, cMn_int, px_adi (by omega) (by omega), k.2, ← d5]
            have : i.toNatClampNeg = i.toNatClampNeg - 1 + 1 := by omega
            rw [this]; rfl
          exact hq0 _ (by repeat (first | exact h1 | refine cEI.u9 ?_ (Or.inl rfl) _ _ | refine cEI.u9 ?_ (Or.inr rfl) _ _)) (fun o => by
            have z := (o i.toNatClampNeg lt).2
            have c := c127
            simp only [px_ur] at c
            simp at c
            have c2 := Int32.lt_iff_toInt_lt.mp c
            rw [t81, t111] at c2
            exact absurd z (Int.not_le.mpr c2))
      · refine px_rz rfl q_X1_dig_53 rfl rfl rfl hg rfl trivial (by first | exact Or.inl rfl | exact Or.inr rfl | grind) ?_
        exact hq0 _ (by repeat (first | exact h1 | refine cEI.u9 ?_ (Or.inl rfl) _ _ | refine cEI.u9 ?_ (Or.inr rfl) _ _)) (fun o => by
          have lt := px_ltN (i := i) (N := I 55 13) h0 (by grind)
          have pr := px_pr (i := i) (by grind) (by grind)
          have z := (o i.toNatClampNeg lt).1 pr.2
          have c := c50
          simp only [px_ur] at c
          simp [f4, f5] at c
          have c2 := Int32.lt_iff_toInt_lt.mp c
          have d4 : dFw I 55 i.toNatClampNeg = (I 59 i.toNatClampNeg).toInt := if_neg (by omega)
          have d5 : dMo I 55 i.toNatClampNeg = (I 60 i.toNatClampNeg).toInt := if_neg (by omega)
          rw [d4, d5] at z
          exact absurd z (Int.not_le.mpr c2))

set_option maxRecDepth 100000 in
theorem cs_digB {n : Nat} {I : px_I} {L : px_L} {R : px_R} (hg : px_G n R) (hp : 0 ≤ I 55 13 ∧ I 55 13 ≤ 20) (hs : gSm I 55) : px_KS M_X1_dig [.ref 55] n I L R (fun r I2 L2 => L2 = L ∧ cEI 55 I I2 ∧ ((r = 1 ∧ gOk I 55 ∧ (∀ j, j < dN I 55 → (I2 64 j).toInt = gEB I 55 j ∧ (I2 65 j).toInt = gLB I 55 j)) ∨ (r = 0 ∧ ¬ gOk I 55))) := by
  refine px_of (plainFor_of_name np_RX1) (fun _ _ _ => trivial) rfl ?_
  refine px_b rfl q_X1_dig_0 hg rfl trivial ?_
  exact px_go (ls_dig2B hg hp hs (fun I2 h o hr => ⟨rfl, rfl, 1, rfl, rfl, h, Or.inl ⟨rfl, o, hr⟩⟩) (fun I2 h o => ⟨rfl, rfl, 0, rfl, rfl, h, Or.inr ⟨rfl, o⟩⟩) 0 (by decide) (by decide) I (fun _ _ _ => rfl) (fun j hj => absurd hj (by rw [px_z0]; exact Nat.not_lt_zero _))) ⟨rfl, rfl, trivial⟩
