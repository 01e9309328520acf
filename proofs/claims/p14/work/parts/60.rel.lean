/-! what agrees in both books -/

theorem px_n0 : (0 : Int32).toNatClampNeg = 0 := by decide
theorem px_n1 : (1 : Int32).toNatClampNeg = 1 := by decide
theorem px_01 {g : Int32} (h0 : 0 ≤ g) (h1 : g ≤ 1) : g = 0 ∨ g = 1 := by grind
theorem cReach_p {G : Nat} {I : px_I} {lo hi sl fa w st : Int32} : cReach G I lo hi sl fa w st G 13 = (if I G 13 = 0 then 1 else I G 13) + 1 := by
  unfold cReach cRch
  rw [px_u_ne (by omega), px_u_ne (by omega), px_u_ne (by omega), px_u_ne (by omega), px_u_ne (by omega), cPeg_13]
  split
  · rename_i h
    rw [cPeg_13, h]; rfl
  · rfl
theorem mReach_p {I : px_I} {g lo hi sl fa w st : Int32} : mReach I g lo hi sl fa w st 110 g.toNatClampNeg = mP0 I g + 1 := by unfold mReach; rw [px_u_at]
theorem mReach_q {I : px_I} {g lo hi sl fa w st : Int32} {k : Nat} (h : k ≠ g.toNatClampNeg) : mReach I g lo hi sl fa w st 110 k = I 110 k := by
  unfold mReach
  rw [px_u_at_ne h]
  repeat rw [px_u_ne (by omega)]
  rw [px_u_at_ne h]
theorem bG_01 {g : Int32} (h0 : 0 ≤ g) (h1 : g ≤ 1) : ∃ G, bG g G := by
  rcases px_01 h0 h1 with rfl | rfl
  · exact ⟨41, Or.inl ⟨rfl, rfl⟩⟩
  · exact ⟨55, Or.inr ⟨rfl, rfl⟩⟩
theorem bG_le {g : Int32} {G : Nat} (h : bG g G) : 0 ≤ g ∧ g ≤ 1 := by
  rcases h with ⟨rfl, rfl⟩ | ⟨rfl, rfl⟩ <;> decide

theorem cReach_2 {G k : Nat} {I : px_I} {lo hi sl fa w st : Int32} : cReach G I lo hi sl fa w st (G + 2) k = if k = (if I G 13 = 0 then 1 else I G 13).toNatClampNeg then lo else I (G + 2) k := by
  unfold cReach cRch
  rw [px_u_ne (by omega), px_u_ne (by omega), px_u_ne (by omega), px_u_ne (by omega), px_ur, if_pos rfl]
  unfold cPeg
  rw [px_u_ne (by omega), px_u_ne (by omega), px_u_ne (by omega), px_u_ne (by omega)]
  by_cases c : I G 13 = 0
  · rw [if_pos c, if_pos c, px_u_ne (by omega), px_u_ne (by omega), px_u_ne (by omega), px_u_ne (by omega)]
  · rw [if_neg c, if_neg c]
theorem cReach_3 {G k : Nat} {I : px_I} {lo hi sl fa w st : Int32} : cReach G I lo hi sl fa w st (G + 3) k = if k = (if I G 13 = 0 then 1 else I G 13).toNatClampNeg then hi else I (G + 3) k := by
  unfold cReach cRch
  rw [px_u_ne (by omega), px_u_ne (by omega), px_u_ne (by omega), px_ur, if_pos rfl, px_u_ne (by omega)]
  unfold cPeg
  rw [px_u_ne (by omega), px_u_ne (by omega), px_u_ne (by omega), px_u_ne (by omega)]
  by_cases c : I G 13 = 0
  · rw [if_pos c, if_pos c, px_u_ne (by omega), px_u_ne (by omega), px_u_ne (by omega), px_u_ne (by omega)]
  · rw [if_neg c, if_neg c]
theorem mReach_1 {k : Nat} {I : px_I} {g lo hi sl fa w st : Int32} : mReach I g lo hi sl fa w st 111 k = if k = (20 * g + mP0 I g).toNatClampNeg then lo else I 111 k := by
  unfold mReach
  rw [px_u_ne (by omega), px_u_ne (by omega), px_u_ne (by omega), px_u_ne (by omega), px_u_ne (by omega), px_u_ne (by omega), px_ur, if_pos rfl, px_u_ne (by omega)]
theorem mReach_2 {k : Nat} {I : px_I} {g lo hi sl fa w st : Int32} : mReach I g lo hi sl fa w st 112 k = if k = (20 * g + mP0 I g).toNatClampNeg then hi else I 112 k := by
  unfold mReach
  rw [px_u_ne (by omega), px_u_ne (by omega), px_u_ne (by omega), px_u_ne (by omega), px_u_ne (by omega), px_ur, if_pos rfl, px_u_ne (by omega), px_u_ne (by omega)]
def lnOk (F H A B : Nat → Int32) (off c : Int32) : Prop := ∀ p : Int32, 1 ≤ p → p < c → (F p.toNatClampNeg = A (off + p).toNatClampNeg ∧ H p.toNatClampNeg = B (off + p).toNatClampNeg) ∧ (1 ≤ A (off + p).toNatClampNeg ∧ A (off + p).toNatClampNeg ≤ 1000000) ∧ (1 ≤ B (off + p).toNatClampNeg ∧ B (off + p).toNatClampNeg ≤ 1000000)
theorem ln_new {F H A B F2 H2 A2 B2 : Nat → Int32} {off c P lo hi : Int32} (h : lnOk F H A B off c) (ho : off = 0 ∨ off = 20) (hP : (c = 0 ∧ P = 1) ∨ (c ≠ 0 ∧ P = c)) (hc : 0 ≤ c ∧ c < 20) (hl : 1 ≤ lo ∧ lo ≤ hi ∧ hi ≤ 1000000)
    (hF : ∀ k, F2 k = if k = P.toNatClampNeg then lo else F k) (hH : ∀ k, H2 k = if k = P.toNatClampNeg then hi else H k) (hA : ∀ k, A2 k = if k = (off + P).toNatClampNeg then lo else A k) (hB : ∀ k, B2 k = if k = (off + P).toNatClampNeg then hi else B k) : lnOk F2 H2 A2 B2 off (P + 1) := by
  intro p h1 h2
  rw [hF, hH, hA, hB]
  by_cases e : p = P
  · subst e
    rw [if_pos rfl, if_pos rfl, if_pos rfl, if_pos rfl]
    exact ⟨⟨rfl, rfl⟩, ⟨hl.1, by grind⟩, by grind, hl.2.2⟩
  · have hp : p < P := by grind
    have n1 : ¬ p.toNatClampNeg = P.toNatClampNeg := fun q => e (px_inj (by grind) (by grind) q)
    have n2 : ¬ (off + p).toNatClampNeg = (off + P).toNatClampNeg := fun q => by
      rcases ho with rfl | rfl
      · exact e (by have := px_inj (a := 0 + p) (b := 0 + P) (by grind) (by grind) q; grind)
      · exact e (by have := px_inj (a := 20 + p) (b := 20 + P) (by grind) (by grind) q; grind)
    rw [if_neg n1, if_neg n1, if_neg n2, if_neg n2]
    exact h p h1 (by grind)
theorem ln_old {F H A B A2 B2 : Nat → Int32} {off o2 c P lo hi : Int32} (h : lnOk F H A B off c) (ho : (off = 0 ∧ o2 = 20) ∨ (off = 20 ∧ o2 = 0)) (hP : 1 ≤ P ∧ P < 20) (hc : 0 ≤ c ∧ c ≤ 20)
    (hA : ∀ k, A2 k = if k = (o2 + P).toNatClampNeg then lo else A k) (hB : ∀ k, B2 k = if k = (o2 + P).toNatClampNeg then hi else B k) : lnOk F H A2 B2 off c := by
  intro p h1 h2
  rw [hA, hB]
  have n2 : ¬ (off + p).toNatClampNeg = (o2 + P).toNatClampNeg := fun q => by
    rcases ho with ⟨rfl, rfl⟩ | ⟨rfl, rfl⟩
    · have := px_inj (a := 0 + p) (b := 20 + P) (by grind) (by grind) q; grind
    · have := px_inj (a := 20 + p) (b := 0 + P) (by grind) (by grind) q; grind
  rw [if_neg n2, if_neg n2]
  exact h p h1 h2
theorem px_sc1 {x N : Int32} (h : x ≤ N) (hN : N < 2147483647) : (x + 1).toInt = x.toInt + 1 := by
  have h2 := Int32.le_iff_toInt_le.mp h
  have h3 := Int32.lt_iff_toInt_lt.mp hN
  have h4 := Int32.le_toInt x
  rw [show (2147483647 : Int32).toInt = 2147483647 by decide] at h3
  rw [Int32.toInt_add, show (1 : Int32).toInt = 1 by decide, Int.bmod_eq_of_le (by omega) (by omega)]
theorem px_d32 {a b : Int32} (h0 : 0 ≤ a.toInt) (h1 : 1 ≤ b.toInt) : (a / b).toInt = a.toInt / b.toInt := by
  rw [Int32.toInt_div, Int.tdiv_eq_ediv_of_nonneg h0]
  have h2 := Int.ediv_le_self b.toInt h0
  have h3 := Int.ediv_nonneg h0 (by omega : (0 : Int) ≤ b.toInt)
  have h4 := Int32.toInt_lt a
  exact Int.bmod_eq_of_le (by omega) (by omega)
theorem px_lam {rl rh h lo hi : Int32} (h1 : 1 ≤ rl ∧ rl ≤ 1000000) (h2 : 1 ≤ rh ∧ rh ≤ 1000000) (hh : 0 ≤ h ∧ h ≤ 9999) (hl : 1 ≤ lo) (hu : hi ≤ 100000) : cMx lo (rl / (h + 1) + 1) ≤ (if h = 0 then hi else cMn hi (rh / h)) ↔ ∃ e : Int32, lo ≤ e ∧ e ≤ hi ∧ (h.toInt64 * e.toInt64 ≤ rh.toInt64 ∧ rl.toInt64 ≤ h.toInt64 * e.toInt64 + e.toInt64 - 1) := by
  have a1 := Int32.le_iff_toInt_le.mp h1.1; have a2 := Int32.le_iff_toInt_le.mp h1.2
  have a3 := Int32.le_iff_toInt_le.mp h2.1; have a4 := Int32.le_iff_toInt_le.mp h2.2
  have a5 := Int32.le_iff_toInt_le.mp hh.1; have a6 := Int32.le_iff_toInt_le.mp hh.2
  have a7 := Int32.le_iff_toInt_le.mp hl; have a8 := Int32.le_iff_toInt_le.mp hu
  rw [show (1 : Int32).toInt = 1 by decide] at a1 a3 a7
  rw [show (0 : Int32).toInt = 0 by decide] at a5
  rw [show (1000000 : Int32).toInt = 1000000 by decide] at a2 a4
  rw [show (9999 : Int32).toInt = 9999 by decide] at a6
  rw [show (100000 : Int32).toInt = 100000 by decide] at a8
  have s1 : (h + 1).toInt = h.toInt + 1 := px_sc1 hh.2 (by decide)
  have d1 : (rl / (h + 1)).toInt = rl.toInt / (h.toInt + 1) := by rw [px_d32 (by omega) (by omega), s1]
  have d2 : rl.toInt / (h.toInt + 1) ≤ rl.toInt := Int.ediv_le_self _ (by omega)
  have d3 : 0 ≤ rl.toInt / (h.toInt + 1) := Int.ediv_nonneg (by omega) (by omega)
  have q1 : (rl / (h + 1) + 1).toInt = rl.toInt / (h.toInt + 1) + 1 := by
    rw [px_sc1 (N := 1000000) (by rw [Int32.le_iff_toInt_le, d1, show (1000000 : Int32).toInt = 1000000 by decide]; omega) (by decide), d1]
  have hz : h = 0 ↔ h.toInt = 0 := ⟨fun q => by rw [q]; decide, fun q => Int32.toInt_inj.mp (by rw [q]; decide)⟩
  have q2 : h ≠ 0 → (rh / h).toInt = rh.toInt / h.toInt := fun q => px_d32 (by omega) (by have : h.toInt ≠ 0 := fun z => q (hz.mpr z); omega)
  have mm : ∀ e : Int32, 1 ≤ e.toInt → e.toInt ≤ 100000 → (h.toInt64 * e.toInt64).toInt = h.toInt * e.toInt ∧ (h.toInt64 * e.toInt64 + e.toInt64 - 1).toInt = (h.toInt + 1) * e.toInt - 1 := fun e e1 e2 => by
    have m0 : 0 ≤ h.toInt * e.toInt := Int.mul_nonneg a5 (by omega)
    have m1 : h.toInt * e.toInt ≤ 9999 * 100000 := Int.mul_le_mul a6 e2 (by omega) (by omega)
    have k1 : (h.toInt64 * e.toInt64).toInt = h.toInt * e.toInt := by rw [Int64.toInt_mul, Int32.toInt_toInt64, Int32.toInt_toInt64]; exact Int.bmod_eq_of_le (by omega) (by omega)
    have k2 : (h.toInt64 * e.toInt64 + e.toInt64).toInt = h.toInt * e.toInt + e.toInt := by rw [Int64.toInt_add, k1, Int32.toInt_toInt64]; exact Int.bmod_eq_of_le (by omega) (by omega)
    refine ⟨k1, ?_⟩
    rw [Int64.toInt_sub, k2, show (1 : Int64).toInt = 1 by decide, Int.bmod_eq_of_le (by omega) (by omega), Int.add_mul, Int.one_mul]
  have ok : ∀ e : Int32, lo ≤ e → e ≤ hi → ((h.toInt64 * e.toInt64 ≤ rh.toInt64 ∧ rl.toInt64 ≤ h.toInt64 * e.toInt64 + e.toInt64 - 1) ↔ (rl / (h + 1) + 1 ≤ e ∧ (h = 0 ∨ e ≤ rh / h))) := fun e e1 e2 => by
    have b1 := Int32.le_iff_toInt_le.mp e1; have b2 := Int32.le_iff_toInt_le.mp e2
    obtain ⟨m1, m2⟩ := mm e (by omega) (by omega)
    rw [Int64.le_iff_toInt_le, Int64.le_iff_toInt_le, m1, m2, Int32.toInt_toInt64, Int32.toInt_toInt64, Int32.le_iff_toInt_le, q1]
    have c1 : rl.toInt / (h.toInt + 1) + 1 ≤ e.toInt ↔ rl.toInt ≤ (h.toInt + 1) * e.toInt - 1 := by
      have := Int.ediv_lt_iff_lt_mul (a := rl.toInt) (b := e.toInt) (c := h.toInt + 1) (by omega)
      rw [Int.mul_comm] at this
      omega
    have c2 : h.toInt * e.toInt ≤ rh.toInt ↔ (h = 0 ∨ e ≤ rh / h) := by
      by_cases z : h = 0
      · have z2 := hz.mp z
        rw [z2, Int.zero_mul]
        exact ⟨fun _ => Or.inl z, fun _ => by omega⟩
      · have z2 : h.toInt ≠ 0 := fun q => z (hz.mpr q)
        have := Int.le_ediv_iff_mul_le (a := e.toInt) (b := rh.toInt) (c := h.toInt) (by omega)
        rw [Int.mul_comm] at this
        rw [Int32.le_iff_toInt_le, q2 z, this]
        exact ⟨fun q => Or.inr q, fun q => q.resolve_left z⟩
    rw [c1, c2]
    exact ⟨fun q => ⟨q.2, q.1⟩, fun q => ⟨q.2, q.1⟩⟩
  constructor
  · intro q
    refine ⟨cMx lo (rl / (h + 1) + 1), ?_, ?_, ?_⟩
    · unfold cMx; grind
    · unfold cMn at q; grind
    · refine (ok _ (by unfold cMx; grind) (by unfold cMn at q; grind)).mpr ⟨by unfold cMx; grind, ?_⟩
      by_cases z : h = 0
      · exact Or.inl z
      · rw [if_neg z] at q
        exact Or.inr (by unfold cMn at q; grind)
  · rintro ⟨e, e1, e2, e3⟩
    have o := (ok e e1 e2).mp e3
    have x1 : cMx lo (rl / (h + 1) + 1) ≤ e := by unfold cMx; grind
    by_cases z : h = 0
    · rw [if_pos z]; grind
    · rw [if_neg z]
      have := o.2.resolve_left z
      unfold cMn; grind

theorem eb_days_33_7 {x9 x : Int32} {I I2 : px_I} {L L2 : px_L} (h : pb_days x9 I L x I2 L2) : I2 33 7 = I 33 7 := by
  unfold pb_days at h
  obtain ⟨rfl, h⟩ := h
  rcases h with ⟨a1, a2, rfl, rfl⟩ | ⟨a1, rfl, rfl⟩
  · (repeat rw [px_u_out (by omega)])
  · rfl

theorem ek_days_103_1 {x9 x : Int32} {I I2 : px_I} {L L2 : px_L} (h : pk_days x9 I L x I2 L2) : I2 103 1 = I 103 1 := by
  unfold pk_days at h
  obtain ⟨rfl, h⟩ := h
  rcases h with ⟨a1, a2, a3, rfl, rfl⟩ | ⟨a1, rfl, rfl⟩
  · (repeat rw [px_u_out (by omega)])
  · rfl

theorem eb_sight_33_7 {a f t lo hi x : Int32} {I I2 : px_I} {L L2 : px_L} (h : pb_sight a f t lo hi I L x I2 L2) : I2 33 7 = I 33 7 := by
  unfold pb_sight at h
  obtain ⟨rfl, h⟩ := h
  rcases h with ⟨a1, rfl, rfl⟩ | ⟨a1, rfl, rfl⟩
  · (repeat rw [px_u_out (by omega)])
  · rfl

theorem ek_sight_103_1 {a f t lo hi x : Int32} {I I2 : px_I} {L L2 : px_L} (h : pk_sight a f t lo hi I L x I2 L2) : I2 103 1 = I 103 1 := by
  unfold pk_sight at h
  obtain ⟨rfl, h⟩ := h
  rcases h with ⟨a1, rfl, rfl⟩ | ⟨a1, rfl, rfl⟩
  · (repeat rw [px_u_out (by omega)])
  · rfl

theorem eb_closed_33_7 {a k x : Int32} {I I2 : px_I} {L L2 : px_L} (h : pb_closed a k I L x I2 L2) : I2 33 7 = I 33 7 := by
  unfold pb_closed at h
  obtain ⟨rfl, h⟩ := h
  rfl

theorem ek_closed_103_1 {a k x : Int32} {I I2 : px_I} {L L2 : px_L} (h : pk_closed a k I L x I2 L2) : I2 103 1 = I 103 1 := by
  unfold pk_closed at h
  exact h.1 103 1 (by omega)

theorem eb_span_33_7 {a t k h x : Int32} {I I2 : px_I} {L L2 : px_L} (h : pb_span a t k h I L x I2 L2) : I2 33 7 = I 33 7 := by
  unfold pb_span at h
  obtain ⟨rfl, h⟩ := h
  rfl

theorem ek_span_103_1 {a t k h x : Int32} {I I2 : px_I} {L L2 : px_L} (h : pk_span a t k h I L x I2 L2) : I2 103 1 = I 103 1 := by
  unfold pk_span at h
  exact h.1 103 1 (by omega)

theorem eb_gap_33_7 {a f t k h x : Int32} {I I2 : px_I} {L L2 : px_L} (h : pb_gap a f t k h I L x I2 L2) : I2 33 7 = I 33 7 := by
  unfold pb_gap at h
  obtain ⟨rfl, h⟩ := h
  rfl

theorem ek_gap_103_1 {a f t k h x : Int32} {I I2 : px_I} {L L2 : px_L} (h : pk_gap a f t k h I L x I2 L2) : I2 103 1 = I 103 1 := by
  unfold pk_gap at h
  exact h.1 103 1 (by omega)

theorem eb_blamed_33_7 {a k i x : Int32} {I I2 : px_I} {L L2 : px_L} (h : pb_blamed a k i I L x I2 L2) : I2 33 7 = I 33 7 := by
  unfold pb_blamed at h
  obtain ⟨rfl, h⟩ := h
  rfl

theorem ek_blamed_103_1 {a k i x : Int32} {I I2 : px_I} {L L2 : px_L} (h : pk_blamed a k i I L x I2 L2) : I2 103 1 = I 103 1 := by
  unfold pk_blamed at h
  exact h.1 103 1 (by omega)

theorem eb_reach_33_7 {g lo hi sl fa w st x : Int32} {I I2 : px_I} {L L2 : px_L} (h : pb_reach g lo hi sl fa w st I L x I2 L2) : I2 33 7 = I 33 7 := by
  unfold pb_reach at h
  obtain ⟨rfl, h⟩ := h
  rcases h with ⟨G, ⟨g1, g2, g3⟩, rfl, rfl⟩ | ⟨a1, rfl, rfl⟩
  · have gG : G = 41 ∨ G = 55 := by unfold bG at g1; omega
    rw [cReach_o (by omega)]
  · rfl

theorem ek_reach_103_1 {g lo hi sl fa w st x : Int32} {I I2 : px_I} {L L2 : px_L} (h : pk_reach g lo hi sl fa w st I L x I2 L2) : I2 103 1 = I 103 1 := by
  unfold pk_reach at h
  obtain ⟨rfl, h⟩ := h
  rcases h with ⟨a1, rfl, rfl⟩ | ⟨a1, rfl, rfl⟩
  · unfold mReach; (repeat rw [px_u_out (by omega)])
  · rfl

theorem eb_mouth_33_7 {g st x : Int32} {I I2 : px_I} {L L2 : px_L} (h : pb_mouth g st I L x I2 L2) : I2 33 7 = I 33 7 := by
  unfold pb_mouth at h
  obtain ⟨rfl, h⟩ := h
  rcases h with ⟨G, g1, rfl⟩ | rfl
  · have gG : G = 41 ∨ G = 55 := by unfold bG at g1; omega
    (repeat rw [px_u_out (by omega)])
  · rfl

theorem ek_mouth_103_1 {g st x : Int32} {I I2 : px_I} {L L2 : px_L} (h : pk_mouth g st I L x I2 L2) : I2 103 1 = I 103 1 := by
  unfold pk_mouth at h
  obtain ⟨rfl, h⟩ := h
  rcases h with ⟨a1, a2, rfl, rfl⟩ | ⟨a1, rfl, rfl⟩
  · (repeat rw [px_u_out (by omega)])
  · rfl

theorem eb_mark_33_7 {g p f t x : Int32} {I I2 : px_I} {L L2 : px_L} (h : pb_mark g p f t I L x I2 L2) : I2 33 7 = I 33 7 := by
  unfold pb_mark at h
  obtain ⟨rfl, h⟩ := h
  rcases h with ⟨G, g1, rfl, rfl⟩ | ⟨a1, rfl, rfl⟩
  · have g2 := g1.1
    have gG : G = 41 ∨ G = 55 := by unfold bG at g2; omega
    unfold cMark; (repeat rw [px_u_out (by omega)])
  · rfl

theorem ek_mark_103_1 {g p f t x : Int32} {I I2 : px_I} {L L2 : px_L} (h : pk_mark g p f t I L x I2 L2) : I2 103 1 = I 103 1 := by
  unfold pk_mark at h
  obtain ⟨rfl, h⟩ := h
  rcases h with ⟨a1, rfl, rfl⟩ | ⟨a1, rfl, rfl⟩
  · unfold mMark; (repeat rw [px_u_out (by omega)])
  · rfl

theorem eb_when_33_7 {g p h x : Int32} {I I2 : px_I} {L L2 : px_L} (h : pb_when g p h I L x I2 L2) : I2 33 7 = I 33 7 := by
  unfold pb_when at h
  obtain ⟨rfl, h⟩ := h
  rw [h 33 (by decide) (by decide) (by decide) (by decide)]

theorem ek_when_103_1 {g p h x : Int32} {I I2 : px_I} {L L2 : px_L} (h : pk_when g p h I L x I2 L2) : I2 103 1 = I 103 1 := by
  unfold pk_when at h
  exact h.1 103 1 (by omega)

theorem eb_between_33_7 {g p q h x : Int32} {I I2 : px_I} {L L2 : px_L} (h : pb_between g p q h I L x I2 L2) : I2 33 7 = I 33 7 := by
  unfold pb_between at h
  obtain ⟨rfl, h⟩ := h
  rw [h 33 (by decide) (by decide) (by decide) (by decide)]

theorem ek_between_103_1 {g p t h x : Int32} {I I2 : px_I} {L L2 : px_L} (h : pk_between g p t h I L x I2 L2) : I2 103 1 = I 103 1 := by
  unfold pk_between at h
  exact h.1 103 1 (by omega)

theorem eb_lamps_33_7 {g p h lo hi x : Int32} {I I2 : px_I} {L L2 : px_L} (h : pb_lamps g p h lo hi I L x I2 L2) : I2 33 7 = I 33 7 := by
  unfold pb_lamps at h
  rw [h.1]

theorem ek_lamps_103_1 {g p h lo hi x : Int32} {I I2 : px_I} {L L2 : px_L} (h : pk_lamps g p h lo hi I L x I2 L2) : I2 103 1 = I 103 1 := by
  unfold pk_lamps at h
  rw [h.1]

theorem eb_count_33_7 {u lo hi x : Int32} {I I2 : px_I} {L L2 : px_L} (h : pb_count u lo hi I L x I2 L2) : I2 33 7 = I 33 7 := by
  unfold pb_count at h
  obtain ⟨rfl, h⟩ := h
  rcases h with ⟨a1, rfl, rfl⟩ | ⟨a1, rfl, rfl⟩
  · (repeat rw [px_u_out (by omega)])
  · rfl

theorem ek_count_103_1 {u lo hi x : Int32} {I I2 : px_I} {L L2 : px_L} (h : pk_count u lo hi I L x I2 L2) : I2 103 1 = I 103 1 := by
  unfold pk_count at h
  rcases h with ⟨a1, rfl, rfl, rfl⟩ | ⟨a1, rfl, rfl, rfl⟩
  · (repeat rw [px_u_out (by omega)])
  · rfl

theorem eb_unit_33_7 {h x : Int32} {I I2 : px_I} {L L2 : px_L} (h : pb_unit h I L x I2 L2) : I2 33 7 = I 33 7 := by
  unfold pb_unit at h
  rw [h.1]

theorem ek_unit_103_1 {h x : Int32} {I I2 : px_I} {L L2 : px_L} (h : pk_unit h I L x I2 L2) : I2 103 1 = I 103 1 := by
  unfold pk_unit at h
  rw [h.1]

theorem eb_feed_33_7 {a b c d e x : Int32} {I I2 : px_I} {L L2 : px_L} (h : pb_feed a b c d e I L x I2 L2) : I2 33 7 = I 33 7 := by
  unfold pb_feed at h
  obtain ⟨rfl, h⟩ := h
  rcases h with ⟨a1, rfl, rfl⟩ | ⟨a1, rfl, rfl⟩
  · rw [cApp_at _ _ 33 7 (by omega) (by omega), cApp_at _ _ 33 7 (by omega) (by omega), cApp_at _ _ 33 7 (by omega) (by omega), cApp_at _ _ 33 7 (by omega) (by omega), cApp_at _ _ 33 7 (by omega) (by omega)]
  · rfl

theorem ek_feed_103_1 {a b c d e x : Int32} {I I2 : px_I} {L L2 : px_L} (h : pk_feed a b c d e I L x I2 L2) : I2 103 1 = I 103 1 := by
  unfold pk_feed at h
  obtain ⟨rfl, h⟩ := h
  rcases h with ⟨a1, rfl, rfl⟩ | ⟨a1, rfl, rfl⟩
  · rw [mPut_o (by omega) (by omega), mPut_o (by omega) (by omega), mPut_o (by omega) (by omega), mPut_o (by omega) (by omega), mPut_o (by omega) (by omega)]
  · rfl

theorem eb_end_33_7 {x9 x : Int32} {I I2 : px_I} {L L2 : px_L} (h : pb_end x9 I L x I2 L2) : I2 33 7 = I 33 7 := by
  unfold pb_end at h
  obtain ⟨rfl, h⟩ := h
  rcases h with ⟨a1, rfl, rfl⟩ | ⟨a1, rfl, rfl⟩
  · (repeat rw [px_u_out (by omega)])
  · rfl

theorem ek_end_103_1 {x9 x : Int32} {I I2 : px_I} {L L2 : px_L} (h : pk_end x9 I L x I2 L2) : I2 103 1 = I 103 1 := by
  unfold pk_end at h
  obtain ⟨rfl, h⟩ := h
  rcases h with ⟨a1, a2, rfl, rfl⟩ | ⟨a1, rfl, rfl⟩
  · (repeat rw [px_u_out (by omega)])
  · rfl

theorem eb_way_33_7 {i x : Int32} {I I2 : px_I} {L L2 : px_L} (h : pb_way i I L x I2 L2) : I2 33 7 = I 33 7 := by
  unfold pb_way at h
  exact h.1 33 7 (by omega) (by omega) (by omega) (by omega) (by omega)

theorem ek_way_103_1 {w x : Int32} {I I2 : px_I} {L L2 : px_L} (h : pk_way w I L x I2 L2) : I2 103 1 = I 103 1 := by
  unfold pk_way at h
  obtain ⟨rfl, h⟩ := h
  rcases h with ⟨a1, a2, rfl⟩ | ⟨a1, a2, a3⟩
  · rfl
  · exact a2 103 1 (by omega) (by omega)

theorem eb_fault_33_7 {x9 x : Int32} {I I2 : px_I} {L L2 : px_L} (h : pb_fault x9 I L x I2 L2) : I2 33 7 = I 33 7 := by
  unfold pb_fault at h
  rw [h.1]

theorem ek_fault_103_1 {x9 x : Int32} {I I2 : px_I} {L L2 : px_L} (h : pk_fault x9 I L x I2 L2) : I2 103 1 = I 103 1 := by
  unfold pk_fault at h
  rw [h.1]

theorem eb_tools_33_7 {a b c d e x : Int32} {I I2 : px_I} {L L2 : px_L} (h : pb_tools a b c d e I L x I2 L2) : I2 33 7 = I 33 7 := by
  unfold pb_tools at h
  obtain ⟨rfl, h⟩ := h
  rcases h with ⟨a1, rfl, a2⟩ | ⟨a1, rfl, rfl⟩
  · rw [a2 33 (by decide)]; (repeat rw [px_u_out (by omega)])
  · rfl

theorem ek_tools_103_1 {a b c d e x : Int32} {I I2 : px_I} {L L2 : px_L} (h : pk_tools a b c d e I L x I2 L2) : I2 103 1 = I 103 1 := by
  unfold pk_tools at h
  obtain ⟨rfl, h⟩ := h
  rcases h with ⟨a1, rfl, rfl⟩ | ⟨a1, rfl, rfl⟩
  · (repeat rw [px_u_out (by omega)])
  · rfl

theorem eb_run_33_7 {w h a x : Int32} {I I2 : px_I} {L L2 : px_L} (h : pb_run w h a I L x I2 L2) : I2 33 7 = I 33 7 := by
  unfold pb_run at h
  exact h.1 33 7 (by omega) (by omega) (by omega) (by omega) (by omega) (by omega) (by omega)

theorem ek_run_103_1 {w h a x : Int32} {I I2 : px_I} {L L2 : px_L} (h : pk_run w h a I L x I2 L2) : I2 103 1 = I 103 1 := by
  unfold pk_run at h
  exact h.1 103 1 (by omega) (by omega) (by omega)

theorem eb_meeting_33_7 {a f b t x9 h x : Int32} {I I2 : px_I} {L L2 : px_L} (h : pb_meeting a f b t x9 h I L x I2 L2) : I2 33 7 = I 33 7 := by
  unfold pb_meeting at h
  exact h.1 33 7 (by omega) (by omega) (by omega) (by omega) (by omega) (by omega) (by omega)

theorem ek_meeting_103_1 {a f b t x9 h x : Int32} {I I2 : px_I} {L L2 : px_L} (h : pk_meeting a f b t x9 h I L x I2 L2) : I2 103 1 = I 103 1 := by
  unfold pk_meeting at h
  exact h.1 103 1 (by omega) (by omega) (by omega)

theorem eb_there_33_7 {a lo hi x : Int32} {I I2 : px_I} {L L2 : px_L} (h : pb_there a lo hi I L x I2 L2) : I2 33 7 = I 33 7 := by
  unfold pb_there at h
  obtain ⟨rfl, h⟩ := h
  rcases h with ⟨a1, rfl, rfl⟩ | ⟨a1, rfl, rfl⟩
  · (repeat rw [px_u_out (by omega)])
  · rfl

theorem ek_there_103_1 {a lo hi x : Int32} {I I2 : px_I} {L L2 : px_L} (h : pk_there a lo hi I L x I2 L2) : I2 103 1 = I 103 1 := by
  unfold pk_there at h
  obtain ⟨rfl, h⟩ := h
  rcases h with ⟨a1, rfl, rfl⟩ | ⟨a1, rfl, rfl⟩
  · (repeat rw [px_u_out (by omega)])
  · rfl

theorem eb_fits_33_7 {a f b t x : Int32} {I I2 : px_I} {L L2 : px_L} (h : pb_fits a f b t I L x I2 L2) : I2 33 7 = I 33 7 := by
  unfold pb_fits at h
  exact h.1 33 7 (by omega) (by omega) (by omega) (by omega) (by omega) (by omega) (by omega)

theorem ek_fits_103_1 {a f b t x : Int32} {I I2 : px_I} {L L2 : px_L} (h : pk_fits a f b t I L x I2 L2) : I2 103 1 = I 103 1 := by
  unfold pk_fits at h
  exact h.1 103 1 (by omega) (by omega) (by omega)

theorem eb_ways_33_7 {a f b t x9 x : Int32} {I I2 : px_I} {L L2 : px_L} (h : pb_ways a f b t x9 I L x I2 L2) : I2 33 7 = I 33 7 := by
  unfold pb_ways at h
  exact h.1 33 7 (by omega) (by omega) (by omega) (by omega) (by omega) (by omega) (by omega)

theorem ek_ways_103_1 {a f b t x9 x : Int32} {I I2 : px_I} {L L2 : px_L} (h : pk_ways a f b t x9 I L x I2 L2) : I2 103 1 = I 103 1 := by
  unfold pk_ways at h
  exact h.1 103 1 (by omega) (by omega) (by omega)

theorem eb_seek_33_7 {a b c d e f x : Int32} {I I2 : px_I} {L L2 : px_L} (h : pb_seek a b c d e f I L x I2 L2) : I2 33 7 = I 33 7 := by
  unfold pb_seek at h
  obtain ⟨rfl, h⟩ := h
  rcases h with ⟨a1, rfl, rfl⟩ | ⟨a1, rfl, rfl⟩
  · (repeat rw [px_u_out (by omega)])
  · rfl

theorem ek_seek_103_1 {a b c d e f x : Int32} {I I2 : px_I} {L L2 : px_L} (h : pk_seek a b c d e f I L x I2 L2) : I2 103 1 = I 103 1 := by
  unfold pk_seek at h
  obtain ⟨rfl, h⟩ := h
  rcases h with ⟨a1, rfl, rfl⟩ | ⟨a1, rfl, rfl⟩
  · (repeat rw [px_u_out (by omega)])
  · rfl

theorem eb_detour_33_7 {a o h x : Int32} {I I2 : px_I} {L L2 : px_L} (h : pb_detour a o h I L x I2 L2) : I2 33 7 = I 33 7 := by
  unfold pb_detour at h
  rw [h.1]

theorem ek_detour_103_1 {a o lo x : Int32} {I I2 : px_I} {L L2 : px_L} (h : pk_detour a o lo I L x I2 L2) : I2 103 1 = I 103 1 := by
  unfold pk_detour at h
  rw [h.1]

theorem eb_table_33_7 {c v x : Int32} {I I2 : px_I} {L L2 : px_L} (h : pb_table c v I L x I2 L2) : I2 33 7 = I 33 7 := by
  unfold pb_table at h
  obtain ⟨rfl, h⟩ := h
  rcases h with ⟨a1, rfl, rfl⟩ | ⟨a1, rfl, rfl⟩
  · (repeat rw [px_u_out (by omega)])
  · rfl

theorem ek_table_103_1 {c v x : Int32} {I I2 : px_I} {L L2 : px_L} (h : pk_table c v I L x I2 L2) : I2 103 1 = I 103 1 := by
  unfold pk_table at h
  obtain ⟨rfl, h⟩ := h
  rcases h with ⟨a1, rfl, rfl⟩ | ⟨a1, rfl, rfl⟩
  · (repeat rw [px_u_out (by omega)])
  · rfl

theorem eb_repair_33_7 {g p y x : Int32} {I I2 : px_I} {L L2 : px_L} (h : pb_repair g p y I L x I2 L2) : I2 33 7 = I 33 7 := by
  unfold pb_repair at h
  obtain ⟨rfl, h⟩ := h
  rcases h with ⟨G, g1, rfl, rfl⟩ | ⟨a1, rfl, rfl⟩
  · have g2 := g1.1
    have gG : G = 41 ∨ G = 55 := by unfold bG at g2; omega
    unfold cRep; (repeat rw [px_u_out (by omega)])
  · rfl

theorem ek_repair_103_1 {g p y x : Int32} {I I2 : px_I} {L L2 : px_L} (h : pk_repair g p y I L x I2 L2) : I2 103 1 = I 103 1 := by
  unfold pk_repair at h
  obtain ⟨rfl, h⟩ := h
  rcases h with ⟨a1, rfl, rfl⟩ | ⟨a1, rfl, rfl⟩
  · (repeat rw [px_u_out (by omega)])
  · rfl

theorem eb_lime_33_7 {v x : Int32} {I I2 : px_I} {L L2 : px_L} (h : pb_lime v I L x I2 L2) : I2 33 7 = I 33 7 := by
  unfold pb_lime at h
  obtain ⟨rfl, h⟩ := h
  rcases h with ⟨a1, rfl, rfl⟩ | ⟨a1, rfl, rfl⟩
  · (repeat rw [px_u_out (by omega)])
  · rfl

theorem ek_lime_103_1 {v x : Int32} {I I2 : px_I} {L L2 : px_L} (h : pk_lime v I L x I2 L2) : I2 103 1 = I 103 1 := by
  unfold pk_lime at h
  obtain ⟨rfl, h⟩ := h
  rcases h with ⟨a1, a2, rfl, rfl⟩ | ⟨a1, rfl, rfl⟩
  · (repeat rw [px_u_out (by omega)])
  · rfl

theorem eb_flow_33_7 {g y k h x : Int32} {I I2 : px_I} {L L2 : px_L} (h : pb_flow g y k h I L x I2 L2) : I2 33 7 = I 33 7 := by
  unfold pb_flow at h
  exact h.1 33 7 (by omega)

theorem ek_flow_103_1 {g y k h x : Int32} {I I2 : px_I} {L L2 : px_L} (h : pk_flow g y k h I L x I2 L2) : I2 103 1 = I 103 1 := by
  unfold pk_flow at h
  exact h.1 103 1 (by omega)

theorem eb_narrow_33_7 {g y k x : Int32} {I I2 : px_I} {L L2 : px_L} (h : pb_narrow g y k I L x I2 L2) : I2 33 7 = I 33 7 := by
  unfold pb_narrow at h
  exact h.1 33 7 (by omega)

theorem ek_narrow_103_1 {g y k x : Int32} {I I2 : px_I} {L L2 : px_L} (h : pk_narrow g y k I L x I2 L2) : I2 103 1 = I 103 1 := by
  unfold pk_narrow at h
  exact h.1 103 1 (by omega)

theorem eb_about_33_7 {w x : Int32} {I I2 : px_I} {L L2 : px_L} (h : pb_about w I L x I2 L2) : I2 33 7 = I 33 7 := by
  unfold pb_about at h
  rw [h.1]

theorem ek_about_103_1 {w x : Int32} {I I2 : px_I} {L L2 : px_L} (h : pk_about w I L x I2 L2) : I2 103 1 = I 103 1 := by
  unfold pk_about at h
  rw [h.1]

theorem eb_days_41_13 {x9 x : Int32} {I I2 : px_I} {L L2 : px_L} (h : pb_days x9 I L x I2 L2) : I2 41 13 = I 41 13 := by
  unfold pb_days at h
  obtain ⟨rfl, h⟩ := h
  rcases h with ⟨a1, a2, rfl, rfl⟩ | ⟨a1, rfl, rfl⟩
  · (repeat rw [px_u_out (by omega)])
  · rfl

theorem ek_days_110_0 {x9 x : Int32} {I I2 : px_I} {L L2 : px_L} (h : pk_days x9 I L x I2 L2) : I2 110 0 = I 110 0 := by
  unfold pk_days at h
  obtain ⟨rfl, h⟩ := h
  rcases h with ⟨a1, a2, a3, rfl, rfl⟩ | ⟨a1, rfl, rfl⟩
  · (repeat rw [px_u_out (by omega)])
  · rfl

theorem eb_station_41_13 { x : Int32} {I I2 : px_I} {L L2 : px_L} (h : pb_station  I L x I2 L2) : I2 41 13 = I 41 13 := by
  unfold pb_station at h
  obtain ⟨rfl, h⟩ := h
  rcases h with ⟨a1, rfl, rfl⟩ | ⟨a1, rfl, rfl⟩
  · (repeat rw [px_u_out (by omega)])
  · rfl

theorem ek_station_110_0 { x : Int32} {I I2 : px_I} {L L2 : px_L} (h : pk_station  I L x I2 L2) : I2 110 0 = I 110 0 := by
  unfold pk_station at h
  obtain ⟨rfl, h⟩ := h
  rcases h with ⟨a1, rfl, rfl⟩ | ⟨a1, rfl, rfl⟩
  · (repeat rw [px_u_out (by omega)])
  · rfl

theorem eb_sight_41_13 {a f t lo hi x : Int32} {I I2 : px_I} {L L2 : px_L} (h : pb_sight a f t lo hi I L x I2 L2) : I2 41 13 = I 41 13 := by
  unfold pb_sight at h
  obtain ⟨rfl, h⟩ := h
  rcases h with ⟨a1, rfl, rfl⟩ | ⟨a1, rfl, rfl⟩
  · (repeat rw [px_u_out (by omega)])
  · rfl

theorem ek_sight_110_0 {a f t lo hi x : Int32} {I I2 : px_I} {L L2 : px_L} (h : pk_sight a f t lo hi I L x I2 L2) : I2 110 0 = I 110 0 := by
  unfold pk_sight at h
  obtain ⟨rfl, h⟩ := h
  rcases h with ⟨a1, rfl, rfl⟩ | ⟨a1, rfl, rfl⟩
  · (repeat rw [px_u_out (by omega)])
  · rfl

theorem eb_closed_41_13 {a k x : Int32} {I I2 : px_I} {L L2 : px_L} (h : pb_closed a k I L x I2 L2) : I2 41 13 = I 41 13 := by
  unfold pb_closed at h
  obtain ⟨rfl, h⟩ := h
  rfl

theorem ek_closed_110_0 {a k x : Int32} {I I2 : px_I} {L L2 : px_L} (h : pk_closed a k I L x I2 L2) : I2 110 0 = I 110 0 := by
  unfold pk_closed at h
  exact h.1 110 0 (by omega)

theorem eb_span_41_13 {a t k h x : Int32} {I I2 : px_I} {L L2 : px_L} (h : pb_span a t k h I L x I2 L2) : I2 41 13 = I 41 13 := by
  unfold pb_span at h
  obtain ⟨rfl, h⟩ := h
  rfl

theorem ek_span_110_0 {a t k h x : Int32} {I I2 : px_I} {L L2 : px_L} (h : pk_span a t k h I L x I2 L2) : I2 110 0 = I 110 0 := by
  unfold pk_span at h
  exact h.1 110 0 (by omega)

theorem eb_gap_41_13 {a f t k h x : Int32} {I I2 : px_I} {L L2 : px_L} (h : pb_gap a f t k h I L x I2 L2) : I2 41 13 = I 41 13 := by
  unfold pb_gap at h
  obtain ⟨rfl, h⟩ := h
  rfl

theorem ek_gap_110_0 {a f t k h x : Int32} {I I2 : px_I} {L L2 : px_L} (h : pk_gap a f t k h I L x I2 L2) : I2 110 0 = I 110 0 := by
  unfold pk_gap at h
  exact h.1 110 0 (by omega)

theorem eb_blamed_41_13 {a k i x : Int32} {I I2 : px_I} {L L2 : px_L} (h : pb_blamed a k i I L x I2 L2) : I2 41 13 = I 41 13 := by
  unfold pb_blamed at h
  obtain ⟨rfl, h⟩ := h
  rfl

theorem ek_blamed_110_0 {a k i x : Int32} {I I2 : px_I} {L L2 : px_L} (h : pk_blamed a k i I L x I2 L2) : I2 110 0 = I 110 0 := by
  unfold pk_blamed at h
  exact h.1 110 0 (by omega)

theorem eb_mouth_41_13 {g st x : Int32} {I I2 : px_I} {L L2 : px_L} (h : pb_mouth g st I L x I2 L2) : I2 41 13 = I 41 13 := by
  unfold pb_mouth at h
  obtain ⟨rfl, h⟩ := h
  rcases h with ⟨G, g1, rfl⟩ | rfl
  · have gG : G = 41 ∨ G = 55 := by unfold bG at g1; omega
    (repeat rw [px_u_out (by omega)])
  · rfl

theorem ek_mouth_110_0 {g st x : Int32} {I I2 : px_I} {L L2 : px_L} (h : pk_mouth g st I L x I2 L2) : I2 110 0 = I 110 0 := by
  unfold pk_mouth at h
  obtain ⟨rfl, h⟩ := h
  rcases h with ⟨a1, a2, rfl, rfl⟩ | ⟨a1, rfl, rfl⟩
  · (repeat rw [px_u_out (by omega)])
  · rfl

theorem eb_mark_41_13 {g p f t x : Int32} {I I2 : px_I} {L L2 : px_L} (h : pb_mark g p f t I L x I2 L2) : I2 41 13 = I 41 13 := by
  unfold pb_mark at h
  obtain ⟨rfl, h⟩ := h
  rcases h with ⟨G, g1, rfl, rfl⟩ | ⟨a1, rfl, rfl⟩
  · have g2 := g1.1
    have gG : G = 41 ∨ G = 55 := by unfold bG at g2; omega
    unfold cMark; (repeat rw [px_u_out (by omega)])
  · rfl

theorem ek_mark_110_0 {g p f t x : Int32} {I I2 : px_I} {L L2 : px_L} (h : pk_mark g p f t I L x I2 L2) : I2 110 0 = I 110 0 := by
  unfold pk_mark at h
  obtain ⟨rfl, h⟩ := h
  rcases h with ⟨a1, rfl, rfl⟩ | ⟨a1, rfl, rfl⟩
  · unfold mMark; (repeat rw [px_u_out (by omega)])
  · rfl

theorem eb_when_41_13 {g p h x : Int32} {I I2 : px_I} {L L2 : px_L} (h : pb_when g p h I L x I2 L2) : I2 41 13 = I 41 13 := by
  unfold pb_when at h
  obtain ⟨rfl, h⟩ := h
  rw [h 41 (by decide) (by decide) (by decide) (by decide)]

theorem ek_when_110_0 {g p h x : Int32} {I I2 : px_I} {L L2 : px_L} (h : pk_when g p h I L x I2 L2) : I2 110 0 = I 110 0 := by
  unfold pk_when at h
  exact h.1 110 0 (by omega)

theorem eb_between_41_13 {g p q h x : Int32} {I I2 : px_I} {L L2 : px_L} (h : pb_between g p q h I L x I2 L2) : I2 41 13 = I 41 13 := by
  unfold pb_between at h
  obtain ⟨rfl, h⟩ := h
  rw [h 41 (by decide) (by decide) (by decide) (by decide)]

theorem ek_between_110_0 {g p t h x : Int32} {I I2 : px_I} {L L2 : px_L} (h : pk_between g p t h I L x I2 L2) : I2 110 0 = I 110 0 := by
  unfold pk_between at h
  exact h.1 110 0 (by omega)

theorem eb_lamps_41_13 {g p h lo hi x : Int32} {I I2 : px_I} {L L2 : px_L} (h : pb_lamps g p h lo hi I L x I2 L2) : I2 41 13 = I 41 13 := by
  unfold pb_lamps at h
  rw [h.1]

theorem ek_lamps_110_0 {g p h lo hi x : Int32} {I I2 : px_I} {L L2 : px_L} (h : pk_lamps g p h lo hi I L x I2 L2) : I2 110 0 = I 110 0 := by
  unfold pk_lamps at h
  rw [h.1]

theorem eb_count_41_13 {u lo hi x : Int32} {I I2 : px_I} {L L2 : px_L} (h : pb_count u lo hi I L x I2 L2) : I2 41 13 = I 41 13 := by
  unfold pb_count at h
  obtain ⟨rfl, h⟩ := h
  rcases h with ⟨a1, rfl, rfl⟩ | ⟨a1, rfl, rfl⟩
  · (repeat rw [px_u_out (by omega)])
  · rfl

theorem ek_count_110_0 {u lo hi x : Int32} {I I2 : px_I} {L L2 : px_L} (h : pk_count u lo hi I L x I2 L2) : I2 110 0 = I 110 0 := by
  unfold pk_count at h
  rcases h with ⟨a1, rfl, rfl, rfl⟩ | ⟨a1, rfl, rfl, rfl⟩
  · (repeat rw [px_u_out (by omega)])
  · rfl

theorem eb_unit_41_13 {h x : Int32} {I I2 : px_I} {L L2 : px_L} (h : pb_unit h I L x I2 L2) : I2 41 13 = I 41 13 := by
  unfold pb_unit at h
  rw [h.1]

theorem ek_unit_110_0 {h x : Int32} {I I2 : px_I} {L L2 : px_L} (h : pk_unit h I L x I2 L2) : I2 110 0 = I 110 0 := by
  unfold pk_unit at h
  rw [h.1]

theorem eb_feed_41_13 {a b c d e x : Int32} {I I2 : px_I} {L L2 : px_L} (h : pb_feed a b c d e I L x I2 L2) : I2 41 13 = I 41 13 := by
  unfold pb_feed at h
  obtain ⟨rfl, h⟩ := h
  rcases h with ⟨a1, rfl, rfl⟩ | ⟨a1, rfl, rfl⟩
  · rw [cApp_at _ _ 41 13 (by omega) (by omega), cApp_at _ _ 41 13 (by omega) (by omega), cApp_at _ _ 41 13 (by omega) (by omega), cApp_at _ _ 41 13 (by omega) (by omega), cApp_at _ _ 41 13 (by omega) (by omega)]
  · rfl

theorem ek_feed_110_0 {a b c d e x : Int32} {I I2 : px_I} {L L2 : px_L} (h : pk_feed a b c d e I L x I2 L2) : I2 110 0 = I 110 0 := by
  unfold pk_feed at h
  obtain ⟨rfl, h⟩ := h
  rcases h with ⟨a1, rfl, rfl⟩ | ⟨a1, rfl, rfl⟩
  · rw [mPut_o (by omega) (by omega), mPut_o (by omega) (by omega), mPut_o (by omega) (by omega), mPut_o (by omega) (by omega), mPut_o (by omega) (by omega)]
  · rfl

theorem eb_end_41_13 {x9 x : Int32} {I I2 : px_I} {L L2 : px_L} (h : pb_end x9 I L x I2 L2) : I2 41 13 = I 41 13 := by
  unfold pb_end at h
  obtain ⟨rfl, h⟩ := h
  rcases h with ⟨a1, rfl, rfl⟩ | ⟨a1, rfl, rfl⟩
  · (repeat rw [px_u_out (by omega)])
  · rfl

theorem ek_end_110_0 {x9 x : Int32} {I I2 : px_I} {L L2 : px_L} (h : pk_end x9 I L x I2 L2) : I2 110 0 = I 110 0 := by
  unfold pk_end at h
  obtain ⟨rfl, h⟩ := h
  rcases h with ⟨a1, a2, rfl, rfl⟩ | ⟨a1, rfl, rfl⟩
  · (repeat rw [px_u_out (by omega)])
  · rfl

theorem eb_way_41_13 {i x : Int32} {I I2 : px_I} {L L2 : px_L} (h : pb_way i I L x I2 L2) : I2 41 13 = I 41 13 := by
  unfold pb_way at h
  exact h.1 41 13 (by omega) (by omega) (by omega) (by omega) (by omega)

theorem ek_way_110_0 {w x : Int32} {I I2 : px_I} {L L2 : px_L} (h : pk_way w I L x I2 L2) : I2 110 0 = I 110 0 := by
  unfold pk_way at h
  obtain ⟨rfl, h⟩ := h
  rcases h with ⟨a1, a2, rfl⟩ | ⟨a1, a2, a3⟩
  · rfl
  · exact a2 110 0 (by omega) (by omega)

theorem eb_fault_41_13 {x9 x : Int32} {I I2 : px_I} {L L2 : px_L} (h : pb_fault x9 I L x I2 L2) : I2 41 13 = I 41 13 := by
  unfold pb_fault at h
  rw [h.1]

theorem ek_fault_110_0 {x9 x : Int32} {I I2 : px_I} {L L2 : px_L} (h : pk_fault x9 I L x I2 L2) : I2 110 0 = I 110 0 := by
  unfold pk_fault at h
  rw [h.1]

theorem eb_tools_41_13 {a b c d e x : Int32} {I I2 : px_I} {L L2 : px_L} (h : pb_tools a b c d e I L x I2 L2) : I2 41 13 = I 41 13 := by
  unfold pb_tools at h
  obtain ⟨rfl, h⟩ := h
  rcases h with ⟨a1, rfl, a2⟩ | ⟨a1, rfl, rfl⟩
  · rw [a2 41 (by decide)]; (repeat rw [px_u_out (by omega)])
  · rfl

theorem ek_tools_110_0 {a b c d e x : Int32} {I I2 : px_I} {L L2 : px_L} (h : pk_tools a b c d e I L x I2 L2) : I2 110 0 = I 110 0 := by
  unfold pk_tools at h
  obtain ⟨rfl, h⟩ := h
  rcases h with ⟨a1, rfl, rfl⟩ | ⟨a1, rfl, rfl⟩
  · (repeat rw [px_u_out (by omega)])
  · rfl

theorem eb_run_41_13 {w h a x : Int32} {I I2 : px_I} {L L2 : px_L} (h : pb_run w h a I L x I2 L2) : I2 41 13 = I 41 13 := by
  unfold pb_run at h
  exact h.1 41 13 (by omega) (by omega) (by omega) (by omega) (by omega) (by omega) (by omega)

theorem ek_run_110_0 {w h a x : Int32} {I I2 : px_I} {L L2 : px_L} (h : pk_run w h a I L x I2 L2) : I2 110 0 = I 110 0 := by
  unfold pk_run at h
  exact h.1 110 0 (by omega) (by omega) (by omega)

theorem eb_meeting_41_13 {a f b t x9 h x : Int32} {I I2 : px_I} {L L2 : px_L} (h : pb_meeting a f b t x9 h I L x I2 L2) : I2 41 13 = I 41 13 := by
  unfold pb_meeting at h
  exact h.1 41 13 (by omega) (by omega) (by omega) (by omega) (by omega) (by omega) (by omega)

theorem ek_meeting_110_0 {a f b t x9 h x : Int32} {I I2 : px_I} {L L2 : px_L} (h : pk_meeting a f b t x9 h I L x I2 L2) : I2 110 0 = I 110 0 := by
  unfold pk_meeting at h
  exact h.1 110 0 (by omega) (by omega) (by omega)

theorem eb_there_41_13 {a lo hi x : Int32} {I I2 : px_I} {L L2 : px_L} (h : pb_there a lo hi I L x I2 L2) : I2 41 13 = I 41 13 := by
  unfold pb_there at h
  obtain ⟨rfl, h⟩ := h
  rcases h with ⟨a1, rfl, rfl⟩ | ⟨a1, rfl, rfl⟩
  · (repeat rw [px_u_out (by omega)])
  · rfl

theorem ek_there_110_0 {a lo hi x : Int32} {I I2 : px_I} {L L2 : px_L} (h : pk_there a lo hi I L x I2 L2) : I2 110 0 = I 110 0 := by
  unfold pk_there at h
  obtain ⟨rfl, h⟩ := h
  rcases h with ⟨a1, rfl, rfl⟩ | ⟨a1, rfl, rfl⟩
  · (repeat rw [px_u_out (by omega)])
  · rfl

theorem eb_fits_41_13 {a f b t x : Int32} {I I2 : px_I} {L L2 : px_L} (h : pb_fits a f b t I L x I2 L2) : I2 41 13 = I 41 13 := by
  unfold pb_fits at h
  exact h.1 41 13 (by omega) (by omega) (by omega) (by omega) (by omega) (by omega) (by omega)

theorem ek_fits_110_0 {a f b t x : Int32} {I I2 : px_I} {L L2 : px_L} (h : pk_fits a f b t I L x I2 L2) : I2 110 0 = I 110 0 := by
  unfold pk_fits at h
  exact h.1 110 0 (by omega) (by omega) (by omega)

theorem eb_ways_41_13 {a f b t x9 x : Int32} {I I2 : px_I} {L L2 : px_L} (h : pb_ways a f b t x9 I L x I2 L2) : I2 41 13 = I 41 13 := by
  unfold pb_ways at h
  exact h.1 41 13 (by omega) (by omega) (by omega) (by omega) (by omega) (by omega) (by omega)

theorem ek_ways_110_0 {a f b t x9 x : Int32} {I I2 : px_I} {L L2 : px_L} (h : pk_ways a f b t x9 I L x I2 L2) : I2 110 0 = I 110 0 := by
  unfold pk_ways at h
  exact h.1 110 0 (by omega) (by omega) (by omega)

theorem eb_seek_41_13 {a b c d e f x : Int32} {I I2 : px_I} {L L2 : px_L} (h : pb_seek a b c d e f I L x I2 L2) : I2 41 13 = I 41 13 := by
  unfold pb_seek at h
  obtain ⟨rfl, h⟩ := h
  rcases h with ⟨a1, rfl, rfl⟩ | ⟨a1, rfl, rfl⟩
  · (repeat rw [px_u_out (by omega)])
  · rfl

theorem ek_seek_110_0 {a b c d e f x : Int32} {I I2 : px_I} {L L2 : px_L} (h : pk_seek a b c d e f I L x I2 L2) : I2 110 0 = I 110 0 := by
  unfold pk_seek at h
  obtain ⟨rfl, h⟩ := h
  rcases h with ⟨a1, rfl, rfl⟩ | ⟨a1, rfl, rfl⟩
  · (repeat rw [px_u_out (by omega)])
  · rfl

theorem eb_detour_41_13 {a o h x : Int32} {I I2 : px_I} {L L2 : px_L} (h : pb_detour a o h I L x I2 L2) : I2 41 13 = I 41 13 := by
  unfold pb_detour at h
  rw [h.1]

theorem ek_detour_110_0 {a o lo x : Int32} {I I2 : px_I} {L L2 : px_L} (h : pk_detour a o lo I L x I2 L2) : I2 110 0 = I 110 0 := by
  unfold pk_detour at h
  rw [h.1]

theorem eb_table_41_13 {c v x : Int32} {I I2 : px_I} {L L2 : px_L} (h : pb_table c v I L x I2 L2) : I2 41 13 = I 41 13 := by
  unfold pb_table at h
  obtain ⟨rfl, h⟩ := h
  rcases h with ⟨a1, rfl, rfl⟩ | ⟨a1, rfl, rfl⟩
  · (repeat rw [px_u_out (by omega)])
  · rfl

theorem ek_table_110_0 {c v x : Int32} {I I2 : px_I} {L L2 : px_L} (h : pk_table c v I L x I2 L2) : I2 110 0 = I 110 0 := by
  unfold pk_table at h
  obtain ⟨rfl, h⟩ := h
  rcases h with ⟨a1, rfl, rfl⟩ | ⟨a1, rfl, rfl⟩
  · (repeat rw [px_u_out (by omega)])
  · rfl

theorem eb_repair_41_13 {g p y x : Int32} {I I2 : px_I} {L L2 : px_L} (h : pb_repair g p y I L x I2 L2) : I2 41 13 = I 41 13 := by
  unfold pb_repair at h
  obtain ⟨rfl, h⟩ := h
  rcases h with ⟨G, g1, rfl, rfl⟩ | ⟨a1, rfl, rfl⟩
  · have g2 := g1.1
    have gG : G = 41 ∨ G = 55 := by unfold bG at g2; omega
    unfold cRep; (repeat rw [px_u_out (by omega)])
  · rfl

theorem ek_repair_110_0 {g p y x : Int32} {I I2 : px_I} {L L2 : px_L} (h : pk_repair g p y I L x I2 L2) : I2 110 0 = I 110 0 := by
  unfold pk_repair at h
  obtain ⟨rfl, h⟩ := h
  rcases h with ⟨a1, rfl, rfl⟩ | ⟨a1, rfl, rfl⟩
  · (repeat rw [px_u_out (by omega)])
  · rfl

theorem eb_lime_41_13 {v x : Int32} {I I2 : px_I} {L L2 : px_L} (h : pb_lime v I L x I2 L2) : I2 41 13 = I 41 13 := by
  unfold pb_lime at h
  obtain ⟨rfl, h⟩ := h
  rcases h with ⟨a1, rfl, rfl⟩ | ⟨a1, rfl, rfl⟩
  · (repeat rw [px_u_out (by omega)])
  · rfl

theorem ek_lime_110_0 {v x : Int32} {I I2 : px_I} {L L2 : px_L} (h : pk_lime v I L x I2 L2) : I2 110 0 = I 110 0 := by
  unfold pk_lime at h
  obtain ⟨rfl, h⟩ := h
  rcases h with ⟨a1, a2, rfl, rfl⟩ | ⟨a1, rfl, rfl⟩
  · (repeat rw [px_u_out (by omega)])
  · rfl

theorem eb_flow_41_13 {g y k h x : Int32} {I I2 : px_I} {L L2 : px_L} (h : pb_flow g y k h I L x I2 L2) : I2 41 13 = I 41 13 := by
  unfold pb_flow at h
  exact h.1 41 13 (by omega)

theorem ek_flow_110_0 {g y k h x : Int32} {I I2 : px_I} {L L2 : px_L} (h : pk_flow g y k h I L x I2 L2) : I2 110 0 = I 110 0 := by
  unfold pk_flow at h
  exact h.1 110 0 (by omega)

theorem eb_narrow_41_13 {g y k x : Int32} {I I2 : px_I} {L L2 : px_L} (h : pb_narrow g y k I L x I2 L2) : I2 41 13 = I 41 13 := by
  unfold pb_narrow at h
  exact h.1 41 13 (by omega)

theorem ek_narrow_110_0 {g y k x : Int32} {I I2 : px_I} {L L2 : px_L} (h : pk_narrow g y k I L x I2 L2) : I2 110 0 = I 110 0 := by
  unfold pk_narrow at h
  exact h.1 110 0 (by omega)

theorem eb_about_41_13 {w x : Int32} {I I2 : px_I} {L L2 : px_L} (h : pb_about w I L x I2 L2) : I2 41 13 = I 41 13 := by
  unfold pb_about at h
  rw [h.1]

theorem ek_about_110_0 {w x : Int32} {I I2 : px_I} {L L2 : px_L} (h : pk_about w I L x I2 L2) : I2 110 0 = I 110 0 := by
  unfold pk_about at h
  rw [h.1]

theorem eb_days_55_13 {x9 x : Int32} {I I2 : px_I} {L L2 : px_L} (h : pb_days x9 I L x I2 L2) : I2 55 13 = I 55 13 := by
  unfold pb_days at h
  obtain ⟨rfl, h⟩ := h
  rcases h with ⟨a1, a2, rfl, rfl⟩ | ⟨a1, rfl, rfl⟩
  · (repeat rw [px_u_out (by omega)])
  · rfl

theorem ek_days_110_1 {x9 x : Int32} {I I2 : px_I} {L L2 : px_L} (h : pk_days x9 I L x I2 L2) : I2 110 1 = I 110 1 := by
  unfold pk_days at h
  obtain ⟨rfl, h⟩ := h
  rcases h with ⟨a1, a2, a3, rfl, rfl⟩ | ⟨a1, rfl, rfl⟩
  · (repeat rw [px_u_out (by omega)])
  · rfl

theorem eb_station_55_13 { x : Int32} {I I2 : px_I} {L L2 : px_L} (h : pb_station  I L x I2 L2) : I2 55 13 = I 55 13 := by
  unfold pb_station at h
  obtain ⟨rfl, h⟩ := h
  rcases h with ⟨a1, rfl, rfl⟩ | ⟨a1, rfl, rfl⟩
  · (repeat rw [px_u_out (by omega)])
  · rfl

theorem ek_station_110_1 { x : Int32} {I I2 : px_I} {L L2 : px_L} (h : pk_station  I L x I2 L2) : I2 110 1 = I 110 1 := by
  unfold pk_station at h
  obtain ⟨rfl, h⟩ := h
  rcases h with ⟨a1, rfl, rfl⟩ | ⟨a1, rfl, rfl⟩
  · (repeat rw [px_u_out (by omega)])
  · rfl

theorem eb_sight_55_13 {a f t lo hi x : Int32} {I I2 : px_I} {L L2 : px_L} (h : pb_sight a f t lo hi I L x I2 L2) : I2 55 13 = I 55 13 := by
  unfold pb_sight at h
  obtain ⟨rfl, h⟩ := h
  rcases h with ⟨a1, rfl, rfl⟩ | ⟨a1, rfl, rfl⟩
  · (repeat rw [px_u_out (by omega)])
  · rfl

theorem ek_sight_110_1 {a f t lo hi x : Int32} {I I2 : px_I} {L L2 : px_L} (h : pk_sight a f t lo hi I L x I2 L2) : I2 110 1 = I 110 1 := by
  unfold pk_sight at h
  obtain ⟨rfl, h⟩ := h
  rcases h with ⟨a1, rfl, rfl⟩ | ⟨a1, rfl, rfl⟩
  · (repeat rw [px_u_out (by omega)])
  · rfl

theorem eb_closed_55_13 {a k x : Int32} {I I2 : px_I} {L L2 : px_L} (h : pb_closed a k I L x I2 L2) : I2 55 13 = I 55 13 := by
  unfold pb_closed at h
  obtain ⟨rfl, h⟩ := h
  rfl

theorem ek_closed_110_1 {a k x : Int32} {I I2 : px_I} {L L2 : px_L} (h : pk_closed a k I L x I2 L2) : I2 110 1 = I 110 1 := by
  unfold pk_closed at h
  exact h.1 110 1 (by omega)

theorem eb_span_55_13 {a t k h x : Int32} {I I2 : px_I} {L L2 : px_L} (h : pb_span a t k h I L x I2 L2) : I2 55 13 = I 55 13 := by
  unfold pb_span at h
  obtain ⟨rfl, h⟩ := h
  rfl

theorem ek_span_110_1 {a t k h x : Int32} {I I2 : px_I} {L L2 : px_L} (h : pk_span a t k h I L x I2 L2) : I2 110 1 = I 110 1 := by
  unfold pk_span at h
  exact h.1 110 1 (by omega)

theorem eb_gap_55_13 {a f t k h x : Int32} {I I2 : px_I} {L L2 : px_L} (h : pb_gap a f t k h I L x I2 L2) : I2 55 13 = I 55 13 := by
  unfold pb_gap at h
  obtain ⟨rfl, h⟩ := h
  rfl

theorem ek_gap_110_1 {a f t k h x : Int32} {I I2 : px_I} {L L2 : px_L} (h : pk_gap a f t k h I L x I2 L2) : I2 110 1 = I 110 1 := by
  unfold pk_gap at h
  exact h.1 110 1 (by omega)

theorem eb_blamed_55_13 {a k i x : Int32} {I I2 : px_I} {L L2 : px_L} (h : pb_blamed a k i I L x I2 L2) : I2 55 13 = I 55 13 := by
  unfold pb_blamed at h
  obtain ⟨rfl, h⟩ := h
  rfl

theorem ek_blamed_110_1 {a k i x : Int32} {I I2 : px_I} {L L2 : px_L} (h : pk_blamed a k i I L x I2 L2) : I2 110 1 = I 110 1 := by
  unfold pk_blamed at h
  exact h.1 110 1 (by omega)

theorem eb_mouth_55_13 {g st x : Int32} {I I2 : px_I} {L L2 : px_L} (h : pb_mouth g st I L x I2 L2) : I2 55 13 = I 55 13 := by
  unfold pb_mouth at h
  obtain ⟨rfl, h⟩ := h
  rcases h with ⟨G, g1, rfl⟩ | rfl
  · have gG : G = 41 ∨ G = 55 := by unfold bG at g1; omega
    (repeat rw [px_u_out (by omega)])
  · rfl

theorem ek_mouth_110_1 {g st x : Int32} {I I2 : px_I} {L L2 : px_L} (h : pk_mouth g st I L x I2 L2) : I2 110 1 = I 110 1 := by
  unfold pk_mouth at h
  obtain ⟨rfl, h⟩ := h
  rcases h with ⟨a1, a2, rfl, rfl⟩ | ⟨a1, rfl, rfl⟩
  · (repeat rw [px_u_out (by omega)])
  · rfl

theorem eb_mark_55_13 {g p f t x : Int32} {I I2 : px_I} {L L2 : px_L} (h : pb_mark g p f t I L x I2 L2) : I2 55 13 = I 55 13 := by
  unfold pb_mark at h
  obtain ⟨rfl, h⟩ := h
  rcases h with ⟨G, g1, rfl, rfl⟩ | ⟨a1, rfl, rfl⟩
  · have g2 := g1.1
    have gG : G = 41 ∨ G = 55 := by unfold bG at g2; omega
    unfold cMark; (repeat rw [px_u_out (by omega)])
  · rfl

theorem ek_mark_110_1 {g p f t x : Int32} {I I2 : px_I} {L L2 : px_L} (h : pk_mark g p f t I L x I2 L2) : I2 110 1 = I 110 1 := by
  unfold pk_mark at h
  obtain ⟨rfl, h⟩ := h
  rcases h with ⟨a1, rfl, rfl⟩ | ⟨a1, rfl, rfl⟩
  · unfold mMark; (repeat rw [px_u_out (by omega)])
  · rfl

theorem eb_when_55_13 {g p h x : Int32} {I I2 : px_I} {L L2 : px_L} (h : pb_when g p h I L x I2 L2) : I2 55 13 = I 55 13 := by
  unfold pb_when at h
  obtain ⟨rfl, h⟩ := h
  rw [h 55 (by decide) (by decide) (by decide) (by decide)]

theorem ek_when_110_1 {g p h x : Int32} {I I2 : px_I} {L L2 : px_L} (h : pk_when g p h I L x I2 L2) : I2 110 1 = I 110 1 := by
  unfold pk_when at h
  exact h.1 110 1 (by omega)

theorem eb_between_55_13 {g p q h x : Int32} {I I2 : px_I} {L L2 : px_L} (h : pb_between g p q h I L x I2 L2) : I2 55 13 = I 55 13 := by
  unfold pb_between at h
  obtain ⟨rfl, h⟩ := h
  rw [h 55 (by decide) (by decide) (by decide) (by decide)]

theorem ek_between_110_1 {g p t h x : Int32} {I I2 : px_I} {L L2 : px_L} (h : pk_between g p t h I L x I2 L2) : I2 110 1 = I 110 1 := by
  unfold pk_between at h
  exact h.1 110 1 (by omega)

theorem eb_lamps_55_13 {g p h lo hi x : Int32} {I I2 : px_I} {L L2 : px_L} (h : pb_lamps g p h lo hi I L x I2 L2) : I2 55 13 = I 55 13 := by
  unfold pb_lamps at h
  rw [h.1]

theorem ek_lamps_110_1 {g p h lo hi x : Int32} {I I2 : px_I} {L L2 : px_L} (h : pk_lamps g p h lo hi I L x I2 L2) : I2 110 1 = I 110 1 := by
  unfold pk_lamps at h
  rw [h.1]

theorem eb_count_55_13 {u lo hi x : Int32} {I I2 : px_I} {L L2 : px_L} (h : pb_count u lo hi I L x I2 L2) : I2 55 13 = I 55 13 := by
  unfold pb_count at h
  obtain ⟨rfl, h⟩ := h
  rcases h with ⟨a1, rfl, rfl⟩ | ⟨a1, rfl, rfl⟩
  · (repeat rw [px_u_out (by omega)])
  · rfl

theorem ek_count_110_1 {u lo hi x : Int32} {I I2 : px_I} {L L2 : px_L} (h : pk_count u lo hi I L x I2 L2) : I2 110 1 = I 110 1 := by
  unfold pk_count at h
  rcases h with ⟨a1, rfl, rfl, rfl⟩ | ⟨a1, rfl, rfl, rfl⟩
  · (repeat rw [px_u_out (by omega)])
  · rfl

theorem eb_unit_55_13 {h x : Int32} {I I2 : px_I} {L L2 : px_L} (h : pb_unit h I L x I2 L2) : I2 55 13 = I 55 13 := by
  unfold pb_unit at h
  rw [h.1]

theorem ek_unit_110_1 {h x : Int32} {I I2 : px_I} {L L2 : px_L} (h : pk_unit h I L x I2 L2) : I2 110 1 = I 110 1 := by
  unfold pk_unit at h
  rw [h.1]

theorem eb_feed_55_13 {a b c d e x : Int32} {I I2 : px_I} {L L2 : px_L} (h : pb_feed a b c d e I L x I2 L2) : I2 55 13 = I 55 13 := by
  unfold pb_feed at h
  obtain ⟨rfl, h⟩ := h
  rcases h with ⟨a1, rfl, rfl⟩ | ⟨a1, rfl, rfl⟩
  · rw [cApp_at _ _ 55 13 (by omega) (by omega), cApp_at _ _ 55 13 (by omega) (by omega), cApp_at _ _ 55 13 (by omega) (by omega), cApp_at _ _ 55 13 (by omega) (by omega), cApp_at _ _ 55 13 (by omega) (by omega)]
  · rfl

theorem ek_feed_110_1 {a b c d e x : Int32} {I I2 : px_I} {L L2 : px_L} (h : pk_feed a b c d e I L x I2 L2) : I2 110 1 = I 110 1 := by
  unfold pk_feed at h
  obtain ⟨rfl, h⟩ := h
  rcases h with ⟨a1, rfl, rfl⟩ | ⟨a1, rfl, rfl⟩
  · rw [mPut_o (by omega) (by omega), mPut_o (by omega) (by omega), mPut_o (by omega) (by omega), mPut_o (by omega) (by omega), mPut_o (by omega) (by omega)]
  · rfl

theorem eb_end_55_13 {x9 x : Int32} {I I2 : px_I} {L L2 : px_L} (h : pb_end x9 I L x I2 L2) : I2 55 13 = I 55 13 := by
  unfold pb_end at h
  obtain ⟨rfl, h⟩ := h
  rcases h with ⟨a1, rfl, rfl⟩ | ⟨a1, rfl, rfl⟩
  · (repeat rw [px_u_out (by omega)])
  · rfl

theorem ek_end_110_1 {x9 x : Int32} {I I2 : px_I} {L L2 : px_L} (h : pk_end x9 I L x I2 L2) : I2 110 1 = I 110 1 := by
  unfold pk_end at h
  obtain ⟨rfl, h⟩ := h
  rcases h with ⟨a1, a2, rfl, rfl⟩ | ⟨a1, rfl, rfl⟩
  · (repeat rw [px_u_out (by omega)])
  · rfl

theorem eb_way_55_13 {i x : Int32} {I I2 : px_I} {L L2 : px_L} (h : pb_way i I L x I2 L2) : I2 55 13 = I 55 13 := by
  unfold pb_way at h
  exact h.1 55 13 (by omega) (by omega) (by omega) (by omega) (by omega)

theorem ek_way_110_1 {w x : Int32} {I I2 : px_I} {L L2 : px_L} (h : pk_way w I L x I2 L2) : I2 110 1 = I 110 1 := by
  unfold pk_way at h
  obtain ⟨rfl, h⟩ := h
  rcases h with ⟨a1, a2, rfl⟩ | ⟨a1, a2, a3⟩
  · rfl
  · exact a2 110 1 (by omega) (by omega)

theorem eb_fault_55_13 {x9 x : Int32} {I I2 : px_I} {L L2 : px_L} (h : pb_fault x9 I L x I2 L2) : I2 55 13 = I 55 13 := by
  unfold pb_fault at h
  rw [h.1]

theorem ek_fault_110_1 {x9 x : Int32} {I I2 : px_I} {L L2 : px_L} (h : pk_fault x9 I L x I2 L2) : I2 110 1 = I 110 1 := by
  unfold pk_fault at h
  rw [h.1]

theorem eb_tools_55_13 {a b c d e x : Int32} {I I2 : px_I} {L L2 : px_L} (h : pb_tools a b c d e I L x I2 L2) : I2 55 13 = I 55 13 := by
  unfold pb_tools at h
  obtain ⟨rfl, h⟩ := h
  rcases h with ⟨a1, rfl, a2⟩ | ⟨a1, rfl, rfl⟩
  · rw [a2 55 (by decide)]; (repeat rw [px_u_out (by omega)])
  · rfl

theorem ek_tools_110_1 {a b c d e x : Int32} {I I2 : px_I} {L L2 : px_L} (h : pk_tools a b c d e I L x I2 L2) : I2 110 1 = I 110 1 := by
  unfold pk_tools at h
  obtain ⟨rfl, h⟩ := h
  rcases h with ⟨a1, rfl, rfl⟩ | ⟨a1, rfl, rfl⟩
  · (repeat rw [px_u_out (by omega)])
  · rfl

theorem eb_run_55_13 {w h a x : Int32} {I I2 : px_I} {L L2 : px_L} (h : pb_run w h a I L x I2 L2) : I2 55 13 = I 55 13 := by
  unfold pb_run at h
  exact h.1 55 13 (by omega) (by omega) (by omega) (by omega) (by omega) (by omega) (by omega)

theorem ek_run_110_1 {w h a x : Int32} {I I2 : px_I} {L L2 : px_L} (h : pk_run w h a I L x I2 L2) : I2 110 1 = I 110 1 := by
  unfold pk_run at h
  exact h.1 110 1 (by omega) (by omega) (by omega)

theorem eb_meeting_55_13 {a f b t x9 h x : Int32} {I I2 : px_I} {L L2 : px_L} (h : pb_meeting a f b t x9 h I L x I2 L2) : I2 55 13 = I 55 13 := by
  unfold pb_meeting at h
  exact h.1 55 13 (by omega) (by omega) (by omega) (by omega) (by omega) (by omega) (by omega)

theorem ek_meeting_110_1 {a f b t x9 h x : Int32} {I I2 : px_I} {L L2 : px_L} (h : pk_meeting a f b t x9 h I L x I2 L2) : I2 110 1 = I 110 1 := by
  unfold pk_meeting at h
  exact h.1 110 1 (by omega) (by omega) (by omega)

theorem eb_there_55_13 {a lo hi x : Int32} {I I2 : px_I} {L L2 : px_L} (h : pb_there a lo hi I L x I2 L2) : I2 55 13 = I 55 13 := by
  unfold pb_there at h
  obtain ⟨rfl, h⟩ := h
  rcases h with ⟨a1, rfl, rfl⟩ | ⟨a1, rfl, rfl⟩
  · (repeat rw [px_u_out (by omega)])
  · rfl

theorem ek_there_110_1 {a lo hi x : Int32} {I I2 : px_I} {L L2 : px_L} (h : pk_there a lo hi I L x I2 L2) : I2 110 1 = I 110 1 := by
  unfold pk_there at h
  obtain ⟨rfl, h⟩ := h
  rcases h with ⟨a1, rfl, rfl⟩ | ⟨a1, rfl, rfl⟩
  · (repeat rw [px_u_out (by omega)])
  · rfl

theorem eb_fits_55_13 {a f b t x : Int32} {I I2 : px_I} {L L2 : px_L} (h : pb_fits a f b t I L x I2 L2) : I2 55 13 = I 55 13 := by
  unfold pb_fits at h
  exact h.1 55 13 (by omega) (by omega) (by omega) (by omega) (by omega) (by omega) (by omega)

theorem ek_fits_110_1 {a f b t x : Int32} {I I2 : px_I} {L L2 : px_L} (h : pk_fits a f b t I L x I2 L2) : I2 110 1 = I 110 1 := by
  unfold pk_fits at h
  exact h.1 110 1 (by omega) (by omega) (by omega)

theorem eb_ways_55_13 {a f b t x9 x : Int32} {I I2 : px_I} {L L2 : px_L} (h : pb_ways a f b t x9 I L x I2 L2) : I2 55 13 = I 55 13 := by
  unfold pb_ways at h
  exact h.1 55 13 (by omega) (by omega) (by omega) (by omega) (by omega) (by omega) (by omega)

theorem ek_ways_110_1 {a f b t x9 x : Int32} {I I2 : px_I} {L L2 : px_L} (h : pk_ways a f b t x9 I L x I2 L2) : I2 110 1 = I 110 1 := by
  unfold pk_ways at h
  exact h.1 110 1 (by omega) (by omega) (by omega)

theorem eb_seek_55_13 {a b c d e f x : Int32} {I I2 : px_I} {L L2 : px_L} (h : pb_seek a b c d e f I L x I2 L2) : I2 55 13 = I 55 13 := by
  unfold pb_seek at h
  obtain ⟨rfl, h⟩ := h
  rcases h with ⟨a1, rfl, rfl⟩ | ⟨a1, rfl, rfl⟩
  · (repeat rw [px_u_out (by omega)])
  · rfl

theorem ek_seek_110_1 {a b c d e f x : Int32} {I I2 : px_I} {L L2 : px_L} (h : pk_seek a b c d e f I L x I2 L2) : I2 110 1 = I 110 1 := by
  unfold pk_seek at h
  obtain ⟨rfl, h⟩ := h
  rcases h with ⟨a1, rfl, rfl⟩ | ⟨a1, rfl, rfl⟩
  · (repeat rw [px_u_out (by omega)])
  · rfl

theorem eb_detour_55_13 {a o h x : Int32} {I I2 : px_I} {L L2 : px_L} (h : pb_detour a o h I L x I2 L2) : I2 55 13 = I 55 13 := by
  unfold pb_detour at h
  rw [h.1]

theorem ek_detour_110_1 {a o lo x : Int32} {I I2 : px_I} {L L2 : px_L} (h : pk_detour a o lo I L x I2 L2) : I2 110 1 = I 110 1 := by
  unfold pk_detour at h
  rw [h.1]

theorem eb_table_55_13 {c v x : Int32} {I I2 : px_I} {L L2 : px_L} (h : pb_table c v I L x I2 L2) : I2 55 13 = I 55 13 := by
  unfold pb_table at h
  obtain ⟨rfl, h⟩ := h
  rcases h with ⟨a1, rfl, rfl⟩ | ⟨a1, rfl, rfl⟩
  · (repeat rw [px_u_out (by omega)])
  · rfl

theorem ek_table_110_1 {c v x : Int32} {I I2 : px_I} {L L2 : px_L} (h : pk_table c v I L x I2 L2) : I2 110 1 = I 110 1 := by
  unfold pk_table at h
  obtain ⟨rfl, h⟩ := h
  rcases h with ⟨a1, rfl, rfl⟩ | ⟨a1, rfl, rfl⟩
  · (repeat rw [px_u_out (by omega)])
  · rfl

theorem eb_repair_55_13 {g p y x : Int32} {I I2 : px_I} {L L2 : px_L} (h : pb_repair g p y I L x I2 L2) : I2 55 13 = I 55 13 := by
  unfold pb_repair at h
  obtain ⟨rfl, h⟩ := h
  rcases h with ⟨G, g1, rfl, rfl⟩ | ⟨a1, rfl, rfl⟩
  · have g2 := g1.1
    have gG : G = 41 ∨ G = 55 := by unfold bG at g2; omega
    unfold cRep; (repeat rw [px_u_out (by omega)])
  · rfl

theorem ek_repair_110_1 {g p y x : Int32} {I I2 : px_I} {L L2 : px_L} (h : pk_repair g p y I L x I2 L2) : I2 110 1 = I 110 1 := by
  unfold pk_repair at h
  obtain ⟨rfl, h⟩ := h
  rcases h with ⟨a1, rfl, rfl⟩ | ⟨a1, rfl, rfl⟩
  · (repeat rw [px_u_out (by omega)])
  · rfl

theorem eb_lime_55_13 {v x : Int32} {I I2 : px_I} {L L2 : px_L} (h : pb_lime v I L x I2 L2) : I2 55 13 = I 55 13 := by
  unfold pb_lime at h
  obtain ⟨rfl, h⟩ := h
  rcases h with ⟨a1, rfl, rfl⟩ | ⟨a1, rfl, rfl⟩
  · (repeat rw [px_u_out (by omega)])
  · rfl

theorem ek_lime_110_1 {v x : Int32} {I I2 : px_I} {L L2 : px_L} (h : pk_lime v I L x I2 L2) : I2 110 1 = I 110 1 := by
  unfold pk_lime at h
  obtain ⟨rfl, h⟩ := h
  rcases h with ⟨a1, a2, rfl, rfl⟩ | ⟨a1, rfl, rfl⟩
  · (repeat rw [px_u_out (by omega)])
  · rfl

theorem eb_flow_55_13 {g y k h x : Int32} {I I2 : px_I} {L L2 : px_L} (h : pb_flow g y k h I L x I2 L2) : I2 55 13 = I 55 13 := by
  unfold pb_flow at h
  exact h.1 55 13 (by omega)

theorem ek_flow_110_1 {g y k h x : Int32} {I I2 : px_I} {L L2 : px_L} (h : pk_flow g y k h I L x I2 L2) : I2 110 1 = I 110 1 := by
  unfold pk_flow at h
  exact h.1 110 1 (by omega)

theorem eb_narrow_55_13 {g y k x : Int32} {I I2 : px_I} {L L2 : px_L} (h : pb_narrow g y k I L x I2 L2) : I2 55 13 = I 55 13 := by
  unfold pb_narrow at h
  exact h.1 55 13 (by omega)

theorem ek_narrow_110_1 {g y k x : Int32} {I I2 : px_I} {L L2 : px_L} (h : pk_narrow g y k I L x I2 L2) : I2 110 1 = I 110 1 := by
  unfold pk_narrow at h
  exact h.1 110 1 (by omega)

theorem eb_about_55_13 {w x : Int32} {I I2 : px_I} {L L2 : px_L} (h : pb_about w I L x I2 L2) : I2 55 13 = I 55 13 := by
  unfold pb_about at h
  rw [h.1]

theorem ek_about_110_1 {w x : Int32} {I I2 : px_I} {L L2 : px_L} (h : pk_about w I L x I2 L2) : I2 110 1 = I 110 1 := by
  unfold pk_about at h
  rw [h.1]

theorem eb_days_43_r {x9 x : Int32} {I I2 : px_I} {L L2 : px_L} (h : pb_days x9 I L x I2 L2) : I2 43 = I 43 := by
  unfold pb_days at h
  obtain ⟨rfl, h⟩ := h
  rcases h with ⟨a1, a2, rfl, rfl⟩ | ⟨a1, rfl, rfl⟩
  · (repeat rw [px_u_ne (by omega)])
  · rfl

theorem eb_days_44_r {x9 x : Int32} {I I2 : px_I} {L L2 : px_L} (h : pb_days x9 I L x I2 L2) : I2 44 = I 44 := by
  unfold pb_days at h
  obtain ⟨rfl, h⟩ := h
  rcases h with ⟨a1, a2, rfl, rfl⟩ | ⟨a1, rfl, rfl⟩
  · (repeat rw [px_u_ne (by omega)])
  · rfl

theorem eb_days_57_r {x9 x : Int32} {I I2 : px_I} {L L2 : px_L} (h : pb_days x9 I L x I2 L2) : I2 57 = I 57 := by
  unfold pb_days at h
  obtain ⟨rfl, h⟩ := h
  rcases h with ⟨a1, a2, rfl, rfl⟩ | ⟨a1, rfl, rfl⟩
  · (repeat rw [px_u_ne (by omega)])
  · rfl

theorem eb_days_58_r {x9 x : Int32} {I I2 : px_I} {L L2 : px_L} (h : pb_days x9 I L x I2 L2) : I2 58 = I 58 := by
  unfold pb_days at h
  obtain ⟨rfl, h⟩ := h
  rcases h with ⟨a1, a2, rfl, rfl⟩ | ⟨a1, rfl, rfl⟩
  · (repeat rw [px_u_ne (by omega)])
  · rfl

theorem ek_days_111_r {x9 x : Int32} {I I2 : px_I} {L L2 : px_L} (h : pk_days x9 I L x I2 L2) : I2 111 = I 111 := by
  unfold pk_days at h
  obtain ⟨rfl, h⟩ := h
  rcases h with ⟨a1, a2, a3, rfl, rfl⟩ | ⟨a1, rfl, rfl⟩
  · (repeat rw [px_u_ne (by omega)])
  · rfl

theorem ek_days_112_r {x9 x : Int32} {I I2 : px_I} {L L2 : px_L} (h : pk_days x9 I L x I2 L2) : I2 112 = I 112 := by
  unfold pk_days at h
  obtain ⟨rfl, h⟩ := h
  rcases h with ⟨a1, a2, a3, rfl, rfl⟩ | ⟨a1, rfl, rfl⟩
  · (repeat rw [px_u_ne (by omega)])
  · rfl

theorem eb_station_43_r { x : Int32} {I I2 : px_I} {L L2 : px_L} (h : pb_station  I L x I2 L2) : I2 43 = I 43 := by
  unfold pb_station at h
  obtain ⟨rfl, h⟩ := h
  rcases h with ⟨a1, rfl, rfl⟩ | ⟨a1, rfl, rfl⟩
  · (repeat rw [px_u_ne (by omega)])
  · rfl

theorem eb_station_44_r { x : Int32} {I I2 : px_I} {L L2 : px_L} (h : pb_station  I L x I2 L2) : I2 44 = I 44 := by
  unfold pb_station at h
  obtain ⟨rfl, h⟩ := h
  rcases h with ⟨a1, rfl, rfl⟩ | ⟨a1, rfl, rfl⟩
  · (repeat rw [px_u_ne (by omega)])
  · rfl

theorem eb_station_57_r { x : Int32} {I I2 : px_I} {L L2 : px_L} (h : pb_station  I L x I2 L2) : I2 57 = I 57 := by
  unfold pb_station at h
  obtain ⟨rfl, h⟩ := h
  rcases h with ⟨a1, rfl, rfl⟩ | ⟨a1, rfl, rfl⟩
  · (repeat rw [px_u_ne (by omega)])
  · rfl

theorem eb_station_58_r { x : Int32} {I I2 : px_I} {L L2 : px_L} (h : pb_station  I L x I2 L2) : I2 58 = I 58 := by
  unfold pb_station at h
  obtain ⟨rfl, h⟩ := h
  rcases h with ⟨a1, rfl, rfl⟩ | ⟨a1, rfl, rfl⟩
  · (repeat rw [px_u_ne (by omega)])
  · rfl

theorem ek_station_111_r { x : Int32} {I I2 : px_I} {L L2 : px_L} (h : pk_station  I L x I2 L2) : I2 111 = I 111 := by
  unfold pk_station at h
  obtain ⟨rfl, h⟩ := h
  rcases h with ⟨a1, rfl, rfl⟩ | ⟨a1, rfl, rfl⟩
  · (repeat rw [px_u_ne (by omega)])
  · rfl

theorem ek_station_112_r { x : Int32} {I I2 : px_I} {L L2 : px_L} (h : pk_station  I L x I2 L2) : I2 112 = I 112 := by
  unfold pk_station at h
  obtain ⟨rfl, h⟩ := h
  rcases h with ⟨a1, rfl, rfl⟩ | ⟨a1, rfl, rfl⟩
  · (repeat rw [px_u_ne (by omega)])
  · rfl

theorem eb_sight_43_r {a f t lo hi x : Int32} {I I2 : px_I} {L L2 : px_L} (h : pb_sight a f t lo hi I L x I2 L2) : I2 43 = I 43 := by
  unfold pb_sight at h
  obtain ⟨rfl, h⟩ := h
  rcases h with ⟨a1, rfl, rfl⟩ | ⟨a1, rfl, rfl⟩
  · (repeat rw [px_u_ne (by omega)])
  · rfl

theorem eb_sight_44_r {a f t lo hi x : Int32} {I I2 : px_I} {L L2 : px_L} (h : pb_sight a f t lo hi I L x I2 L2) : I2 44 = I 44 := by
  unfold pb_sight at h
  obtain ⟨rfl, h⟩ := h
  rcases h with ⟨a1, rfl, rfl⟩ | ⟨a1, rfl, rfl⟩
  · (repeat rw [px_u_ne (by omega)])
  · rfl

theorem eb_sight_57_r {a f t lo hi x : Int32} {I I2 : px_I} {L L2 : px_L} (h : pb_sight a f t lo hi I L x I2 L2) : I2 57 = I 57 := by
  unfold pb_sight at h
  obtain ⟨rfl, h⟩ := h
  rcases h with ⟨a1, rfl, rfl⟩ | ⟨a1, rfl, rfl⟩
  · (repeat rw [px_u_ne (by omega)])
  · rfl

theorem eb_sight_58_r {a f t lo hi x : Int32} {I I2 : px_I} {L L2 : px_L} (h : pb_sight a f t lo hi I L x I2 L2) : I2 58 = I 58 := by
  unfold pb_sight at h
  obtain ⟨rfl, h⟩ := h
  rcases h with ⟨a1, rfl, rfl⟩ | ⟨a1, rfl, rfl⟩
  · (repeat rw [px_u_ne (by omega)])
  · rfl

theorem ek_sight_111_r {a f t lo hi x : Int32} {I I2 : px_I} {L L2 : px_L} (h : pk_sight a f t lo hi I L x I2 L2) : I2 111 = I 111 := by
  unfold pk_sight at h
  obtain ⟨rfl, h⟩ := h
  rcases h with ⟨a1, rfl, rfl⟩ | ⟨a1, rfl, rfl⟩
  · (repeat rw [px_u_ne (by omega)])
  · rfl

theorem ek_sight_112_r {a f t lo hi x : Int32} {I I2 : px_I} {L L2 : px_L} (h : pk_sight a f t lo hi I L x I2 L2) : I2 112 = I 112 := by
  unfold pk_sight at h
  obtain ⟨rfl, h⟩ := h
  rcases h with ⟨a1, rfl, rfl⟩ | ⟨a1, rfl, rfl⟩
  · (repeat rw [px_u_ne (by omega)])
  · rfl

theorem eb_closed_43_r {a k x : Int32} {I I2 : px_I} {L L2 : px_L} (h : pb_closed a k I L x I2 L2) : I2 43 = I 43 := by
  unfold pb_closed at h
  obtain ⟨rfl, h⟩ := h
  rfl

theorem eb_closed_44_r {a k x : Int32} {I I2 : px_I} {L L2 : px_L} (h : pb_closed a k I L x I2 L2) : I2 44 = I 44 := by
  unfold pb_closed at h
  obtain ⟨rfl, h⟩ := h
  rfl

theorem eb_closed_57_r {a k x : Int32} {I I2 : px_I} {L L2 : px_L} (h : pb_closed a k I L x I2 L2) : I2 57 = I 57 := by
  unfold pb_closed at h
  obtain ⟨rfl, h⟩ := h
  rfl

theorem eb_closed_58_r {a k x : Int32} {I I2 : px_I} {L L2 : px_L} (h : pb_closed a k I L x I2 L2) : I2 58 = I 58 := by
  unfold pb_closed at h
  obtain ⟨rfl, h⟩ := h
  rfl

theorem ek_closed_111_r {a k x : Int32} {I I2 : px_I} {L L2 : px_L} (h : pk_closed a k I L x I2 L2) : I2 111 = I 111 := by
  unfold pk_closed at h
  exact funext fun j => h.1 111 j (by omega)

theorem ek_closed_112_r {a k x : Int32} {I I2 : px_I} {L L2 : px_L} (h : pk_closed a k I L x I2 L2) : I2 112 = I 112 := by
  unfold pk_closed at h
  exact funext fun j => h.1 112 j (by omega)

theorem eb_span_43_r {a t k h x : Int32} {I I2 : px_I} {L L2 : px_L} (h : pb_span a t k h I L x I2 L2) : I2 43 = I 43 := by
  unfold pb_span at h
  obtain ⟨rfl, h⟩ := h
  rfl

theorem eb_span_44_r {a t k h x : Int32} {I I2 : px_I} {L L2 : px_L} (h : pb_span a t k h I L x I2 L2) : I2 44 = I 44 := by
  unfold pb_span at h
  obtain ⟨rfl, h⟩ := h
  rfl

theorem eb_span_57_r {a t k h x : Int32} {I I2 : px_I} {L L2 : px_L} (h : pb_span a t k h I L x I2 L2) : I2 57 = I 57 := by
  unfold pb_span at h
  obtain ⟨rfl, h⟩ := h
  rfl

theorem eb_span_58_r {a t k h x : Int32} {I I2 : px_I} {L L2 : px_L} (h : pb_span a t k h I L x I2 L2) : I2 58 = I 58 := by
  unfold pb_span at h
  obtain ⟨rfl, h⟩ := h
  rfl

theorem ek_span_111_r {a t k h x : Int32} {I I2 : px_I} {L L2 : px_L} (h : pk_span a t k h I L x I2 L2) : I2 111 = I 111 := by
  unfold pk_span at h
  exact funext fun j => h.1 111 j (by omega)

theorem ek_span_112_r {a t k h x : Int32} {I I2 : px_I} {L L2 : px_L} (h : pk_span a t k h I L x I2 L2) : I2 112 = I 112 := by
  unfold pk_span at h
  exact funext fun j => h.1 112 j (by omega)

theorem eb_gap_43_r {a f t k h x : Int32} {I I2 : px_I} {L L2 : px_L} (h : pb_gap a f t k h I L x I2 L2) : I2 43 = I 43 := by
  unfold pb_gap at h
  obtain ⟨rfl, h⟩ := h
  rfl

theorem eb_gap_44_r {a f t k h x : Int32} {I I2 : px_I} {L L2 : px_L} (h : pb_gap a f t k h I L x I2 L2) : I2 44 = I 44 := by
  unfold pb_gap at h
  obtain ⟨rfl, h⟩ := h
  rfl

theorem eb_gap_57_r {a f t k h x : Int32} {I I2 : px_I} {L L2 : px_L} (h : pb_gap a f t k h I L x I2 L2) : I2 57 = I 57 := by
  unfold pb_gap at h
  obtain ⟨rfl, h⟩ := h
  rfl

theorem eb_gap_58_r {a f t k h x : Int32} {I I2 : px_I} {L L2 : px_L} (h : pb_gap a f t k h I L x I2 L2) : I2 58 = I 58 := by
  unfold pb_gap at h
  obtain ⟨rfl, h⟩ := h
  rfl

theorem ek_gap_111_r {a f t k h x : Int32} {I I2 : px_I} {L L2 : px_L} (h : pk_gap a f t k h I L x I2 L2) : I2 111 = I 111 := by
  unfold pk_gap at h
  exact funext fun j => h.1 111 j (by omega)

theorem ek_gap_112_r {a f t k h x : Int32} {I I2 : px_I} {L L2 : px_L} (h : pk_gap a f t k h I L x I2 L2) : I2 112 = I 112 := by
  unfold pk_gap at h
  exact funext fun j => h.1 112 j (by omega)

theorem eb_blamed_43_r {a k i x : Int32} {I I2 : px_I} {L L2 : px_L} (h : pb_blamed a k i I L x I2 L2) : I2 43 = I 43 := by
  unfold pb_blamed at h
  obtain ⟨rfl, h⟩ := h
  rfl

theorem eb_blamed_44_r {a k i x : Int32} {I I2 : px_I} {L L2 : px_L} (h : pb_blamed a k i I L x I2 L2) : I2 44 = I 44 := by
  unfold pb_blamed at h
  obtain ⟨rfl, h⟩ := h
  rfl

theorem eb_blamed_57_r {a k i x : Int32} {I I2 : px_I} {L L2 : px_L} (h : pb_blamed a k i I L x I2 L2) : I2 57 = I 57 := by
  unfold pb_blamed at h
  obtain ⟨rfl, h⟩ := h
  rfl

theorem eb_blamed_58_r {a k i x : Int32} {I I2 : px_I} {L L2 : px_L} (h : pb_blamed a k i I L x I2 L2) : I2 58 = I 58 := by
  unfold pb_blamed at h
  obtain ⟨rfl, h⟩ := h
  rfl

theorem ek_blamed_111_r {a k i x : Int32} {I I2 : px_I} {L L2 : px_L} (h : pk_blamed a k i I L x I2 L2) : I2 111 = I 111 := by
  unfold pk_blamed at h
  exact funext fun j => h.1 111 j (by omega)

theorem ek_blamed_112_r {a k i x : Int32} {I I2 : px_I} {L L2 : px_L} (h : pk_blamed a k i I L x I2 L2) : I2 112 = I 112 := by
  unfold pk_blamed at h
  exact funext fun j => h.1 112 j (by omega)

theorem eb_mouth_43_r {g st x : Int32} {I I2 : px_I} {L L2 : px_L} (h : pb_mouth g st I L x I2 L2) : I2 43 = I 43 := by
  unfold pb_mouth at h
  obtain ⟨rfl, h⟩ := h
  rcases h with ⟨G, g1, rfl⟩ | rfl
  · have gG : G = 41 ∨ G = 55 := by unfold bG at g1; omega
    (repeat rw [px_u_ne (by omega)])
  · rfl

theorem eb_mouth_44_r {g st x : Int32} {I I2 : px_I} {L L2 : px_L} (h : pb_mouth g st I L x I2 L2) : I2 44 = I 44 := by
  unfold pb_mouth at h
  obtain ⟨rfl, h⟩ := h
  rcases h with ⟨G, g1, rfl⟩ | rfl
  · have gG : G = 41 ∨ G = 55 := by unfold bG at g1; omega
    (repeat rw [px_u_ne (by omega)])
  · rfl

theorem eb_mouth_57_r {g st x : Int32} {I I2 : px_I} {L L2 : px_L} (h : pb_mouth g st I L x I2 L2) : I2 57 = I 57 := by
  unfold pb_mouth at h
  obtain ⟨rfl, h⟩ := h
  rcases h with ⟨G, g1, rfl⟩ | rfl
  · have gG : G = 41 ∨ G = 55 := by unfold bG at g1; omega
    (repeat rw [px_u_ne (by omega)])
  · rfl

theorem eb_mouth_58_r {g st x : Int32} {I I2 : px_I} {L L2 : px_L} (h : pb_mouth g st I L x I2 L2) : I2 58 = I 58 := by
  unfold pb_mouth at h
  obtain ⟨rfl, h⟩ := h
  rcases h with ⟨G, g1, rfl⟩ | rfl
  · have gG : G = 41 ∨ G = 55 := by unfold bG at g1; omega
    (repeat rw [px_u_ne (by omega)])
  · rfl

theorem ek_mouth_111_r {g st x : Int32} {I I2 : px_I} {L L2 : px_L} (h : pk_mouth g st I L x I2 L2) : I2 111 = I 111 := by
  unfold pk_mouth at h
  obtain ⟨rfl, h⟩ := h
  rcases h with ⟨a1, a2, rfl, rfl⟩ | ⟨a1, rfl, rfl⟩
  · (repeat rw [px_u_ne (by omega)])
  · rfl

theorem ek_mouth_112_r {g st x : Int32} {I I2 : px_I} {L L2 : px_L} (h : pk_mouth g st I L x I2 L2) : I2 112 = I 112 := by
  unfold pk_mouth at h
  obtain ⟨rfl, h⟩ := h
  rcases h with ⟨a1, a2, rfl, rfl⟩ | ⟨a1, rfl, rfl⟩
  · (repeat rw [px_u_ne (by omega)])
  · rfl

theorem eb_mark_43_r {g p f t x : Int32} {I I2 : px_I} {L L2 : px_L} (h : pb_mark g p f t I L x I2 L2) : I2 43 = I 43 := by
  unfold pb_mark at h
  obtain ⟨rfl, h⟩ := h
  rcases h with ⟨G, g1, rfl, rfl⟩ | ⟨a1, rfl, rfl⟩
  · have g2 := g1.1
    have gG : G = 41 ∨ G = 55 := by unfold bG at g2; omega
    unfold cMark; (repeat rw [px_u_ne (by omega)])
  · rfl

theorem eb_mark_44_r {g p f t x : Int32} {I I2 : px_I} {L L2 : px_L} (h : pb_mark g p f t I L x I2 L2) : I2 44 = I 44 := by
  unfold pb_mark at h
  obtain ⟨rfl, h⟩ := h
  rcases h with ⟨G, g1, rfl, rfl⟩ | ⟨a1, rfl, rfl⟩
  · have g2 := g1.1
    have gG : G = 41 ∨ G = 55 := by unfold bG at g2; omega
    unfold cMark; (repeat rw [px_u_ne (by omega)])
  · rfl

theorem eb_mark_57_r {g p f t x : Int32} {I I2 : px_I} {L L2 : px_L} (h : pb_mark g p f t I L x I2 L2) : I2 57 = I 57 := by
  unfold pb_mark at h
  obtain ⟨rfl, h⟩ := h
  rcases h with ⟨G, g1, rfl, rfl⟩ | ⟨a1, rfl, rfl⟩
  · have g2 := g1.1
    have gG : G = 41 ∨ G = 55 := by unfold bG at g2; omega
    unfold cMark; (repeat rw [px_u_ne (by omega)])
  · rfl

theorem eb_mark_58_r {g p f t x : Int32} {I I2 : px_I} {L L2 : px_L} (h : pb_mark g p f t I L x I2 L2) : I2 58 = I 58 := by
  unfold pb_mark at h
  obtain ⟨rfl, h⟩ := h
  rcases h with ⟨G, g1, rfl, rfl⟩ | ⟨a1, rfl, rfl⟩
  · have g2 := g1.1
    have gG : G = 41 ∨ G = 55 := by unfold bG at g2; omega
    unfold cMark; (repeat rw [px_u_ne (by omega)])
  · rfl

theorem ek_mark_111_r {g p f t x : Int32} {I I2 : px_I} {L L2 : px_L} (h : pk_mark g p f t I L x I2 L2) : I2 111 = I 111 := by
  unfold pk_mark at h
  obtain ⟨rfl, h⟩ := h
  rcases h with ⟨a1, rfl, rfl⟩ | ⟨a1, rfl, rfl⟩
  · unfold mMark; (repeat rw [px_u_ne (by omega)])
  · rfl

theorem ek_mark_112_r {g p f t x : Int32} {I I2 : px_I} {L L2 : px_L} (h : pk_mark g p f t I L x I2 L2) : I2 112 = I 112 := by
  unfold pk_mark at h
  obtain ⟨rfl, h⟩ := h
  rcases h with ⟨a1, rfl, rfl⟩ | ⟨a1, rfl, rfl⟩
  · unfold mMark; (repeat rw [px_u_ne (by omega)])
  · rfl

theorem eb_when_43_r {g p h x : Int32} {I I2 : px_I} {L L2 : px_L} (h : pb_when g p h I L x I2 L2) : I2 43 = I 43 := by
  unfold pb_when at h
  obtain ⟨rfl, h⟩ := h
  rw [h 43 (by decide) (by decide) (by decide) (by decide)]

theorem eb_when_44_r {g p h x : Int32} {I I2 : px_I} {L L2 : px_L} (h : pb_when g p h I L x I2 L2) : I2 44 = I 44 := by
  unfold pb_when at h
  obtain ⟨rfl, h⟩ := h
  rw [h 44 (by decide) (by decide) (by decide) (by decide)]

theorem eb_when_57_r {g p h x : Int32} {I I2 : px_I} {L L2 : px_L} (h : pb_when g p h I L x I2 L2) : I2 57 = I 57 := by
  unfold pb_when at h
  obtain ⟨rfl, h⟩ := h
  rw [h 57 (by decide) (by decide) (by decide) (by decide)]

theorem eb_when_58_r {g p h x : Int32} {I I2 : px_I} {L L2 : px_L} (h : pb_when g p h I L x I2 L2) : I2 58 = I 58 := by
  unfold pb_when at h
  obtain ⟨rfl, h⟩ := h
  rw [h 58 (by decide) (by decide) (by decide) (by decide)]

theorem ek_when_111_r {g p h x : Int32} {I I2 : px_I} {L L2 : px_L} (h : pk_when g p h I L x I2 L2) : I2 111 = I 111 := by
  unfold pk_when at h
  exact funext fun j => h.1 111 j (by omega)

theorem ek_when_112_r {g p h x : Int32} {I I2 : px_I} {L L2 : px_L} (h : pk_when g p h I L x I2 L2) : I2 112 = I 112 := by
  unfold pk_when at h
  exact funext fun j => h.1 112 j (by omega)

theorem eb_between_43_r {g p q h x : Int32} {I I2 : px_I} {L L2 : px_L} (h : pb_between g p q h I L x I2 L2) : I2 43 = I 43 := by
  unfold pb_between at h
  obtain ⟨rfl, h⟩ := h
  rw [h 43 (by decide) (by decide) (by decide) (by decide)]

theorem eb_between_44_r {g p q h x : Int32} {I I2 : px_I} {L L2 : px_L} (h : pb_between g p q h I L x I2 L2) : I2 44 = I 44 := by
  unfold pb_between at h
  obtain ⟨rfl, h⟩ := h
  rw [h 44 (by decide) (by decide) (by decide) (by decide)]

theorem eb_between_57_r {g p q h x : Int32} {I I2 : px_I} {L L2 : px_L} (h : pb_between g p q h I L x I2 L2) : I2 57 = I 57 := by
  unfold pb_between at h
  obtain ⟨rfl, h⟩ := h
  rw [h 57 (by decide) (by decide) (by decide) (by decide)]

theorem eb_between_58_r {g p q h x : Int32} {I I2 : px_I} {L L2 : px_L} (h : pb_between g p q h I L x I2 L2) : I2 58 = I 58 := by
  unfold pb_between at h
  obtain ⟨rfl, h⟩ := h
  rw [h 58 (by decide) (by decide) (by decide) (by decide)]

theorem ek_between_111_r {g p t h x : Int32} {I I2 : px_I} {L L2 : px_L} (h : pk_between g p t h I L x I2 L2) : I2 111 = I 111 := by
  unfold pk_between at h
  exact funext fun j => h.1 111 j (by omega)

theorem ek_between_112_r {g p t h x : Int32} {I I2 : px_I} {L L2 : px_L} (h : pk_between g p t h I L x I2 L2) : I2 112 = I 112 := by
  unfold pk_between at h
  exact funext fun j => h.1 112 j (by omega)

theorem eb_lamps_43_r {g p h lo hi x : Int32} {I I2 : px_I} {L L2 : px_L} (h : pb_lamps g p h lo hi I L x I2 L2) : I2 43 = I 43 := by
  unfold pb_lamps at h
  rw [h.1]

theorem eb_lamps_44_r {g p h lo hi x : Int32} {I I2 : px_I} {L L2 : px_L} (h : pb_lamps g p h lo hi I L x I2 L2) : I2 44 = I 44 := by
  unfold pb_lamps at h
  rw [h.1]

theorem eb_lamps_57_r {g p h lo hi x : Int32} {I I2 : px_I} {L L2 : px_L} (h : pb_lamps g p h lo hi I L x I2 L2) : I2 57 = I 57 := by
  unfold pb_lamps at h
  rw [h.1]

theorem eb_lamps_58_r {g p h lo hi x : Int32} {I I2 : px_I} {L L2 : px_L} (h : pb_lamps g p h lo hi I L x I2 L2) : I2 58 = I 58 := by
  unfold pb_lamps at h
  rw [h.1]

theorem ek_lamps_111_r {g p h lo hi x : Int32} {I I2 : px_I} {L L2 : px_L} (h : pk_lamps g p h lo hi I L x I2 L2) : I2 111 = I 111 := by
  unfold pk_lamps at h
  rw [h.1]

theorem ek_lamps_112_r {g p h lo hi x : Int32} {I I2 : px_I} {L L2 : px_L} (h : pk_lamps g p h lo hi I L x I2 L2) : I2 112 = I 112 := by
  unfold pk_lamps at h
  rw [h.1]

theorem eb_count_43_r {u lo hi x : Int32} {I I2 : px_I} {L L2 : px_L} (h : pb_count u lo hi I L x I2 L2) : I2 43 = I 43 := by
  unfold pb_count at h
  obtain ⟨rfl, h⟩ := h
  rcases h with ⟨a1, rfl, rfl⟩ | ⟨a1, rfl, rfl⟩
  · (repeat rw [px_u_ne (by omega)])
  · rfl

theorem eb_count_44_r {u lo hi x : Int32} {I I2 : px_I} {L L2 : px_L} (h : pb_count u lo hi I L x I2 L2) : I2 44 = I 44 := by
  unfold pb_count at h
  obtain ⟨rfl, h⟩ := h
  rcases h with ⟨a1, rfl, rfl⟩ | ⟨a1, rfl, rfl⟩
  · (repeat rw [px_u_ne (by omega)])
  · rfl

theorem eb_count_57_r {u lo hi x : Int32} {I I2 : px_I} {L L2 : px_L} (h : pb_count u lo hi I L x I2 L2) : I2 57 = I 57 := by
  unfold pb_count at h
  obtain ⟨rfl, h⟩ := h
  rcases h with ⟨a1, rfl, rfl⟩ | ⟨a1, rfl, rfl⟩
  · (repeat rw [px_u_ne (by omega)])
  · rfl

theorem eb_count_58_r {u lo hi x : Int32} {I I2 : px_I} {L L2 : px_L} (h : pb_count u lo hi I L x I2 L2) : I2 58 = I 58 := by
  unfold pb_count at h
  obtain ⟨rfl, h⟩ := h
  rcases h with ⟨a1, rfl, rfl⟩ | ⟨a1, rfl, rfl⟩
  · (repeat rw [px_u_ne (by omega)])
  · rfl

theorem ek_count_111_r {u lo hi x : Int32} {I I2 : px_I} {L L2 : px_L} (h : pk_count u lo hi I L x I2 L2) : I2 111 = I 111 := by
  unfold pk_count at h
  rcases h with ⟨a1, rfl, rfl, rfl⟩ | ⟨a1, rfl, rfl, rfl⟩
  · (repeat rw [px_u_ne (by omega)])
  · rfl

theorem ek_count_112_r {u lo hi x : Int32} {I I2 : px_I} {L L2 : px_L} (h : pk_count u lo hi I L x I2 L2) : I2 112 = I 112 := by
  unfold pk_count at h
  rcases h with ⟨a1, rfl, rfl, rfl⟩ | ⟨a1, rfl, rfl, rfl⟩
  · (repeat rw [px_u_ne (by omega)])
  · rfl

theorem eb_unit_43_r {h x : Int32} {I I2 : px_I} {L L2 : px_L} (h : pb_unit h I L x I2 L2) : I2 43 = I 43 := by
  unfold pb_unit at h
  rw [h.1]

theorem eb_unit_44_r {h x : Int32} {I I2 : px_I} {L L2 : px_L} (h : pb_unit h I L x I2 L2) : I2 44 = I 44 := by
  unfold pb_unit at h
  rw [h.1]

theorem eb_unit_57_r {h x : Int32} {I I2 : px_I} {L L2 : px_L} (h : pb_unit h I L x I2 L2) : I2 57 = I 57 := by
  unfold pb_unit at h
  rw [h.1]

theorem eb_unit_58_r {h x : Int32} {I I2 : px_I} {L L2 : px_L} (h : pb_unit h I L x I2 L2) : I2 58 = I 58 := by
  unfold pb_unit at h
  rw [h.1]

theorem ek_unit_111_r {h x : Int32} {I I2 : px_I} {L L2 : px_L} (h : pk_unit h I L x I2 L2) : I2 111 = I 111 := by
  unfold pk_unit at h
  rw [h.1]

theorem ek_unit_112_r {h x : Int32} {I I2 : px_I} {L L2 : px_L} (h : pk_unit h I L x I2 L2) : I2 112 = I 112 := by
  unfold pk_unit at h
  rw [h.1]

theorem eb_feed_43_r {a b c d e x : Int32} {I I2 : px_I} {L L2 : px_L} (h : pb_feed a b c d e I L x I2 L2) : I2 43 = I 43 := by
  unfold pb_feed at h
  obtain ⟨rfl, h⟩ := h
  rcases h with ⟨a1, rfl, rfl⟩ | ⟨a1, rfl, rfl⟩
  · rw [cApp_o _ _ (by omega) (by omega), cApp_o _ _ (by omega) (by omega), cApp_o _ _ (by omega) (by omega), cApp_o _ _ (by omega) (by omega), cApp_o _ _ (by omega) (by omega)]
  · rfl

theorem eb_feed_44_r {a b c d e x : Int32} {I I2 : px_I} {L L2 : px_L} (h : pb_feed a b c d e I L x I2 L2) : I2 44 = I 44 := by
  unfold pb_feed at h
  obtain ⟨rfl, h⟩ := h
  rcases h with ⟨a1, rfl, rfl⟩ | ⟨a1, rfl, rfl⟩
  · rw [cApp_o _ _ (by omega) (by omega), cApp_o _ _ (by omega) (by omega), cApp_o _ _ (by omega) (by omega), cApp_o _ _ (by omega) (by omega), cApp_o _ _ (by omega) (by omega)]
  · rfl

theorem eb_feed_57_r {a b c d e x : Int32} {I I2 : px_I} {L L2 : px_L} (h : pb_feed a b c d e I L x I2 L2) : I2 57 = I 57 := by
  unfold pb_feed at h
  obtain ⟨rfl, h⟩ := h
  rcases h with ⟨a1, rfl, rfl⟩ | ⟨a1, rfl, rfl⟩
  · rw [cApp_o _ _ (by omega) (by omega), cApp_o _ _ (by omega) (by omega), cApp_o _ _ (by omega) (by omega), cApp_o _ _ (by omega) (by omega), cApp_o _ _ (by omega) (by omega)]
  · rfl

theorem eb_feed_58_r {a b c d e x : Int32} {I I2 : px_I} {L L2 : px_L} (h : pb_feed a b c d e I L x I2 L2) : I2 58 = I 58 := by
  unfold pb_feed at h
  obtain ⟨rfl, h⟩ := h
  rcases h with ⟨a1, rfl, rfl⟩ | ⟨a1, rfl, rfl⟩
  · rw [cApp_o _ _ (by omega) (by omega), cApp_o _ _ (by omega) (by omega), cApp_o _ _ (by omega) (by omega), cApp_o _ _ (by omega) (by omega), cApp_o _ _ (by omega) (by omega)]
  · rfl

theorem ek_feed_111_r {a b c d e x : Int32} {I I2 : px_I} {L L2 : px_L} (h : pk_feed a b c d e I L x I2 L2) : I2 111 = I 111 := by
  unfold pk_feed at h
  obtain ⟨rfl, h⟩ := h
  rcases h with ⟨a1, rfl, rfl⟩ | ⟨a1, rfl, rfl⟩
  · funext j; rw [mPut_o (by omega) (by omega), mPut_o (by omega) (by omega), mPut_o (by omega) (by omega), mPut_o (by omega) (by omega), mPut_o (by omega) (by omega)]
  · rfl

theorem ek_feed_112_r {a b c d e x : Int32} {I I2 : px_I} {L L2 : px_L} (h : pk_feed a b c d e I L x I2 L2) : I2 112 = I 112 := by
  unfold pk_feed at h
  obtain ⟨rfl, h⟩ := h
  rcases h with ⟨a1, rfl, rfl⟩ | ⟨a1, rfl, rfl⟩
  · funext j; rw [mPut_o (by omega) (by omega), mPut_o (by omega) (by omega), mPut_o (by omega) (by omega), mPut_o (by omega) (by omega), mPut_o (by omega) (by omega)]
  · rfl

theorem eb_end_43_r {x9 x : Int32} {I I2 : px_I} {L L2 : px_L} (h : pb_end x9 I L x I2 L2) : I2 43 = I 43 := by
  unfold pb_end at h
  obtain ⟨rfl, h⟩ := h
  rcases h with ⟨a1, rfl, rfl⟩ | ⟨a1, rfl, rfl⟩
  · (repeat rw [px_u_ne (by omega)])
  · rfl

theorem eb_end_44_r {x9 x : Int32} {I I2 : px_I} {L L2 : px_L} (h : pb_end x9 I L x I2 L2) : I2 44 = I 44 := by
  unfold pb_end at h
  obtain ⟨rfl, h⟩ := h
  rcases h with ⟨a1, rfl, rfl⟩ | ⟨a1, rfl, rfl⟩
  · (repeat rw [px_u_ne (by omega)])
  · rfl

theorem eb_end_57_r {x9 x : Int32} {I I2 : px_I} {L L2 : px_L} (h : pb_end x9 I L x I2 L2) : I2 57 = I 57 := by
  unfold pb_end at h
  obtain ⟨rfl, h⟩ := h
  rcases h with ⟨a1, rfl, rfl⟩ | ⟨a1, rfl, rfl⟩
  · (repeat rw [px_u_ne (by omega)])
  · rfl

theorem eb_end_58_r {x9 x : Int32} {I I2 : px_I} {L L2 : px_L} (h : pb_end x9 I L x I2 L2) : I2 58 = I 58 := by
  unfold pb_end at h
  obtain ⟨rfl, h⟩ := h
  rcases h with ⟨a1, rfl, rfl⟩ | ⟨a1, rfl, rfl⟩
  · (repeat rw [px_u_ne (by omega)])
  · rfl

theorem ek_end_111_r {x9 x : Int32} {I I2 : px_I} {L L2 : px_L} (h : pk_end x9 I L x I2 L2) : I2 111 = I 111 := by
  unfold pk_end at h
  obtain ⟨rfl, h⟩ := h
  rcases h with ⟨a1, a2, rfl, rfl⟩ | ⟨a1, rfl, rfl⟩
  · (repeat rw [px_u_ne (by omega)])
  · rfl

theorem ek_end_112_r {x9 x : Int32} {I I2 : px_I} {L L2 : px_L} (h : pk_end x9 I L x I2 L2) : I2 112 = I 112 := by
  unfold pk_end at h
  obtain ⟨rfl, h⟩ := h
  rcases h with ⟨a1, a2, rfl, rfl⟩ | ⟨a1, rfl, rfl⟩
  · (repeat rw [px_u_ne (by omega)])
  · rfl

theorem eb_way_43_r {i x : Int32} {I I2 : px_I} {L L2 : px_L} (h : pb_way i I L x I2 L2) : I2 43 = I 43 := by
  unfold pb_way at h
  exact funext fun j => h.1 43 j (by omega) (by omega) (by omega) (by omega) (by omega)

theorem eb_way_44_r {i x : Int32} {I I2 : px_I} {L L2 : px_L} (h : pb_way i I L x I2 L2) : I2 44 = I 44 := by
  unfold pb_way at h
  exact funext fun j => h.1 44 j (by omega) (by omega) (by omega) (by omega) (by omega)

theorem eb_way_57_r {i x : Int32} {I I2 : px_I} {L L2 : px_L} (h : pb_way i I L x I2 L2) : I2 57 = I 57 := by
  unfold pb_way at h
  exact funext fun j => h.1 57 j (by omega) (by omega) (by omega) (by omega) (by omega)

theorem eb_way_58_r {i x : Int32} {I I2 : px_I} {L L2 : px_L} (h : pb_way i I L x I2 L2) : I2 58 = I 58 := by
  unfold pb_way at h
  exact funext fun j => h.1 58 j (by omega) (by omega) (by omega) (by omega) (by omega)

theorem ek_way_111_r {w x : Int32} {I I2 : px_I} {L L2 : px_L} (h : pk_way w I L x I2 L2) : I2 111 = I 111 := by
  unfold pk_way at h
  obtain ⟨rfl, h⟩ := h
  rcases h with ⟨a1, a2, rfl⟩ | ⟨a1, a2, a3⟩
  · rfl
  · exact funext fun j => a2 111 j (by omega) (by omega)

theorem ek_way_112_r {w x : Int32} {I I2 : px_I} {L L2 : px_L} (h : pk_way w I L x I2 L2) : I2 112 = I 112 := by
  unfold pk_way at h
  obtain ⟨rfl, h⟩ := h
  rcases h with ⟨a1, a2, rfl⟩ | ⟨a1, a2, a3⟩
  · rfl
  · exact funext fun j => a2 112 j (by omega) (by omega)

theorem eb_fault_43_r {x9 x : Int32} {I I2 : px_I} {L L2 : px_L} (h : pb_fault x9 I L x I2 L2) : I2 43 = I 43 := by
  unfold pb_fault at h
  rw [h.1]

theorem eb_fault_44_r {x9 x : Int32} {I I2 : px_I} {L L2 : px_L} (h : pb_fault x9 I L x I2 L2) : I2 44 = I 44 := by
  unfold pb_fault at h
  rw [h.1]

theorem eb_fault_57_r {x9 x : Int32} {I I2 : px_I} {L L2 : px_L} (h : pb_fault x9 I L x I2 L2) : I2 57 = I 57 := by
  unfold pb_fault at h
  rw [h.1]

theorem eb_fault_58_r {x9 x : Int32} {I I2 : px_I} {L L2 : px_L} (h : pb_fault x9 I L x I2 L2) : I2 58 = I 58 := by
  unfold pb_fault at h
  rw [h.1]

theorem ek_fault_111_r {x9 x : Int32} {I I2 : px_I} {L L2 : px_L} (h : pk_fault x9 I L x I2 L2) : I2 111 = I 111 := by
  unfold pk_fault at h
  rw [h.1]

theorem ek_fault_112_r {x9 x : Int32} {I I2 : px_I} {L L2 : px_L} (h : pk_fault x9 I L x I2 L2) : I2 112 = I 112 := by
  unfold pk_fault at h
  rw [h.1]

theorem eb_tools_43_r {a b c d e x : Int32} {I I2 : px_I} {L L2 : px_L} (h : pb_tools a b c d e I L x I2 L2) : I2 43 = I 43 := by
  unfold pb_tools at h
  obtain ⟨rfl, h⟩ := h
  rcases h with ⟨a1, rfl, a2⟩ | ⟨a1, rfl, rfl⟩
  · rw [a2 43 (by decide)]; (repeat rw [px_u_ne (by omega)])
  · rfl

theorem eb_tools_44_r {a b c d e x : Int32} {I I2 : px_I} {L L2 : px_L} (h : pb_tools a b c d e I L x I2 L2) : I2 44 = I 44 := by
  unfold pb_tools at h
  obtain ⟨rfl, h⟩ := h
  rcases h with ⟨a1, rfl, a2⟩ | ⟨a1, rfl, rfl⟩
  · rw [a2 44 (by decide)]; (repeat rw [px_u_ne (by omega)])
  · rfl

theorem eb_tools_57_r {a b c d e x : Int32} {I I2 : px_I} {L L2 : px_L} (h : pb_tools a b c d e I L x I2 L2) : I2 57 = I 57 := by
  unfold pb_tools at h
  obtain ⟨rfl, h⟩ := h
  rcases h with ⟨a1, rfl, a2⟩ | ⟨a1, rfl, rfl⟩
  · rw [a2 57 (by decide)]; (repeat rw [px_u_ne (by omega)])
  · rfl

theorem eb_tools_58_r {a b c d e x : Int32} {I I2 : px_I} {L L2 : px_L} (h : pb_tools a b c d e I L x I2 L2) : I2 58 = I 58 := by
  unfold pb_tools at h
  obtain ⟨rfl, h⟩ := h
  rcases h with ⟨a1, rfl, a2⟩ | ⟨a1, rfl, rfl⟩
  · rw [a2 58 (by decide)]; (repeat rw [px_u_ne (by omega)])
  · rfl

theorem ek_tools_111_r {a b c d e x : Int32} {I I2 : px_I} {L L2 : px_L} (h : pk_tools a b c d e I L x I2 L2) : I2 111 = I 111 := by
  unfold pk_tools at h
  obtain ⟨rfl, h⟩ := h
  rcases h with ⟨a1, rfl, rfl⟩ | ⟨a1, rfl, rfl⟩
  · (repeat rw [px_u_ne (by omega)])
  · rfl

theorem ek_tools_112_r {a b c d e x : Int32} {I I2 : px_I} {L L2 : px_L} (h : pk_tools a b c d e I L x I2 L2) : I2 112 = I 112 := by
  unfold pk_tools at h
  obtain ⟨rfl, h⟩ := h
  rcases h with ⟨a1, rfl, rfl⟩ | ⟨a1, rfl, rfl⟩
  · (repeat rw [px_u_ne (by omega)])
  · rfl

theorem eb_run_43_r {w h a x : Int32} {I I2 : px_I} {L L2 : px_L} (h : pb_run w h a I L x I2 L2) : I2 43 = I 43 := by
  unfold pb_run at h
  exact funext fun j => h.1 43 j (by omega) (by omega) (by omega) (by omega) (by omega) (by omega) (by omega)

theorem eb_run_44_r {w h a x : Int32} {I I2 : px_I} {L L2 : px_L} (h : pb_run w h a I L x I2 L2) : I2 44 = I 44 := by
  unfold pb_run at h
  exact funext fun j => h.1 44 j (by omega) (by omega) (by omega) (by omega) (by omega) (by omega) (by omega)

theorem eb_run_57_r {w h a x : Int32} {I I2 : px_I} {L L2 : px_L} (h : pb_run w h a I L x I2 L2) : I2 57 = I 57 := by
  unfold pb_run at h
  exact funext fun j => h.1 57 j (by omega) (by omega) (by omega) (by omega) (by omega) (by omega) (by omega)

theorem eb_run_58_r {w h a x : Int32} {I I2 : px_I} {L L2 : px_L} (h : pb_run w h a I L x I2 L2) : I2 58 = I 58 := by
  unfold pb_run at h
  exact funext fun j => h.1 58 j (by omega) (by omega) (by omega) (by omega) (by omega) (by omega) (by omega)

theorem ek_run_111_r {w h a x : Int32} {I I2 : px_I} {L L2 : px_L} (h : pk_run w h a I L x I2 L2) : I2 111 = I 111 := by
  unfold pk_run at h
  exact funext fun j => h.1 111 j (by omega) (by omega) (by omega)

theorem ek_run_112_r {w h a x : Int32} {I I2 : px_I} {L L2 : px_L} (h : pk_run w h a I L x I2 L2) : I2 112 = I 112 := by
  unfold pk_run at h
  exact funext fun j => h.1 112 j (by omega) (by omega) (by omega)

theorem eb_meeting_43_r {a f b t x9 h x : Int32} {I I2 : px_I} {L L2 : px_L} (h : pb_meeting a f b t x9 h I L x I2 L2) : I2 43 = I 43 := by
  unfold pb_meeting at h
  exact funext fun j => h.1 43 j (by omega) (by omega) (by omega) (by omega) (by omega) (by omega) (by omega)

theorem eb_meeting_44_r {a f b t x9 h x : Int32} {I I2 : px_I} {L L2 : px_L} (h : pb_meeting a f b t x9 h I L x I2 L2) : I2 44 = I 44 := by
  unfold pb_meeting at h
  exact funext fun j => h.1 44 j (by omega) (by omega) (by omega) (by omega) (by omega) (by omega) (by omega)

theorem eb_meeting_57_r {a f b t x9 h x : Int32} {I I2 : px_I} {L L2 : px_L} (h : pb_meeting a f b t x9 h I L x I2 L2) : I2 57 = I 57 := by
  unfold pb_meeting at h
  exact funext fun j => h.1 57 j (by omega) (by omega) (by omega) (by omega) (by omega) (by omega) (by omega)

theorem eb_meeting_58_r {a f b t x9 h x : Int32} {I I2 : px_I} {L L2 : px_L} (h : pb_meeting a f b t x9 h I L x I2 L2) : I2 58 = I 58 := by
  unfold pb_meeting at h
  exact funext fun j => h.1 58 j (by omega) (by omega) (by omega) (by omega) (by omega) (by omega) (by omega)

theorem ek_meeting_111_r {a f b t x9 h x : Int32} {I I2 : px_I} {L L2 : px_L} (h : pk_meeting a f b t x9 h I L x I2 L2) : I2 111 = I 111 := by
  unfold pk_meeting at h
  exact funext fun j => h.1 111 j (by omega) (by omega) (by omega)

theorem ek_meeting_112_r {a f b t x9 h x : Int32} {I I2 : px_I} {L L2 : px_L} (h : pk_meeting a f b t x9 h I L x I2 L2) : I2 112 = I 112 := by
  unfold pk_meeting at h
  exact funext fun j => h.1 112 j (by omega) (by omega) (by omega)

theorem eb_there_43_r {a lo hi x : Int32} {I I2 : px_I} {L L2 : px_L} (h : pb_there a lo hi I L x I2 L2) : I2 43 = I 43 := by
  unfold pb_there at h
  obtain ⟨rfl, h⟩ := h
  rcases h with ⟨a1, rfl, rfl⟩ | ⟨a1, rfl, rfl⟩
  · (repeat rw [px_u_ne (by omega)])
  · rfl

theorem eb_there_44_r {a lo hi x : Int32} {I I2 : px_I} {L L2 : px_L} (h : pb_there a lo hi I L x I2 L2) : I2 44 = I 44 := by
  unfold pb_there at h
  obtain ⟨rfl, h⟩ := h
  rcases h with ⟨a1, rfl, rfl⟩ | ⟨a1, rfl, rfl⟩
  · (repeat rw [px_u_ne (by omega)])
  · rfl

theorem eb_there_57_r {a lo hi x : Int32} {I I2 : px_I} {L L2 : px_L} (h : pb_there a lo hi I L x I2 L2) : I2 57 = I 57 := by
  unfold pb_there at h
  obtain ⟨rfl, h⟩ := h
  rcases h with ⟨a1, rfl, rfl⟩ | ⟨a1, rfl, rfl⟩
  · (repeat rw [px_u_ne (by omega)])
  · rfl

theorem eb_there_58_r {a lo hi x : Int32} {I I2 : px_I} {L L2 : px_L} (h : pb_there a lo hi I L x I2 L2) : I2 58 = I 58 := by
  unfold pb_there at h
  obtain ⟨rfl, h⟩ := h
  rcases h with ⟨a1, rfl, rfl⟩ | ⟨a1, rfl, rfl⟩
  · (repeat rw [px_u_ne (by omega)])
  · rfl

theorem ek_there_111_r {a lo hi x : Int32} {I I2 : px_I} {L L2 : px_L} (h : pk_there a lo hi I L x I2 L2) : I2 111 = I 111 := by
  unfold pk_there at h
  obtain ⟨rfl, h⟩ := h
  rcases h with ⟨a1, rfl, rfl⟩ | ⟨a1, rfl, rfl⟩
  · (repeat rw [px_u_ne (by omega)])
  · rfl

theorem ek_there_112_r {a lo hi x : Int32} {I I2 : px_I} {L L2 : px_L} (h : pk_there a lo hi I L x I2 L2) : I2 112 = I 112 := by
  unfold pk_there at h
  obtain ⟨rfl, h⟩ := h
  rcases h with ⟨a1, rfl, rfl⟩ | ⟨a1, rfl, rfl⟩
  · (repeat rw [px_u_ne (by omega)])
  · rfl

theorem eb_fits_43_r {a f b t x : Int32} {I I2 : px_I} {L L2 : px_L} (h : pb_fits a f b t I L x I2 L2) : I2 43 = I 43 := by
  unfold pb_fits at h
  exact funext fun j => h.1 43 j (by omega) (by omega) (by omega) (by omega) (by omega) (by omega) (by omega)

theorem eb_fits_44_r {a f b t x : Int32} {I I2 : px_I} {L L2 : px_L} (h : pb_fits a f b t I L x I2 L2) : I2 44 = I 44 := by
  unfold pb_fits at h
  exact funext fun j => h.1 44 j (by omega) (by omega) (by omega) (by omega) (by omega) (by omega) (by omega)

theorem eb_fits_57_r {a f b t x : Int32} {I I2 : px_I} {L L2 : px_L} (h : pb_fits a f b t I L x I2 L2) : I2 57 = I 57 := by
  unfold pb_fits at h
  exact funext fun j => h.1 57 j (by omega) (by omega) (by omega) (by omega) (by omega) (by omega) (by omega)

theorem eb_fits_58_r {a f b t x : Int32} {I I2 : px_I} {L L2 : px_L} (h : pb_fits a f b t I L x I2 L2) : I2 58 = I 58 := by
  unfold pb_fits at h
  exact funext fun j => h.1 58 j (by omega) (by omega) (by omega) (by omega) (by omega) (by omega) (by omega)

theorem ek_fits_111_r {a f b t x : Int32} {I I2 : px_I} {L L2 : px_L} (h : pk_fits a f b t I L x I2 L2) : I2 111 = I 111 := by
  unfold pk_fits at h
  exact funext fun j => h.1 111 j (by omega) (by omega) (by omega)

theorem ek_fits_112_r {a f b t x : Int32} {I I2 : px_I} {L L2 : px_L} (h : pk_fits a f b t I L x I2 L2) : I2 112 = I 112 := by
  unfold pk_fits at h
  exact funext fun j => h.1 112 j (by omega) (by omega) (by omega)

theorem eb_ways_43_r {a f b t x9 x : Int32} {I I2 : px_I} {L L2 : px_L} (h : pb_ways a f b t x9 I L x I2 L2) : I2 43 = I 43 := by
  unfold pb_ways at h
  exact funext fun j => h.1 43 j (by omega) (by omega) (by omega) (by omega) (by omega) (by omega) (by omega)

theorem eb_ways_44_r {a f b t x9 x : Int32} {I I2 : px_I} {L L2 : px_L} (h : pb_ways a f b t x9 I L x I2 L2) : I2 44 = I 44 := by
  unfold pb_ways at h
  exact funext fun j => h.1 44 j (by omega) (by omega) (by omega) (by omega) (by omega) (by omega) (by omega)

theorem eb_ways_57_r {a f b t x9 x : Int32} {I I2 : px_I} {L L2 : px_L} (h : pb_ways a f b t x9 I L x I2 L2) : I2 57 = I 57 := by
  unfold pb_ways at h
  exact funext fun j => h.1 57 j (by omega) (by omega) (by omega) (by omega) (by omega) (by omega) (by omega)

theorem eb_ways_58_r {a f b t x9 x : Int32} {I I2 : px_I} {L L2 : px_L} (h : pb_ways a f b t x9 I L x I2 L2) : I2 58 = I 58 := by
  unfold pb_ways at h
  exact funext fun j => h.1 58 j (by omega) (by omega) (by omega) (by omega) (by omega) (by omega) (by omega)

theorem ek_ways_111_r {a f b t x9 x : Int32} {I I2 : px_I} {L L2 : px_L} (h : pk_ways a f b t x9 I L x I2 L2) : I2 111 = I 111 := by
  unfold pk_ways at h
  exact funext fun j => h.1 111 j (by omega) (by omega) (by omega)

theorem ek_ways_112_r {a f b t x9 x : Int32} {I I2 : px_I} {L L2 : px_L} (h : pk_ways a f b t x9 I L x I2 L2) : I2 112 = I 112 := by
  unfold pk_ways at h
  exact funext fun j => h.1 112 j (by omega) (by omega) (by omega)

theorem eb_seek_43_r {a b c d e f x : Int32} {I I2 : px_I} {L L2 : px_L} (h : pb_seek a b c d e f I L x I2 L2) : I2 43 = I 43 := by
  unfold pb_seek at h
  obtain ⟨rfl, h⟩ := h
  rcases h with ⟨a1, rfl, rfl⟩ | ⟨a1, rfl, rfl⟩
  · (repeat rw [px_u_ne (by omega)])
  · rfl

theorem eb_seek_44_r {a b c d e f x : Int32} {I I2 : px_I} {L L2 : px_L} (h : pb_seek a b c d e f I L x I2 L2) : I2 44 = I 44 := by
  unfold pb_seek at h
  obtain ⟨rfl, h⟩ := h
  rcases h with ⟨a1, rfl, rfl⟩ | ⟨a1, rfl, rfl⟩
  · (repeat rw [px_u_ne (by omega)])
  · rfl

theorem eb_seek_57_r {a b c d e f x : Int32} {I I2 : px_I} {L L2 : px_L} (h : pb_seek a b c d e f I L x I2 L2) : I2 57 = I 57 := by
  unfold pb_seek at h
  obtain ⟨rfl, h⟩ := h
  rcases h with ⟨a1, rfl, rfl⟩ | ⟨a1, rfl, rfl⟩
  · (repeat rw [px_u_ne (by omega)])
  · rfl

theorem eb_seek_58_r {a b c d e f x : Int32} {I I2 : px_I} {L L2 : px_L} (h : pb_seek a b c d e f I L x I2 L2) : I2 58 = I 58 := by
  unfold pb_seek at h
  obtain ⟨rfl, h⟩ := h
  rcases h with ⟨a1, rfl, rfl⟩ | ⟨a1, rfl, rfl⟩
  · (repeat rw [px_u_ne (by omega)])
  · rfl

theorem ek_seek_111_r {a b c d e f x : Int32} {I I2 : px_I} {L L2 : px_L} (h : pk_seek a b c d e f I L x I2 L2) : I2 111 = I 111 := by
  unfold pk_seek at h
  obtain ⟨rfl, h⟩ := h
  rcases h with ⟨a1, rfl, rfl⟩ | ⟨a1, rfl, rfl⟩
  · (repeat rw [px_u_ne (by omega)])
  · rfl

theorem ek_seek_112_r {a b c d e f x : Int32} {I I2 : px_I} {L L2 : px_L} (h : pk_seek a b c d e f I L x I2 L2) : I2 112 = I 112 := by
  unfold pk_seek at h
  obtain ⟨rfl, h⟩ := h
  rcases h with ⟨a1, rfl, rfl⟩ | ⟨a1, rfl, rfl⟩
  · (repeat rw [px_u_ne (by omega)])
  · rfl

theorem eb_detour_43_r {a o h x : Int32} {I I2 : px_I} {L L2 : px_L} (h : pb_detour a o h I L x I2 L2) : I2 43 = I 43 := by
  unfold pb_detour at h
  rw [h.1]

theorem eb_detour_44_r {a o h x : Int32} {I I2 : px_I} {L L2 : px_L} (h : pb_detour a o h I L x I2 L2) : I2 44 = I 44 := by
  unfold pb_detour at h
  rw [h.1]

theorem eb_detour_57_r {a o h x : Int32} {I I2 : px_I} {L L2 : px_L} (h : pb_detour a o h I L x I2 L2) : I2 57 = I 57 := by
  unfold pb_detour at h
  rw [h.1]

theorem eb_detour_58_r {a o h x : Int32} {I I2 : px_I} {L L2 : px_L} (h : pb_detour a o h I L x I2 L2) : I2 58 = I 58 := by
  unfold pb_detour at h
  rw [h.1]

theorem ek_detour_111_r {a o lo x : Int32} {I I2 : px_I} {L L2 : px_L} (h : pk_detour a o lo I L x I2 L2) : I2 111 = I 111 := by
  unfold pk_detour at h
  rw [h.1]

theorem ek_detour_112_r {a o lo x : Int32} {I I2 : px_I} {L L2 : px_L} (h : pk_detour a o lo I L x I2 L2) : I2 112 = I 112 := by
  unfold pk_detour at h
  rw [h.1]

theorem eb_table_43_r {c v x : Int32} {I I2 : px_I} {L L2 : px_L} (h : pb_table c v I L x I2 L2) : I2 43 = I 43 := by
  unfold pb_table at h
  obtain ⟨rfl, h⟩ := h
  rcases h with ⟨a1, rfl, rfl⟩ | ⟨a1, rfl, rfl⟩
  · (repeat rw [px_u_ne (by omega)])
  · rfl

theorem eb_table_44_r {c v x : Int32} {I I2 : px_I} {L L2 : px_L} (h : pb_table c v I L x I2 L2) : I2 44 = I 44 := by
  unfold pb_table at h
  obtain ⟨rfl, h⟩ := h
  rcases h with ⟨a1, rfl, rfl⟩ | ⟨a1, rfl, rfl⟩
  · (repeat rw [px_u_ne (by omega)])
  · rfl

theorem eb_table_57_r {c v x : Int32} {I I2 : px_I} {L L2 : px_L} (h : pb_table c v I L x I2 L2) : I2 57 = I 57 := by
  unfold pb_table at h
  obtain ⟨rfl, h⟩ := h
  rcases h with ⟨a1, rfl, rfl⟩ | ⟨a1, rfl, rfl⟩
  · (repeat rw [px_u_ne (by omega)])
  · rfl

theorem eb_table_58_r {c v x : Int32} {I I2 : px_I} {L L2 : px_L} (h : pb_table c v I L x I2 L2) : I2 58 = I 58 := by
  unfold pb_table at h
  obtain ⟨rfl, h⟩ := h
  rcases h with ⟨a1, rfl, rfl⟩ | ⟨a1, rfl, rfl⟩
  · (repeat rw [px_u_ne (by omega)])
  · rfl

theorem ek_table_111_r {c v x : Int32} {I I2 : px_I} {L L2 : px_L} (h : pk_table c v I L x I2 L2) : I2 111 = I 111 := by
  unfold pk_table at h
  obtain ⟨rfl, h⟩ := h
  rcases h with ⟨a1, rfl, rfl⟩ | ⟨a1, rfl, rfl⟩
  · (repeat rw [px_u_ne (by omega)])
  · rfl

theorem ek_table_112_r {c v x : Int32} {I I2 : px_I} {L L2 : px_L} (h : pk_table c v I L x I2 L2) : I2 112 = I 112 := by
  unfold pk_table at h
  obtain ⟨rfl, h⟩ := h
  rcases h with ⟨a1, rfl, rfl⟩ | ⟨a1, rfl, rfl⟩
  · (repeat rw [px_u_ne (by omega)])
  · rfl

theorem eb_repair_43_r {g p y x : Int32} {I I2 : px_I} {L L2 : px_L} (h : pb_repair g p y I L x I2 L2) : I2 43 = I 43 := by
  unfold pb_repair at h
  obtain ⟨rfl, h⟩ := h
  rcases h with ⟨G, g1, rfl, rfl⟩ | ⟨a1, rfl, rfl⟩
  · have g2 := g1.1
    have gG : G = 41 ∨ G = 55 := by unfold bG at g2; omega
    unfold cRep; (repeat rw [px_u_ne (by omega)])
  · rfl

theorem eb_repair_44_r {g p y x : Int32} {I I2 : px_I} {L L2 : px_L} (h : pb_repair g p y I L x I2 L2) : I2 44 = I 44 := by
  unfold pb_repair at h
  obtain ⟨rfl, h⟩ := h
  rcases h with ⟨G, g1, rfl, rfl⟩ | ⟨a1, rfl, rfl⟩
  · have g2 := g1.1
    have gG : G = 41 ∨ G = 55 := by unfold bG at g2; omega
    unfold cRep; (repeat rw [px_u_ne (by omega)])
  · rfl

theorem eb_repair_57_r {g p y x : Int32} {I I2 : px_I} {L L2 : px_L} (h : pb_repair g p y I L x I2 L2) : I2 57 = I 57 := by
  unfold pb_repair at h
  obtain ⟨rfl, h⟩ := h
  rcases h with ⟨G, g1, rfl, rfl⟩ | ⟨a1, rfl, rfl⟩
  · have g2 := g1.1
    have gG : G = 41 ∨ G = 55 := by unfold bG at g2; omega
    unfold cRep; (repeat rw [px_u_ne (by omega)])
  · rfl

theorem eb_repair_58_r {g p y x : Int32} {I I2 : px_I} {L L2 : px_L} (h : pb_repair g p y I L x I2 L2) : I2 58 = I 58 := by
  unfold pb_repair at h
  obtain ⟨rfl, h⟩ := h
  rcases h with ⟨G, g1, rfl, rfl⟩ | ⟨a1, rfl, rfl⟩
  · have g2 := g1.1
    have gG : G = 41 ∨ G = 55 := by unfold bG at g2; omega
    unfold cRep; (repeat rw [px_u_ne (by omega)])
  · rfl

theorem ek_repair_111_r {g p y x : Int32} {I I2 : px_I} {L L2 : px_L} (h : pk_repair g p y I L x I2 L2) : I2 111 = I 111 := by
  unfold pk_repair at h
  obtain ⟨rfl, h⟩ := h
  rcases h with ⟨a1, rfl, rfl⟩ | ⟨a1, rfl, rfl⟩
  · (repeat rw [px_u_ne (by omega)])
  · rfl

theorem ek_repair_112_r {g p y x : Int32} {I I2 : px_I} {L L2 : px_L} (h : pk_repair g p y I L x I2 L2) : I2 112 = I 112 := by
  unfold pk_repair at h
  obtain ⟨rfl, h⟩ := h
  rcases h with ⟨a1, rfl, rfl⟩ | ⟨a1, rfl, rfl⟩
  · (repeat rw [px_u_ne (by omega)])
  · rfl

theorem eb_lime_43_r {v x : Int32} {I I2 : px_I} {L L2 : px_L} (h : pb_lime v I L x I2 L2) : I2 43 = I 43 := by
  unfold pb_lime at h
  obtain ⟨rfl, h⟩ := h
  rcases h with ⟨a1, rfl, rfl⟩ | ⟨a1, rfl, rfl⟩
  · (repeat rw [px_u_ne (by omega)])
  · rfl

theorem eb_lime_44_r {v x : Int32} {I I2 : px_I} {L L2 : px_L} (h : pb_lime v I L x I2 L2) : I2 44 = I 44 := by
  unfold pb_lime at h
  obtain ⟨rfl, h⟩ := h
  rcases h with ⟨a1, rfl, rfl⟩ | ⟨a1, rfl, rfl⟩
  · (repeat rw [px_u_ne (by omega)])
  · rfl

theorem eb_lime_57_r {v x : Int32} {I I2 : px_I} {L L2 : px_L} (h : pb_lime v I L x I2 L2) : I2 57 = I 57 := by
  unfold pb_lime at h
  obtain ⟨rfl, h⟩ := h
  rcases h with ⟨a1, rfl, rfl⟩ | ⟨a1, rfl, rfl⟩
  · (repeat rw [px_u_ne (by omega)])
  · rfl

theorem eb_lime_58_r {v x : Int32} {I I2 : px_I} {L L2 : px_L} (h : pb_lime v I L x I2 L2) : I2 58 = I 58 := by
  unfold pb_lime at h
  obtain ⟨rfl, h⟩ := h
  rcases h with ⟨a1, rfl, rfl⟩ | ⟨a1, rfl, rfl⟩
  · (repeat rw [px_u_ne (by omega)])
  · rfl

theorem ek_lime_111_r {v x : Int32} {I I2 : px_I} {L L2 : px_L} (h : pk_lime v I L x I2 L2) : I2 111 = I 111 := by
  unfold pk_lime at h
  obtain ⟨rfl, h⟩ := h
  rcases h with ⟨a1, a2, rfl, rfl⟩ | ⟨a1, rfl, rfl⟩
  · (repeat rw [px_u_ne (by omega)])
  · rfl

theorem ek_lime_112_r {v x : Int32} {I I2 : px_I} {L L2 : px_L} (h : pk_lime v I L x I2 L2) : I2 112 = I 112 := by
  unfold pk_lime at h
  obtain ⟨rfl, h⟩ := h
  rcases h with ⟨a1, a2, rfl, rfl⟩ | ⟨a1, rfl, rfl⟩
  · (repeat rw [px_u_ne (by omega)])
  · rfl

theorem eb_flow_43_r {g y k h x : Int32} {I I2 : px_I} {L L2 : px_L} (h : pb_flow g y k h I L x I2 L2) : I2 43 = I 43 := by
  unfold pb_flow at h
  exact funext fun j => h.1 43 j (by omega)

theorem eb_flow_44_r {g y k h x : Int32} {I I2 : px_I} {L L2 : px_L} (h : pb_flow g y k h I L x I2 L2) : I2 44 = I 44 := by
  unfold pb_flow at h
  exact funext fun j => h.1 44 j (by omega)

theorem eb_flow_57_r {g y k h x : Int32} {I I2 : px_I} {L L2 : px_L} (h : pb_flow g y k h I L x I2 L2) : I2 57 = I 57 := by
  unfold pb_flow at h
  exact funext fun j => h.1 57 j (by omega)

theorem eb_flow_58_r {g y k h x : Int32} {I I2 : px_I} {L L2 : px_L} (h : pb_flow g y k h I L x I2 L2) : I2 58 = I 58 := by
  unfold pb_flow at h
  exact funext fun j => h.1 58 j (by omega)

theorem ek_flow_111_r {g y k h x : Int32} {I I2 : px_I} {L L2 : px_L} (h : pk_flow g y k h I L x I2 L2) : I2 111 = I 111 := by
  unfold pk_flow at h
  exact funext fun j => h.1 111 j (by omega)

theorem ek_flow_112_r {g y k h x : Int32} {I I2 : px_I} {L L2 : px_L} (h : pk_flow g y k h I L x I2 L2) : I2 112 = I 112 := by
  unfold pk_flow at h
  exact funext fun j => h.1 112 j (by omega)

theorem eb_narrow_43_r {g y k x : Int32} {I I2 : px_I} {L L2 : px_L} (h : pb_narrow g y k I L x I2 L2) : I2 43 = I 43 := by
  unfold pb_narrow at h
  exact funext fun j => h.1 43 j (by omega)

theorem eb_narrow_44_r {g y k x : Int32} {I I2 : px_I} {L L2 : px_L} (h : pb_narrow g y k I L x I2 L2) : I2 44 = I 44 := by
  unfold pb_narrow at h
  exact funext fun j => h.1 44 j (by omega)

theorem eb_narrow_57_r {g y k x : Int32} {I I2 : px_I} {L L2 : px_L} (h : pb_narrow g y k I L x I2 L2) : I2 57 = I 57 := by
  unfold pb_narrow at h
  exact funext fun j => h.1 57 j (by omega)

theorem eb_narrow_58_r {g y k x : Int32} {I I2 : px_I} {L L2 : px_L} (h : pb_narrow g y k I L x I2 L2) : I2 58 = I 58 := by
  unfold pb_narrow at h
  exact funext fun j => h.1 58 j (by omega)

theorem ek_narrow_111_r {g y k x : Int32} {I I2 : px_I} {L L2 : px_L} (h : pk_narrow g y k I L x I2 L2) : I2 111 = I 111 := by
  unfold pk_narrow at h
  exact funext fun j => h.1 111 j (by omega)

theorem ek_narrow_112_r {g y k x : Int32} {I I2 : px_I} {L L2 : px_L} (h : pk_narrow g y k I L x I2 L2) : I2 112 = I 112 := by
  unfold pk_narrow at h
  exact funext fun j => h.1 112 j (by omega)

theorem eb_about_43_r {w x : Int32} {I I2 : px_I} {L L2 : px_L} (h : pb_about w I L x I2 L2) : I2 43 = I 43 := by
  unfold pb_about at h
  rw [h.1]

theorem eb_about_44_r {w x : Int32} {I I2 : px_I} {L L2 : px_L} (h : pb_about w I L x I2 L2) : I2 44 = I 44 := by
  unfold pb_about at h
  rw [h.1]

theorem eb_about_57_r {w x : Int32} {I I2 : px_I} {L L2 : px_L} (h : pb_about w I L x I2 L2) : I2 57 = I 57 := by
  unfold pb_about at h
  rw [h.1]

theorem eb_about_58_r {w x : Int32} {I I2 : px_I} {L L2 : px_L} (h : pb_about w I L x I2 L2) : I2 58 = I 58 := by
  unfold pb_about at h
  rw [h.1]

theorem ek_about_111_r {w x : Int32} {I I2 : px_I} {L L2 : px_L} (h : pk_about w I L x I2 L2) : I2 111 = I 111 := by
  unfold pk_about at h
  rw [h.1]

theorem ek_about_112_r {w x : Int32} {I I2 : px_I} {L L2 : px_L} (h : pk_about w I L x I2 L2) : I2 112 = I 112 := by
  unfold pk_about at h
  rw [h.1]

def rel (I : px_I) (L : px_L) : Prop := (I 33 7 = I 103 1) ∧ (I 41 13 = I 110 0) ∧ (I 55 13 = I 110 1) ∧ (lnOk (I 43) (I 44) (I 111) (I 112) 0 (I 41 13) ∧ lnOk (I 57) (I 58) (I 111) (I 112) 20 (I 55 13))

theorem rel.days {v0 : Int32} {x y : Int32} {n : Nat} {I I2 I3 : px_I} {L L2 L3 : px_L} {R : px_R} (hj : jJ n I R) (hr : rel I L) (f1 : frB I I2 L L2) (p1 : pb_days v0 I L x I2 L2) (f2 : frK I2 I3 L2 L3) (p2 : pk_days v0 I2 L2 y I3 L3) : rel I3 L3 := by
  have f_33_7 : I3 33 7 = I 33 7 := by rw [f2.1 33 (by omega), eb_days_33_7 p1]
  have f_103_1 : I3 103 1 = I 103 1 := by rw [ek_days_103_1 p2, f1.1 103 (by omega) (by omega)]
  have f_41_13 : I3 41 13 = I 41 13 := by rw [f2.1 41 (by omega), eb_days_41_13 p1]
  have f_110_0 : I3 110 0 = I 110 0 := by rw [ek_days_110_0 p2, f1.1 110 (by omega) (by omega)]
  have f_55_13 : I3 55 13 = I 55 13 := by rw [f2.1 55 (by omega), eb_days_55_13 p1]
  have f_110_1 : I3 110 1 = I 110 1 := by rw [ek_days_110_1 p2, f1.1 110 (by omega) (by omega)]
  have f_43_r : I3 43 = I 43 := by rw [f2.1 43 (by omega), eb_days_43_r p1]
  have f_44_r : I3 44 = I 44 := by rw [f2.1 44 (by omega), eb_days_44_r p1]
  have f_57_r : I3 57 = I 57 := by rw [f2.1 57 (by omega), eb_days_57_r p1]
  have f_58_r : I3 58 = I 58 := by rw [f2.1 58 (by omega), eb_days_58_r p1]
  have f_111_r : I3 111 = I 111 := by rw [ek_days_111_r p2, f1.1 111 (by omega) (by omega)]
  have f_112_r : I3 112 = I 112 := by rw [ek_days_112_r p2, f1.1 112 (by omega) (by omega)]
  exact ⟨(by rw [f_33_7, f_103_1]; exact hr.1), (by rw [f_41_13, f_110_0]; exact hr.2.1), (by rw [f_55_13, f_110_1]; exact hr.2.2.1), (by rw [f_41_13, f_55_13, f_43_r, f_44_r, f_57_r, f_58_r, f_111_r, f_112_r]; exact hr.2.2.2)⟩

theorem relq_station {x y : Int32} {n : Nat} {I I2 I3 : px_I} {L L2 L3 : px_L} {R : px_R} (hj : jJ n I R) (hr : rel I L) (f1 : frB I I2 L L2) (p1 : pb_station  I L x I2 L2) (f2 : frK I2 I3 L2 L3) (p2 : pk_station  I2 L2 y I3 L3) : x = y ∧ (I3 33 7 = I3 103 1) := by
  have h_st : I 33 7 = I 103 1 := hr.1
  have h_pA : I 41 13 = I 110 0 := hr.2.1
  have h_pB : I 55 13 = I 110 1 := hr.2.2.1
  have h_ln : lnOk (I 43) (I 44) (I 111) (I 112) 0 (I 41 13) ∧ lnOk (I 57) (I 58) (I 111) (I 112) 20 (I 55 13) := hr.2.2.2
  unfold pb_station at p1
  unfold pk_station at p2
  have s := hj.s
  unfold cSt at s
  have e : I2 103 1 = I 103 1 := by rw [f1.1 103 (by omega) (by omega)]
  have e3 : I3 33 7 = I2 33 7 := by rw [f2.1 33 (by omega)]
  rcases p1.2 with ⟨a1, a2, a3⟩ | ⟨a1, a2, a3⟩
  · rcases p2.2 with ⟨b1, b2, b3⟩ | ⟨b1, b2, b3⟩
    · exact ⟨by rw [a2, b2, e]; exact h_st, by rw [e3, b3, a3, px_u_at, px_u_at, ← a3, e, h_st]⟩
    · exact absurd (b1.symm.trans (e.trans h_st.symm)) (by grind)
  · rcases p2.2 with ⟨b1, b2, b3⟩ | ⟨b1, b2, b3⟩
    · exact absurd (e.trans h_st.symm) (by grind)
    · exact ⟨by rw [a2, b2], by rw [e3, b3, e, a3]; exact h_st⟩

theorem rel.station {x y : Int32} {n : Nat} {I I2 I3 : px_I} {L L2 L3 : px_L} {R : px_R} (hj : jJ n I R) (hr : rel I L) (f1 : frB I I2 L L2) (p1 : pb_station  I L x I2 L2) (f2 : frK I2 I3 L2 L3) (p2 : pk_station  I2 L2 y I3 L3) : rel I3 L3 := by
  have hq0 := (relq_station hj hr f1 p1 f2 p2).2
  have f_41_13 : I3 41 13 = I 41 13 := by rw [f2.1 41 (by omega), eb_station_41_13 p1]
  have f_110_0 : I3 110 0 = I 110 0 := by rw [ek_station_110_0 p2, f1.1 110 (by omega) (by omega)]
  have f_55_13 : I3 55 13 = I 55 13 := by rw [f2.1 55 (by omega), eb_station_55_13 p1]
  have f_110_1 : I3 110 1 = I 110 1 := by rw [ek_station_110_1 p2, f1.1 110 (by omega) (by omega)]
  have f_43_r : I3 43 = I 43 := by rw [f2.1 43 (by omega), eb_station_43_r p1]
  have f_44_r : I3 44 = I 44 := by rw [f2.1 44 (by omega), eb_station_44_r p1]
  have f_57_r : I3 57 = I 57 := by rw [f2.1 57 (by omega), eb_station_57_r p1]
  have f_58_r : I3 58 = I 58 := by rw [f2.1 58 (by omega), eb_station_58_r p1]
  have f_111_r : I3 111 = I 111 := by rw [ek_station_111_r p2, f1.1 111 (by omega) (by omega)]
  have f_112_r : I3 112 = I 112 := by rw [ek_station_112_r p2, f1.1 112 (by omega) (by omega)]
  exact ⟨hq0, (by rw [f_41_13, f_110_0]; exact hr.2.1), (by rw [f_55_13, f_110_1]; exact hr.2.2.1), (by rw [f_41_13, f_55_13, f_43_r, f_44_r, f_57_r, f_58_r, f_111_r, f_112_r]; exact hr.2.2.2)⟩

theorem rel.sight {v0 v1 v2 v3 v4 : Int32} {x y : Int32} {n : Nat} {I I2 I3 : px_I} {L L2 L3 : px_L} {R : px_R} (hj : jJ n I R) (hr : rel I L) (f1 : frB I I2 L L2) (p1 : pb_sight v0 v1 v2 v3 v4 I L x I2 L2) (f2 : frK I2 I3 L2 L3) (p2 : pk_sight v0 v1 v2 v3 v4 I2 L2 y I3 L3) : rel I3 L3 := by
  have f_33_7 : I3 33 7 = I 33 7 := by rw [f2.1 33 (by omega), eb_sight_33_7 p1]
  have f_103_1 : I3 103 1 = I 103 1 := by rw [ek_sight_103_1 p2, f1.1 103 (by omega) (by omega)]
  have f_41_13 : I3 41 13 = I 41 13 := by rw [f2.1 41 (by omega), eb_sight_41_13 p1]
  have f_110_0 : I3 110 0 = I 110 0 := by rw [ek_sight_110_0 p2, f1.1 110 (by omega) (by omega)]
  have f_55_13 : I3 55 13 = I 55 13 := by rw [f2.1 55 (by omega), eb_sight_55_13 p1]
  have f_110_1 : I3 110 1 = I 110 1 := by rw [ek_sight_110_1 p2, f1.1 110 (by omega) (by omega)]
  have f_43_r : I3 43 = I 43 := by rw [f2.1 43 (by omega), eb_sight_43_r p1]
  have f_44_r : I3 44 = I 44 := by rw [f2.1 44 (by omega), eb_sight_44_r p1]
  have f_57_r : I3 57 = I 57 := by rw [f2.1 57 (by omega), eb_sight_57_r p1]
  have f_58_r : I3 58 = I 58 := by rw [f2.1 58 (by omega), eb_sight_58_r p1]
  have f_111_r : I3 111 = I 111 := by rw [ek_sight_111_r p2, f1.1 111 (by omega) (by omega)]
  have f_112_r : I3 112 = I 112 := by rw [ek_sight_112_r p2, f1.1 112 (by omega) (by omega)]
  exact ⟨(by rw [f_33_7, f_103_1]; exact hr.1), (by rw [f_41_13, f_110_0]; exact hr.2.1), (by rw [f_55_13, f_110_1]; exact hr.2.2.1), (by rw [f_41_13, f_55_13, f_43_r, f_44_r, f_57_r, f_58_r, f_111_r, f_112_r]; exact hr.2.2.2)⟩

theorem rel.closed {v0 v1 : Int32} {x y : Int32} {n : Nat} {I I2 I3 : px_I} {L L2 L3 : px_L} {R : px_R} (hj : jJ n I R) (hr : rel I L) (f1 : frB I I2 L L2) (p1 : pb_closed v0 v1 I L x I2 L2) (f2 : frK I2 I3 L2 L3) (p2 : pk_closed v0 v1 I2 L2 y I3 L3) : rel I3 L3 := by
  have f_33_7 : I3 33 7 = I 33 7 := by rw [f2.1 33 (by omega), eb_closed_33_7 p1]
  have f_103_1 : I3 103 1 = I 103 1 := by rw [ek_closed_103_1 p2, f1.1 103 (by omega) (by omega)]
  have f_41_13 : I3 41 13 = I 41 13 := by rw [f2.1 41 (by omega), eb_closed_41_13 p1]
  have f_110_0 : I3 110 0 = I 110 0 := by rw [ek_closed_110_0 p2, f1.1 110 (by omega) (by omega)]
  have f_55_13 : I3 55 13 = I 55 13 := by rw [f2.1 55 (by omega), eb_closed_55_13 p1]
  have f_110_1 : I3 110 1 = I 110 1 := by rw [ek_closed_110_1 p2, f1.1 110 (by omega) (by omega)]
  have f_43_r : I3 43 = I 43 := by rw [f2.1 43 (by omega), eb_closed_43_r p1]
  have f_44_r : I3 44 = I 44 := by rw [f2.1 44 (by omega), eb_closed_44_r p1]
  have f_57_r : I3 57 = I 57 := by rw [f2.1 57 (by omega), eb_closed_57_r p1]
  have f_58_r : I3 58 = I 58 := by rw [f2.1 58 (by omega), eb_closed_58_r p1]
  have f_111_r : I3 111 = I 111 := by rw [ek_closed_111_r p2, f1.1 111 (by omega) (by omega)]
  have f_112_r : I3 112 = I 112 := by rw [ek_closed_112_r p2, f1.1 112 (by omega) (by omega)]
  exact ⟨(by rw [f_33_7, f_103_1]; exact hr.1), (by rw [f_41_13, f_110_0]; exact hr.2.1), (by rw [f_55_13, f_110_1]; exact hr.2.2.1), (by rw [f_41_13, f_55_13, f_43_r, f_44_r, f_57_r, f_58_r, f_111_r, f_112_r]; exact hr.2.2.2)⟩

theorem rel.span {v0 v1 v2 v3 : Int32} {x y : Int32} {n : Nat} {I I2 I3 : px_I} {L L2 L3 : px_L} {R : px_R} (hj : jJ n I R) (hr : rel I L) (f1 : frB I I2 L L2) (p1 : pb_span v0 v1 v2 v3 I L x I2 L2) (f2 : frK I2 I3 L2 L3) (p2 : pk_span v0 v1 v2 v3 I2 L2 y I3 L3) : rel I3 L3 := by
  have f_33_7 : I3 33 7 = I 33 7 := by rw [f2.1 33 (by omega), eb_span_33_7 p1]
  have f_103_1 : I3 103 1 = I 103 1 := by rw [ek_span_103_1 p2, f1.1 103 (by omega) (by omega)]
  have f_41_13 : I3 41 13 = I 41 13 := by rw [f2.1 41 (by omega), eb_span_41_13 p1]
  have f_110_0 : I3 110 0 = I 110 0 := by rw [ek_span_110_0 p2, f1.1 110 (by omega) (by omega)]
  have f_55_13 : I3 55 13 = I 55 13 := by rw [f2.1 55 (by omega), eb_span_55_13 p1]
  have f_110_1 : I3 110 1 = I 110 1 := by rw [ek_span_110_1 p2, f1.1 110 (by omega) (by omega)]
  have f_43_r : I3 43 = I 43 := by rw [f2.1 43 (by omega), eb_span_43_r p1]
  have f_44_r : I3 44 = I 44 := by rw [f2.1 44 (by omega), eb_span_44_r p1]
  have f_57_r : I3 57 = I 57 := by rw [f2.1 57 (by omega), eb_span_57_r p1]
  have f_58_r : I3 58 = I 58 := by rw [f2.1 58 (by omega), eb_span_58_r p1]
  have f_111_r : I3 111 = I 111 := by rw [ek_span_111_r p2, f1.1 111 (by omega) (by omega)]
  have f_112_r : I3 112 = I 112 := by rw [ek_span_112_r p2, f1.1 112 (by omega) (by omega)]
  exact ⟨(by rw [f_33_7, f_103_1]; exact hr.1), (by rw [f_41_13, f_110_0]; exact hr.2.1), (by rw [f_55_13, f_110_1]; exact hr.2.2.1), (by rw [f_41_13, f_55_13, f_43_r, f_44_r, f_57_r, f_58_r, f_111_r, f_112_r]; exact hr.2.2.2)⟩

theorem rel.gap {v0 v1 v2 v3 v4 : Int32} {x y : Int32} {n : Nat} {I I2 I3 : px_I} {L L2 L3 : px_L} {R : px_R} (hj : jJ n I R) (hr : rel I L) (f1 : frB I I2 L L2) (p1 : pb_gap v0 v1 v2 v3 v4 I L x I2 L2) (f2 : frK I2 I3 L2 L3) (p2 : pk_gap v0 v1 v2 v3 v4 I2 L2 y I3 L3) : rel I3 L3 := by
  have f_33_7 : I3 33 7 = I 33 7 := by rw [f2.1 33 (by omega), eb_gap_33_7 p1]
  have f_103_1 : I3 103 1 = I 103 1 := by rw [ek_gap_103_1 p2, f1.1 103 (by omega) (by omega)]
  have f_41_13 : I3 41 13 = I 41 13 := by rw [f2.1 41 (by omega), eb_gap_41_13 p1]
  have f_110_0 : I3 110 0 = I 110 0 := by rw [ek_gap_110_0 p2, f1.1 110 (by omega) (by omega)]
  have f_55_13 : I3 55 13 = I 55 13 := by rw [f2.1 55 (by omega), eb_gap_55_13 p1]
  have f_110_1 : I3 110 1 = I 110 1 := by rw [ek_gap_110_1 p2, f1.1 110 (by omega) (by omega)]
  have f_43_r : I3 43 = I 43 := by rw [f2.1 43 (by omega), eb_gap_43_r p1]
  have f_44_r : I3 44 = I 44 := by rw [f2.1 44 (by omega), eb_gap_44_r p1]
  have f_57_r : I3 57 = I 57 := by rw [f2.1 57 (by omega), eb_gap_57_r p1]
  have f_58_r : I3 58 = I 58 := by rw [f2.1 58 (by omega), eb_gap_58_r p1]
  have f_111_r : I3 111 = I 111 := by rw [ek_gap_111_r p2, f1.1 111 (by omega) (by omega)]
  have f_112_r : I3 112 = I 112 := by rw [ek_gap_112_r p2, f1.1 112 (by omega) (by omega)]
  exact ⟨(by rw [f_33_7, f_103_1]; exact hr.1), (by rw [f_41_13, f_110_0]; exact hr.2.1), (by rw [f_55_13, f_110_1]; exact hr.2.2.1), (by rw [f_41_13, f_55_13, f_43_r, f_44_r, f_57_r, f_58_r, f_111_r, f_112_r]; exact hr.2.2.2)⟩

theorem rel.blamed {v0 v1 v2 : Int32} {x y : Int32} {n : Nat} {I I2 I3 : px_I} {L L2 L3 : px_L} {R : px_R} (hj : jJ n I R) (hr : rel I L) (f1 : frB I I2 L L2) (p1 : pb_blamed v0 v1 v2 I L x I2 L2) (f2 : frK I2 I3 L2 L3) (p2 : pk_blamed v0 v1 v2 I2 L2 y I3 L3) : rel I3 L3 := by
  have f_33_7 : I3 33 7 = I 33 7 := by rw [f2.1 33 (by omega), eb_blamed_33_7 p1]
  have f_103_1 : I3 103 1 = I 103 1 := by rw [ek_blamed_103_1 p2, f1.1 103 (by omega) (by omega)]
  have f_41_13 : I3 41 13 = I 41 13 := by rw [f2.1 41 (by omega), eb_blamed_41_13 p1]
  have f_110_0 : I3 110 0 = I 110 0 := by rw [ek_blamed_110_0 p2, f1.1 110 (by omega) (by omega)]
  have f_55_13 : I3 55 13 = I 55 13 := by rw [f2.1 55 (by omega), eb_blamed_55_13 p1]
  have f_110_1 : I3 110 1 = I 110 1 := by rw [ek_blamed_110_1 p2, f1.1 110 (by omega) (by omega)]
  have f_43_r : I3 43 = I 43 := by rw [f2.1 43 (by omega), eb_blamed_43_r p1]
  have f_44_r : I3 44 = I 44 := by rw [f2.1 44 (by omega), eb_blamed_44_r p1]
  have f_57_r : I3 57 = I 57 := by rw [f2.1 57 (by omega), eb_blamed_57_r p1]
  have f_58_r : I3 58 = I 58 := by rw [f2.1 58 (by omega), eb_blamed_58_r p1]
  have f_111_r : I3 111 = I 111 := by rw [ek_blamed_111_r p2, f1.1 111 (by omega) (by omega)]
  have f_112_r : I3 112 = I 112 := by rw [ek_blamed_112_r p2, f1.1 112 (by omega) (by omega)]
  exact ⟨(by rw [f_33_7, f_103_1]; exact hr.1), (by rw [f_41_13, f_110_0]; exact hr.2.1), (by rw [f_55_13, f_110_1]; exact hr.2.2.1), (by rw [f_41_13, f_55_13, f_43_r, f_44_r, f_57_r, f_58_r, f_111_r, f_112_r]; exact hr.2.2.2)⟩

theorem relq_reach {v0 v1 v2 v3 v4 v5 v6 : Int32} {x y : Int32} {n : Nat} {I I2 I3 : px_I} {L L2 L3 : px_L} {R : px_R} (hj : jJ n I R) (hr : rel I L) (f1 : frB I I2 L L2) (p1 : pb_reach v0 v1 v2 v3 v4 v5 v6 I L x I2 L2) (f2 : frK I2 I3 L2 L3) (p2 : pk_reach v0 v1 v2 v3 v4 v5 v6 I2 L2 y I3 L3) : x = y ∧ (I3 41 13 = I3 110 0) ∧ (I3 55 13 = I3 110 1) := by
  have h_st : I 33 7 = I 103 1 := hr.1
  have h_pA : I 41 13 = I 110 0 := hr.2.1
  have h_pB : I 55 13 = I 110 1 := hr.2.2.1
  have h_ln : lnOk (I 43) (I 44) (I 111) (I 112) 0 (I 41 13) ∧ lnOk (I 57) (I 58) (I 111) (I 112) 20 (I 55 13) := hr.2.2.2
  unfold pb_reach at p1
  unfold pk_reach at p2
  have hl := hj.l
  unfold cGal at hl
  have e0 : I2 110 = I 110 := f1.1 110 (by omega) (by omega)
  have e1 : I2 103 = I 103 := f1.1 103 (by omega) (by omega)
  have hc : ∀ G, bG v0 G → I G 13 = I 110 v0.toNatClampNeg := by
    rintro G (⟨q1, q2⟩ | ⟨q1, q2⟩)
    · rw [q1, q2, px_n0]; exact h_pA
    · rw [q1, q2, px_n1]; exact h_pB
  have e5 : I3 41 = I2 41 := f2.1 41 (by omega)
  have e6 : I3 55 = I2 55 := f2.1 55 (by omega)
  rcases p1.2 with ⟨G, ⟨g1, g2, g3⟩, a2, a3⟩ | ⟨a1, a2, a3⟩
  · have c := hc G g1
    have m : mP0 I2 v0 = if I G 13 = 0 then 1 else I G 13 := by unfold mP0; rw [e0, c]
    rcases p2.2 with ⟨b1, b2, b3⟩ | ⟨b1, b2, b3⟩
    · refine ⟨by rw [a2, b2, m], ?_⟩
      rw [e5, e6, b3]
      rcases g1 with ⟨q1, q2⟩ | ⟨q1, q2⟩
      · subst q1; subst q2
        have k1 := @mReach_p I2 0 v1 v2 v3 v4 v5 v6
        rw [px_n0] at k1
        rw [k1, mReach_q (by decide), e0, m, a3, cReach_p, cReach_o (by omega)]
        exact ⟨rfl, h_pB⟩
      · subst q1; subst q2
        have k1 := @mReach_p I2 1 v1 v2 v3 v4 v5 v6
        rw [px_n1] at k1
        rw [k1, mReach_q (by decide), e0, m, a3, cReach_p, cReach_o (by omega)]
        exact ⟨h_pA, rfl⟩
    · refine absurd ?_ b1
      obtain ⟨r1, r2, r3, r4⟩ := g3
      refine ⟨bG_le g1, ⟨r1.1, by grind⟩, r1.2, ⟨r2.1, by grind⟩, r2.2, r3, ?_, ?_⟩
      · rw [e1, ← h_st]
        rcases g2 with h | h
        · exact Or.inl h
        · exact Or.inr ⟨h.1, by have s := hj.s; unfold cSt at s; grind⟩
      · rw [e0, ← c]; intro h; rw [h] at r4; exact absurd r4 (by decide)
  · rcases p2.2 with ⟨b1, b2, b3⟩ | ⟨b1, b2, b3⟩
    · refine absurd ?_ a1
      obtain ⟨r0, r1, r2, r3, r4, r5, r6, r7⟩ := b1
      obtain ⟨G, g1⟩ := bG_01 r0.1 r0.2
      have c := hc G g1
      rw [e0, ← c] at r7
      refine ⟨G, g1, ?_, ⟨r1.1, r2⟩, ⟨r3.1, r4⟩, r5, ?_⟩
      · rw [e1, ← h_st] at r6
        rcases r6 with h | h
        · exact Or.inl h
        · exact Or.inr ⟨h.1, by have s := hj.s; unfold cSt at s; grind⟩
      · have : I G 13 ≤ 20 := by rcases g1 with ⟨q1, q2⟩ | ⟨q1, q2⟩ <;> rw [q2] <;> first | exact hl.1.1.2 | exact hl.2.1.2
        grind
    · refine ⟨by rw [a2, b2], ?_⟩
      rw [e5, e6, b3, e0, a3]
      exact ⟨h_pA, h_pB⟩

theorem relq_reach_1 {v0 v1 v2 v3 v4 v5 v6 : Int32} {x y : Int32} {n : Nat} {I I2 I3 : px_I} {L L2 L3 : px_L} {R : px_R} (hj : jJ n I R) (hr : rel I L) (f1 : frB I I2 L L2) (p1 : pb_reach v0 v1 v2 v3 v4 v5 v6 I L x I2 L2) (f2 : frK I2 I3 L2 L3) (p2 : pk_reach v0 v1 v2 v3 v4 v5 v6 I2 L2 y I3 L3) : (lnOk (I3 43) (I3 44) (I3 111) (I3 112) 0 (I3 41 13) ∧ lnOk (I3 57) (I3 58) (I3 111) (I3 112) 20 (I3 55 13)) := by
  have h_st : I 33 7 = I 103 1 := hr.1
  have h_pA : I 41 13 = I 110 0 := hr.2.1
  have h_pB : I 55 13 = I 110 1 := hr.2.2.1
  have h_ln : lnOk (I 43) (I 44) (I 111) (I 112) 0 (I 41 13) ∧ lnOk (I 57) (I 58) (I 111) (I 112) 20 (I 55 13) := hr.2.2.2
  have hxy := (relq_reach hj hr f1 p1 f2 p2).1
  unfold pb_reach at p1
  unfold pk_reach at p2
  have hl := hj.l
  unfold cGal at hl
  have e5 : I3 41 = I2 41 := f2.1 41 (by omega)
  have e6 : I3 55 = I2 55 := f2.1 55 (by omega)
  have e43 : I3 43 = I2 43 := f2.1 43 (by omega)
  have e44 : I3 44 = I2 44 := f2.1 44 (by omega)
  have e57 : I3 57 = I2 57 := f2.1 57 (by omega)
  have e58 : I3 58 = I2 58 := f2.1 58 (by omega)
  have e0 : I2 110 = I 110 := f1.1 110 (by omega) (by omega)
  have e11 : I2 111 = I 111 := f1.1 111 (by omega) (by omega)
  have e12 : I2 112 = I 112 := f1.1 112 (by omega) (by omega)
  rcases p1.2 with ⟨G, ⟨g1, g2, g3⟩, a2, a3⟩ | ⟨a1, a2, a3⟩
  · rcases p2.2 with ⟨b1, b2, b3⟩ | ⟨b1, b2, b3⟩
    · obtain ⟨r1, r2, r3, r4⟩ := g3
      rw [e5, e6, e43, e44, e57, e58, b3]
      rcases g1 with ⟨q1, q2⟩ | ⟨q1, q2⟩
      · subst q1; subst q2
        have m : mP0 I2 0 = if I 41 13 = 0 then 1 else I 41 13 := by unfold mP0; rw [e0, px_n0, ← h_pA]
        have c : cReach 41 I v1 v2 v3 v4 v5 v6 41 13 = (if I 41 13 = 0 then 1 else I 41 13) + 1 := cReach_p
        rw [a3, c, cReach_o (b := 55) (by omega), cReach_o (b := 57) (by omega), cReach_o (b := 58) (by omega)]
        refine ⟨ln_new (F2 := cReach 41 I v1 v2 v3 v4 v5 v6 43) (H2 := cReach 41 I v1 v2 v3 v4 v5 v6 44) h_ln.1 (Or.inl rfl) (by by_cases z : I 41 13 = 0 <;> simp [z]) ⟨hl.1.1.1, r4⟩ r1 (fun k => cReach_2) (fun k => cReach_3) (fun k => by rw [← a3, mReach_1, m, e11, show (20 * 0 : Int32) = 0 by decide]) (fun k => by rw [← a3, mReach_2, m, e12, show (20 * 0 : Int32) = 0 by decide]), ln_old h_ln.2 (P := if I 41 13 = 0 then 1 else I 41 13) (Or.inr ⟨rfl, rfl⟩) (by by_cases z : I 41 13 = 0 <;> simp only [z, ↓reduceIte] <;> grind) hl.2.1 (fun k => by rw [← a3, mReach_1, m, e11, show (20 * 0 : Int32) = 0 by decide]) (fun k => by rw [← a3, mReach_2, m, e12, show (20 * 0 : Int32) = 0 by decide])⟩
      · subst q1; subst q2
        have m : mP0 I2 1 = if I 55 13 = 0 then 1 else I 55 13 := by unfold mP0; rw [e0, px_n1, ← h_pB]
        have c : cReach 55 I v1 v2 v3 v4 v5 v6 55 13 = (if I 55 13 = 0 then 1 else I 55 13) + 1 := cReach_p
        rw [a3, c, cReach_o (b := 41) (by omega), cReach_o (b := 43) (by omega), cReach_o (b := 44) (by omega)]
        refine ⟨ln_old h_ln.1 (P := if I 55 13 = 0 then 1 else I 55 13) (Or.inl ⟨rfl, rfl⟩) (by by_cases z : I 55 13 = 0 <;> simp only [z, ↓reduceIte] <;> grind) hl.1.1 (fun k => by rw [← a3, mReach_1, m, e11, show (20 * 1 : Int32) = 20 by decide]) (fun k => by rw [← a3, mReach_2, m, e12, show (20 * 1 : Int32) = 20 by decide]), ln_new (F2 := cReach 55 I v1 v2 v3 v4 v5 v6 57) (H2 := cReach 55 I v1 v2 v3 v4 v5 v6 58) h_ln.2 (Or.inr rfl) (by by_cases z : I 55 13 = 0 <;> simp [z]) ⟨hl.2.1.1, r4⟩ r1 (fun k => cReach_2) (fun k => cReach_3) (fun k => by rw [← a3, mReach_1, m, e11, show (20 * 1 : Int32) = 20 by decide]) (fun k => by rw [← a3, mReach_2, m, e12, show (20 * 1 : Int32) = 20 by decide])⟩
    · exfalso
      rw [hxy, b2] at a2
      have : 0 ≤ I G 13 := by rcases g1 with ⟨q1, q2⟩ | ⟨q1, q2⟩ <;> rw [q2] <;> first | exact hl.1.1.1 | exact hl.2.1.1
      by_cases z : I G 13 = 0
      · rw [if_pos z] at a2; exact absurd a2 (by decide)
      · rw [if_neg z] at a2; rw [← a2] at this; exact absurd this (by decide)
  · rcases p2.2 with ⟨b1, b2, b3⟩ | ⟨b1, b2, b3⟩
    · exfalso
      rw [← hxy, a2] at b2
      obtain ⟨r0, r1, r2, r3, r4, r5, r6, r7⟩ := b1
      unfold mP0 at b2
      obtain ⟨G, g1⟩ := bG_01 r0.1 r0.2
      have c : I G 13 = I 110 v0.toNatClampNeg := by
        rcases g1 with ⟨q1, q2⟩ | ⟨q1, q2⟩
        · rw [q1, q2, px_n0]; exact h_pA
        · rw [q1, q2, px_n1]; exact h_pB
      rw [e0, ← c] at b2
      have : 0 ≤ I G 13 := by rcases g1 with ⟨q1, q2⟩ | ⟨q1, q2⟩ <;> rw [q2] <;> first | exact hl.1.1.1 | exact hl.2.1.1
      by_cases z : I G 13 = 0
      · rw [if_pos z] at b2; exact absurd b2 (by decide)
      · rw [if_neg z] at b2; rw [← b2] at this; exact absurd this (by decide)
    · rw [e5, e6, e43, e44, e57, e58, b3, e11, e12, a3]
      exact h_ln

theorem rel.reach {v0 v1 v2 v3 v4 v5 v6 : Int32} {x y : Int32} {n : Nat} {I I2 I3 : px_I} {L L2 L3 : px_L} {R : px_R} (hj : jJ n I R) (hr : rel I L) (f1 : frB I I2 L L2) (p1 : pb_reach v0 v1 v2 v3 v4 v5 v6 I L x I2 L2) (f2 : frK I2 I3 L2 L3) (p2 : pk_reach v0 v1 v2 v3 v4 v5 v6 I2 L2 y I3 L3) : rel I3 L3 := by
  have hq0 := (relq_reach hj hr f1 p1 f2 p2).2
  have hq1 := relq_reach_1 hj hr f1 p1 f2 p2
  have f_33_7 : I3 33 7 = I 33 7 := by rw [f2.1 33 (by omega), eb_reach_33_7 p1]
  have f_103_1 : I3 103 1 = I 103 1 := by rw [ek_reach_103_1 p2, f1.1 103 (by omega) (by omega)]
  exact ⟨(by rw [f_33_7, f_103_1]; exact hr.1), hq0.1, hq0.2, hq1⟩

theorem rel.mouth {v0 v1 : Int32} {x y : Int32} {n : Nat} {I I2 I3 : px_I} {L L2 L3 : px_L} {R : px_R} (hj : jJ n I R) (hr : rel I L) (f1 : frB I I2 L L2) (p1 : pb_mouth v0 v1 I L x I2 L2) (f2 : frK I2 I3 L2 L3) (p2 : pk_mouth v0 v1 I2 L2 y I3 L3) : rel I3 L3 := by
  have f_33_7 : I3 33 7 = I 33 7 := by rw [f2.1 33 (by omega), eb_mouth_33_7 p1]
  have f_103_1 : I3 103 1 = I 103 1 := by rw [ek_mouth_103_1 p2, f1.1 103 (by omega) (by omega)]
  have f_41_13 : I3 41 13 = I 41 13 := by rw [f2.1 41 (by omega), eb_mouth_41_13 p1]
  have f_110_0 : I3 110 0 = I 110 0 := by rw [ek_mouth_110_0 p2, f1.1 110 (by omega) (by omega)]
  have f_55_13 : I3 55 13 = I 55 13 := by rw [f2.1 55 (by omega), eb_mouth_55_13 p1]
  have f_110_1 : I3 110 1 = I 110 1 := by rw [ek_mouth_110_1 p2, f1.1 110 (by omega) (by omega)]
  have f_43_r : I3 43 = I 43 := by rw [f2.1 43 (by omega), eb_mouth_43_r p1]
  have f_44_r : I3 44 = I 44 := by rw [f2.1 44 (by omega), eb_mouth_44_r p1]
  have f_57_r : I3 57 = I 57 := by rw [f2.1 57 (by omega), eb_mouth_57_r p1]
  have f_58_r : I3 58 = I 58 := by rw [f2.1 58 (by omega), eb_mouth_58_r p1]
  have f_111_r : I3 111 = I 111 := by rw [ek_mouth_111_r p2, f1.1 111 (by omega) (by omega)]
  have f_112_r : I3 112 = I 112 := by rw [ek_mouth_112_r p2, f1.1 112 (by omega) (by omega)]
  exact ⟨(by rw [f_33_7, f_103_1]; exact hr.1), (by rw [f_41_13, f_110_0]; exact hr.2.1), (by rw [f_55_13, f_110_1]; exact hr.2.2.1), (by rw [f_41_13, f_55_13, f_43_r, f_44_r, f_57_r, f_58_r, f_111_r, f_112_r]; exact hr.2.2.2)⟩

theorem rel.mark {v0 v1 v2 v3 : Int32} {x y : Int32} {n : Nat} {I I2 I3 : px_I} {L L2 L3 : px_L} {R : px_R} (hj : jJ n I R) (hr : rel I L) (f1 : frB I I2 L L2) (p1 : pb_mark v0 v1 v2 v3 I L x I2 L2) (f2 : frK I2 I3 L2 L3) (p2 : pk_mark v0 v1 v2 v3 I2 L2 y I3 L3) : rel I3 L3 := by
  have f_33_7 : I3 33 7 = I 33 7 := by rw [f2.1 33 (by omega), eb_mark_33_7 p1]
  have f_103_1 : I3 103 1 = I 103 1 := by rw [ek_mark_103_1 p2, f1.1 103 (by omega) (by omega)]
  have f_41_13 : I3 41 13 = I 41 13 := by rw [f2.1 41 (by omega), eb_mark_41_13 p1]
  have f_110_0 : I3 110 0 = I 110 0 := by rw [ek_mark_110_0 p2, f1.1 110 (by omega) (by omega)]
  have f_55_13 : I3 55 13 = I 55 13 := by rw [f2.1 55 (by omega), eb_mark_55_13 p1]
  have f_110_1 : I3 110 1 = I 110 1 := by rw [ek_mark_110_1 p2, f1.1 110 (by omega) (by omega)]
  have f_43_r : I3 43 = I 43 := by rw [f2.1 43 (by omega), eb_mark_43_r p1]
  have f_44_r : I3 44 = I 44 := by rw [f2.1 44 (by omega), eb_mark_44_r p1]
  have f_57_r : I3 57 = I 57 := by rw [f2.1 57 (by omega), eb_mark_57_r p1]
  have f_58_r : I3 58 = I 58 := by rw [f2.1 58 (by omega), eb_mark_58_r p1]
  have f_111_r : I3 111 = I 111 := by rw [ek_mark_111_r p2, f1.1 111 (by omega) (by omega)]
  have f_112_r : I3 112 = I 112 := by rw [ek_mark_112_r p2, f1.1 112 (by omega) (by omega)]
  exact ⟨(by rw [f_33_7, f_103_1]; exact hr.1), (by rw [f_41_13, f_110_0]; exact hr.2.1), (by rw [f_55_13, f_110_1]; exact hr.2.2.1), (by rw [f_41_13, f_55_13, f_43_r, f_44_r, f_57_r, f_58_r, f_111_r, f_112_r]; exact hr.2.2.2)⟩

theorem rel.when {v0 v1 v2 : Int32} {x y : Int32} {n : Nat} {I I2 I3 : px_I} {L L2 L3 : px_L} {R : px_R} (hj : jJ n I R) (hr : rel I L) (f1 : frB I I2 L L2) (p1 : pb_when v0 v1 v2 I L x I2 L2) (f2 : frK I2 I3 L2 L3) (p2 : pk_when v0 v1 v2 I2 L2 y I3 L3) : rel I3 L3 := by
  have f_33_7 : I3 33 7 = I 33 7 := by rw [f2.1 33 (by omega), eb_when_33_7 p1]
  have f_103_1 : I3 103 1 = I 103 1 := by rw [ek_when_103_1 p2, f1.1 103 (by omega) (by omega)]
  have f_41_13 : I3 41 13 = I 41 13 := by rw [f2.1 41 (by omega), eb_when_41_13 p1]
  have f_110_0 : I3 110 0 = I 110 0 := by rw [ek_when_110_0 p2, f1.1 110 (by omega) (by omega)]
  have f_55_13 : I3 55 13 = I 55 13 := by rw [f2.1 55 (by omega), eb_when_55_13 p1]
  have f_110_1 : I3 110 1 = I 110 1 := by rw [ek_when_110_1 p2, f1.1 110 (by omega) (by omega)]
  have f_43_r : I3 43 = I 43 := by rw [f2.1 43 (by omega), eb_when_43_r p1]
  have f_44_r : I3 44 = I 44 := by rw [f2.1 44 (by omega), eb_when_44_r p1]
  have f_57_r : I3 57 = I 57 := by rw [f2.1 57 (by omega), eb_when_57_r p1]
  have f_58_r : I3 58 = I 58 := by rw [f2.1 58 (by omega), eb_when_58_r p1]
  have f_111_r : I3 111 = I 111 := by rw [ek_when_111_r p2, f1.1 111 (by omega) (by omega)]
  have f_112_r : I3 112 = I 112 := by rw [ek_when_112_r p2, f1.1 112 (by omega) (by omega)]
  exact ⟨(by rw [f_33_7, f_103_1]; exact hr.1), (by rw [f_41_13, f_110_0]; exact hr.2.1), (by rw [f_55_13, f_110_1]; exact hr.2.2.1), (by rw [f_41_13, f_55_13, f_43_r, f_44_r, f_57_r, f_58_r, f_111_r, f_112_r]; exact hr.2.2.2)⟩

theorem rel.between {v0 v1 v2 v3 : Int32} {x y : Int32} {n : Nat} {I I2 I3 : px_I} {L L2 L3 : px_L} {R : px_R} (hj : jJ n I R) (hr : rel I L) (f1 : frB I I2 L L2) (p1 : pb_between v0 v1 v2 v3 I L x I2 L2) (f2 : frK I2 I3 L2 L3) (p2 : pk_between v0 v1 v2 v3 I2 L2 y I3 L3) : rel I3 L3 := by
  have f_33_7 : I3 33 7 = I 33 7 := by rw [f2.1 33 (by omega), eb_between_33_7 p1]
  have f_103_1 : I3 103 1 = I 103 1 := by rw [ek_between_103_1 p2, f1.1 103 (by omega) (by omega)]
  have f_41_13 : I3 41 13 = I 41 13 := by rw [f2.1 41 (by omega), eb_between_41_13 p1]
  have f_110_0 : I3 110 0 = I 110 0 := by rw [ek_between_110_0 p2, f1.1 110 (by omega) (by omega)]
  have f_55_13 : I3 55 13 = I 55 13 := by rw [f2.1 55 (by omega), eb_between_55_13 p1]
  have f_110_1 : I3 110 1 = I 110 1 := by rw [ek_between_110_1 p2, f1.1 110 (by omega) (by omega)]
  have f_43_r : I3 43 = I 43 := by rw [f2.1 43 (by omega), eb_between_43_r p1]
  have f_44_r : I3 44 = I 44 := by rw [f2.1 44 (by omega), eb_between_44_r p1]
  have f_57_r : I3 57 = I 57 := by rw [f2.1 57 (by omega), eb_between_57_r p1]
  have f_58_r : I3 58 = I 58 := by rw [f2.1 58 (by omega), eb_between_58_r p1]
  have f_111_r : I3 111 = I 111 := by rw [ek_between_111_r p2, f1.1 111 (by omega) (by omega)]
  have f_112_r : I3 112 = I 112 := by rw [ek_between_112_r p2, f1.1 112 (by omega) (by omega)]
  exact ⟨(by rw [f_33_7, f_103_1]; exact hr.1), (by rw [f_41_13, f_110_0]; exact hr.2.1), (by rw [f_55_13, f_110_1]; exact hr.2.2.1), (by rw [f_41_13, f_55_13, f_43_r, f_44_r, f_57_r, f_58_r, f_111_r, f_112_r]; exact hr.2.2.2)⟩

theorem relq_lamps {v0 v1 v2 v3 v4 : Int32} {x y : Int32} {n : Nat} {I I2 I3 : px_I} {L L2 L3 : px_L} {R : px_R} (hj : jJ n I R) (hr : rel I L) (f1 : frB I I2 L L2) (p1 : pbs_lamps v0 v1 v2 v3 v4 I L x I2 L2) (f2 : frK I2 I3 L2 L3) (p2 : pks_lamps v0 v1 v2 v3 v4 I2 L2 y I3 L3) : x = y := by
  have h_st : I 33 7 = I 103 1 := hr.1
  have h_pA : I 41 13 = I 110 0 := hr.2.1
  have h_pB : I 55 13 = I 110 1 := hr.2.2.1
  have h_ln : lnOk (I 43) (I 44) (I 111) (I 112) 0 (I 41 13) ∧ lnOk (I 57) (I 58) (I 111) (I 112) 20 (I 55 13) := hr.2.2.2
  unfold pbs_lamps at p1
  unfold pks_lamps at p2
  unfold pb_lamps at p1
  obtain ⟨rfl, -, p1⟩ := p1
  have hl := hj.l
  unfold cGal at hl
  have hc : ∀ G, bG v0 G → I2 G 13 = I2 110 v0.toNatClampNeg := by
    rintro G (⟨q1, q2⟩ | ⟨q1, q2⟩)
    · rw [q1, q2, px_n0]; exact h_pA
    · rw [q1, q2, px_n1]; exact h_pB
  have p2 := p2.2.2
  rcases p1 with ⟨G, ⟨g1, g2, g3, g4⟩, p1⟩ | ⟨a1, a2⟩
  · have c := hc G g1
    have key : cHo G I2 v1 v2 v3 v4 ↔ ∃ e, v3 ≤ e ∧ e ≤ v4 ∧ mLk I2 (20 * v0 + v1) v2 e := by
      have k0 : cHo G I2 v1 v2 v3 v4 ↔ cMx v3 (I2 (G + 2) v1.toNatClampNeg / (v2 + 1) + 1) ≤ (if v2 = 0 then v4 else cMn v4 (I2 (G + 3) v1.toNatClampNeg / v2)) := ⟨fun q => q.2.2, fun q => ⟨g2, g3.1, q⟩⟩
      rw [k0]
      unfold mLk
      rcases g1 with ⟨q1, q2⟩ | ⟨q1, q2⟩
      · subst q1; subst q2
        obtain ⟨w1, w2, w3⟩ := h_ln.1 v1 g2.1 g2.2
        rw [show (20 * 0 : Int32) = 0 by decide, w1.1, w1.2]
        exact px_lam w2 w3 g3 g4.1 g4.2.2
      · subst q1; subst q2
        obtain ⟨w1, w2, w3⟩ := h_ln.2 v1 g2.1 g2.2
        rw [show (20 * 1 : Int32) = 20 by decide, w1.1, w1.2]
        exact px_lam w2 w3 g3 g4.1 g4.2.2
    rcases p2 with ⟨b1, b2⟩ | ⟨b1, b2⟩
    · rcases p1 with ⟨a1, a2⟩ | ⟨a1, a2⟩
      · rcases b2 with ⟨b3, b4⟩ | ⟨b3, b4⟩
        · rw [a1, b3]
        · obtain ⟨e, e1, e2, e3⟩ := key.mp a2
          exact absurd e3 (b4 e e1 e2)
      · rcases b2 with ⟨b3, b4⟩ | ⟨b3, b4⟩
        · exact absurd (key.mpr b4) a2
        · rw [a1, b3]
    · refine absurd ?_ b1
      unfold mLc mPegOk
      rw [← c]
      have := bG_le g1
      refine ⟨⟨this.1, this.2, by grind, ?_⟩, by grind, g3, ⟨g4.1, by grind⟩, g4.2⟩
      rcases g1 with ⟨q1, q2⟩ | ⟨q1, q2⟩ <;> rw [q2] at g2 ⊢ <;> grind
  · rcases p2 with ⟨b1, b2⟩ | ⟨b1, b2⟩
    · refine absurd ?_ a1
      unfold mLc mPegOk at b1
      obtain ⟨r0, r1, r2, r3, r4⟩ := b1
      obtain ⟨G, g1⟩ := bG_01 r0.1 r0.2.1
      have c := hc G g1
      rw [← c] at r0
      have : 0 ≤ I2 G 13 := by rcases g1 with ⟨q1, q2⟩ | ⟨q1, q2⟩ <;> rw [q2] <;> first | exact hl.1.1.1 | exact hl.2.1.1
      exact ⟨G, g1, ⟨by grind, by grind⟩, r2, r3.1, r4⟩
    · rw [a2, b2]

theorem rel.lamps {v0 v1 v2 v3 v4 : Int32} {x y : Int32} {n : Nat} {I I2 I3 : px_I} {L L2 L3 : px_L} {R : px_R} (hj : jJ n I R) (hr : rel I L) (f1 : frB I I2 L L2) (p1 : pbs_lamps v0 v1 v2 v3 v4 I L x I2 L2) (f2 : frK I2 I3 L2 L3) (p2 : pks_lamps v0 v1 v2 v3 v4 I2 L2 y I3 L3) : x = y ∧ rel I3 L3 := by
  have f_33_7 : I3 33 7 = I 33 7 := by rw [f2.1 33 (by omega), eb_lamps_33_7 (pbs_lamps.old p1)]
  have f_103_1 : I3 103 1 = I 103 1 := by rw [ek_lamps_103_1 (pks_lamps.old p2), f1.1 103 (by omega) (by omega)]
  have f_41_13 : I3 41 13 = I 41 13 := by rw [f2.1 41 (by omega), eb_lamps_41_13 (pbs_lamps.old p1)]
  have f_110_0 : I3 110 0 = I 110 0 := by rw [ek_lamps_110_0 (pks_lamps.old p2), f1.1 110 (by omega) (by omega)]
  have f_55_13 : I3 55 13 = I 55 13 := by rw [f2.1 55 (by omega), eb_lamps_55_13 (pbs_lamps.old p1)]
  have f_110_1 : I3 110 1 = I 110 1 := by rw [ek_lamps_110_1 (pks_lamps.old p2), f1.1 110 (by omega) (by omega)]
  have f_43_r : I3 43 = I 43 := by rw [f2.1 43 (by omega), eb_lamps_43_r (pbs_lamps.old p1)]
  have f_44_r : I3 44 = I 44 := by rw [f2.1 44 (by omega), eb_lamps_44_r (pbs_lamps.old p1)]
  have f_57_r : I3 57 = I 57 := by rw [f2.1 57 (by omega), eb_lamps_57_r (pbs_lamps.old p1)]
  have f_58_r : I3 58 = I 58 := by rw [f2.1 58 (by omega), eb_lamps_58_r (pbs_lamps.old p1)]
  have f_111_r : I3 111 = I 111 := by rw [ek_lamps_111_r (pks_lamps.old p2), f1.1 111 (by omega) (by omega)]
  have f_112_r : I3 112 = I 112 := by rw [ek_lamps_112_r (pks_lamps.old p2), f1.1 112 (by omega) (by omega)]
  exact ⟨(relq_lamps hj hr f1 p1 f2 p2), ⟨(by rw [f_33_7, f_103_1]; exact hr.1), (by rw [f_41_13, f_110_0]; exact hr.2.1), (by rw [f_55_13, f_110_1]; exact hr.2.2.1), (by rw [f_41_13, f_55_13, f_43_r, f_44_r, f_57_r, f_58_r, f_111_r, f_112_r]; exact hr.2.2.2)⟩⟩

theorem rel.count {v0 v1 v2 : Int32} {x y : Int32} {n : Nat} {I I2 I3 : px_I} {L L2 L3 : px_L} {R : px_R} (hj : jJ n I R) (hr : rel I L) (f1 : frB I I2 L L2) (p1 : pb_count v0 v1 v2 I L x I2 L2) (f2 : frK I2 I3 L2 L3) (p2 : pk_count v0 v1 v2 I2 L2 y I3 L3) : rel I3 L3 := by
  have f_33_7 : I3 33 7 = I 33 7 := by rw [f2.1 33 (by omega), eb_count_33_7 p1]
  have f_103_1 : I3 103 1 = I 103 1 := by rw [ek_count_103_1 p2, f1.1 103 (by omega) (by omega)]
  have f_41_13 : I3 41 13 = I 41 13 := by rw [f2.1 41 (by omega), eb_count_41_13 p1]
  have f_110_0 : I3 110 0 = I 110 0 := by rw [ek_count_110_0 p2, f1.1 110 (by omega) (by omega)]
  have f_55_13 : I3 55 13 = I 55 13 := by rw [f2.1 55 (by omega), eb_count_55_13 p1]
  have f_110_1 : I3 110 1 = I 110 1 := by rw [ek_count_110_1 p2, f1.1 110 (by omega) (by omega)]
  have f_43_r : I3 43 = I 43 := by rw [f2.1 43 (by omega), eb_count_43_r p1]
  have f_44_r : I3 44 = I 44 := by rw [f2.1 44 (by omega), eb_count_44_r p1]
  have f_57_r : I3 57 = I 57 := by rw [f2.1 57 (by omega), eb_count_57_r p1]
  have f_58_r : I3 58 = I 58 := by rw [f2.1 58 (by omega), eb_count_58_r p1]
  have f_111_r : I3 111 = I 111 := by rw [ek_count_111_r p2, f1.1 111 (by omega) (by omega)]
  have f_112_r : I3 112 = I 112 := by rw [ek_count_112_r p2, f1.1 112 (by omega) (by omega)]
  exact ⟨(by rw [f_33_7, f_103_1]; exact hr.1), (by rw [f_41_13, f_110_0]; exact hr.2.1), (by rw [f_55_13, f_110_1]; exact hr.2.2.1), (by rw [f_41_13, f_55_13, f_43_r, f_44_r, f_57_r, f_58_r, f_111_r, f_112_r]; exact hr.2.2.2)⟩

theorem rel.unit {v0 : Int32} {x y : Int32} {n : Nat} {I I2 I3 : px_I} {L L2 L3 : px_L} {R : px_R} (hj : jJ n I R) (hr : rel I L) (f1 : frB I I2 L L2) (p1 : pb_unit v0 I L x I2 L2) (f2 : frK I2 I3 L2 L3) (p2 : pk_unit v0 I2 L2 y I3 L3) : rel I3 L3 := by
  have f_33_7 : I3 33 7 = I 33 7 := by rw [f2.1 33 (by omega), eb_unit_33_7 p1]
  have f_103_1 : I3 103 1 = I 103 1 := by rw [ek_unit_103_1 p2, f1.1 103 (by omega) (by omega)]
  have f_41_13 : I3 41 13 = I 41 13 := by rw [f2.1 41 (by omega), eb_unit_41_13 p1]
  have f_110_0 : I3 110 0 = I 110 0 := by rw [ek_unit_110_0 p2, f1.1 110 (by omega) (by omega)]
  have f_55_13 : I3 55 13 = I 55 13 := by rw [f2.1 55 (by omega), eb_unit_55_13 p1]
  have f_110_1 : I3 110 1 = I 110 1 := by rw [ek_unit_110_1 p2, f1.1 110 (by omega) (by omega)]
  have f_43_r : I3 43 = I 43 := by rw [f2.1 43 (by omega), eb_unit_43_r p1]
  have f_44_r : I3 44 = I 44 := by rw [f2.1 44 (by omega), eb_unit_44_r p1]
  have f_57_r : I3 57 = I 57 := by rw [f2.1 57 (by omega), eb_unit_57_r p1]
  have f_58_r : I3 58 = I 58 := by rw [f2.1 58 (by omega), eb_unit_58_r p1]
  have f_111_r : I3 111 = I 111 := by rw [ek_unit_111_r p2, f1.1 111 (by omega) (by omega)]
  have f_112_r : I3 112 = I 112 := by rw [ek_unit_112_r p2, f1.1 112 (by omega) (by omega)]
  exact ⟨(by rw [f_33_7, f_103_1]; exact hr.1), (by rw [f_41_13, f_110_0]; exact hr.2.1), (by rw [f_55_13, f_110_1]; exact hr.2.2.1), (by rw [f_41_13, f_55_13, f_43_r, f_44_r, f_57_r, f_58_r, f_111_r, f_112_r]; exact hr.2.2.2)⟩

theorem rel.feed {v0 v1 v2 v3 v4 : Int32} {x y : Int32} {n : Nat} {I I2 I3 : px_I} {L L2 L3 : px_L} {R : px_R} (hj : jJ n I R) (hr : rel I L) (f1 : frB I I2 L L2) (p1 : pb_feed v0 v1 v2 v3 v4 I L x I2 L2) (f2 : frK I2 I3 L2 L3) (p2 : pk_feed v0 v1 v2 v3 v4 I2 L2 y I3 L3) : rel I3 L3 := by
  have f_33_7 : I3 33 7 = I 33 7 := by rw [f2.1 33 (by omega), eb_feed_33_7 p1]
  have f_103_1 : I3 103 1 = I 103 1 := by rw [ek_feed_103_1 p2, f1.1 103 (by omega) (by omega)]
  have f_41_13 : I3 41 13 = I 41 13 := by rw [f2.1 41 (by omega), eb_feed_41_13 p1]
  have f_110_0 : I3 110 0 = I 110 0 := by rw [ek_feed_110_0 p2, f1.1 110 (by omega) (by omega)]
  have f_55_13 : I3 55 13 = I 55 13 := by rw [f2.1 55 (by omega), eb_feed_55_13 p1]
  have f_110_1 : I3 110 1 = I 110 1 := by rw [ek_feed_110_1 p2, f1.1 110 (by omega) (by omega)]
  have f_43_r : I3 43 = I 43 := by rw [f2.1 43 (by omega), eb_feed_43_r p1]
  have f_44_r : I3 44 = I 44 := by rw [f2.1 44 (by omega), eb_feed_44_r p1]
  have f_57_r : I3 57 = I 57 := by rw [f2.1 57 (by omega), eb_feed_57_r p1]
  have f_58_r : I3 58 = I 58 := by rw [f2.1 58 (by omega), eb_feed_58_r p1]
  have f_111_r : I3 111 = I 111 := by rw [ek_feed_111_r p2, f1.1 111 (by omega) (by omega)]
  have f_112_r : I3 112 = I 112 := by rw [ek_feed_112_r p2, f1.1 112 (by omega) (by omega)]
  exact ⟨(by rw [f_33_7, f_103_1]; exact hr.1), (by rw [f_41_13, f_110_0]; exact hr.2.1), (by rw [f_55_13, f_110_1]; exact hr.2.2.1), (by rw [f_41_13, f_55_13, f_43_r, f_44_r, f_57_r, f_58_r, f_111_r, f_112_r]; exact hr.2.2.2)⟩

theorem rel.end {v0 : Int32} {x y : Int32} {n : Nat} {I I2 I3 : px_I} {L L2 L3 : px_L} {R : px_R} (hj : jJ n I R) (hr : rel I L) (f1 : frB I I2 L L2) (p1 : pb_end v0 I L x I2 L2) (f2 : frK I2 I3 L2 L3) (p2 : pk_end v0 I2 L2 y I3 L3) : rel I3 L3 := by
  have f_33_7 : I3 33 7 = I 33 7 := by rw [f2.1 33 (by omega), eb_end_33_7 p1]
  have f_103_1 : I3 103 1 = I 103 1 := by rw [ek_end_103_1 p2, f1.1 103 (by omega) (by omega)]
  have f_41_13 : I3 41 13 = I 41 13 := by rw [f2.1 41 (by omega), eb_end_41_13 p1]
  have f_110_0 : I3 110 0 = I 110 0 := by rw [ek_end_110_0 p2, f1.1 110 (by omega) (by omega)]
  have f_55_13 : I3 55 13 = I 55 13 := by rw [f2.1 55 (by omega), eb_end_55_13 p1]
  have f_110_1 : I3 110 1 = I 110 1 := by rw [ek_end_110_1 p2, f1.1 110 (by omega) (by omega)]
  have f_43_r : I3 43 = I 43 := by rw [f2.1 43 (by omega), eb_end_43_r p1]
  have f_44_r : I3 44 = I 44 := by rw [f2.1 44 (by omega), eb_end_44_r p1]
  have f_57_r : I3 57 = I 57 := by rw [f2.1 57 (by omega), eb_end_57_r p1]
  have f_58_r : I3 58 = I 58 := by rw [f2.1 58 (by omega), eb_end_58_r p1]
  have f_111_r : I3 111 = I 111 := by rw [ek_end_111_r p2, f1.1 111 (by omega) (by omega)]
  have f_112_r : I3 112 = I 112 := by rw [ek_end_112_r p2, f1.1 112 (by omega) (by omega)]
  exact ⟨(by rw [f_33_7, f_103_1]; exact hr.1), (by rw [f_41_13, f_110_0]; exact hr.2.1), (by rw [f_55_13, f_110_1]; exact hr.2.2.1), (by rw [f_41_13, f_55_13, f_43_r, f_44_r, f_57_r, f_58_r, f_111_r, f_112_r]; exact hr.2.2.2)⟩

theorem rel.way {v0 : Int32} {x y : Int32} {n : Nat} {I I2 I3 : px_I} {L L2 L3 : px_L} {R : px_R} (hj : jJ n I R) (hr : rel I L) (f1 : frB I I2 L L2) (p1 : pb_way v0 I L x I2 L2) (f2 : frK I2 I3 L2 L3) (p2 : pk_way v0 I2 L2 y I3 L3) : rel I3 L3 := by
  have f_33_7 : I3 33 7 = I 33 7 := by rw [f2.1 33 (by omega), eb_way_33_7 p1]
  have f_103_1 : I3 103 1 = I 103 1 := by rw [ek_way_103_1 p2, f1.1 103 (by omega) (by omega)]
  have f_41_13 : I3 41 13 = I 41 13 := by rw [f2.1 41 (by omega), eb_way_41_13 p1]
  have f_110_0 : I3 110 0 = I 110 0 := by rw [ek_way_110_0 p2, f1.1 110 (by omega) (by omega)]
  have f_55_13 : I3 55 13 = I 55 13 := by rw [f2.1 55 (by omega), eb_way_55_13 p1]
  have f_110_1 : I3 110 1 = I 110 1 := by rw [ek_way_110_1 p2, f1.1 110 (by omega) (by omega)]
  have f_43_r : I3 43 = I 43 := by rw [f2.1 43 (by omega), eb_way_43_r p1]
  have f_44_r : I3 44 = I 44 := by rw [f2.1 44 (by omega), eb_way_44_r p1]
  have f_57_r : I3 57 = I 57 := by rw [f2.1 57 (by omega), eb_way_57_r p1]
  have f_58_r : I3 58 = I 58 := by rw [f2.1 58 (by omega), eb_way_58_r p1]
  have f_111_r : I3 111 = I 111 := by rw [ek_way_111_r p2, f1.1 111 (by omega) (by omega)]
  have f_112_r : I3 112 = I 112 := by rw [ek_way_112_r p2, f1.1 112 (by omega) (by omega)]
  exact ⟨(by rw [f_33_7, f_103_1]; exact hr.1), (by rw [f_41_13, f_110_0]; exact hr.2.1), (by rw [f_55_13, f_110_1]; exact hr.2.2.1), (by rw [f_41_13, f_55_13, f_43_r, f_44_r, f_57_r, f_58_r, f_111_r, f_112_r]; exact hr.2.2.2)⟩

theorem rel.fault {v0 : Int32} {x y : Int32} {n : Nat} {I I2 I3 : px_I} {L L2 L3 : px_L} {R : px_R} (hj : jJ n I R) (hr : rel I L) (f1 : frB I I2 L L2) (p1 : pb_fault v0 I L x I2 L2) (f2 : frK I2 I3 L2 L3) (p2 : pk_fault v0 I2 L2 y I3 L3) : rel I3 L3 := by
  have f_33_7 : I3 33 7 = I 33 7 := by rw [f2.1 33 (by omega), eb_fault_33_7 p1]
  have f_103_1 : I3 103 1 = I 103 1 := by rw [ek_fault_103_1 p2, f1.1 103 (by omega) (by omega)]
  have f_41_13 : I3 41 13 = I 41 13 := by rw [f2.1 41 (by omega), eb_fault_41_13 p1]
  have f_110_0 : I3 110 0 = I 110 0 := by rw [ek_fault_110_0 p2, f1.1 110 (by omega) (by omega)]
  have f_55_13 : I3 55 13 = I 55 13 := by rw [f2.1 55 (by omega), eb_fault_55_13 p1]
  have f_110_1 : I3 110 1 = I 110 1 := by rw [ek_fault_110_1 p2, f1.1 110 (by omega) (by omega)]
  have f_43_r : I3 43 = I 43 := by rw [f2.1 43 (by omega), eb_fault_43_r p1]
  have f_44_r : I3 44 = I 44 := by rw [f2.1 44 (by omega), eb_fault_44_r p1]
  have f_57_r : I3 57 = I 57 := by rw [f2.1 57 (by omega), eb_fault_57_r p1]
  have f_58_r : I3 58 = I 58 := by rw [f2.1 58 (by omega), eb_fault_58_r p1]
  have f_111_r : I3 111 = I 111 := by rw [ek_fault_111_r p2, f1.1 111 (by omega) (by omega)]
  have f_112_r : I3 112 = I 112 := by rw [ek_fault_112_r p2, f1.1 112 (by omega) (by omega)]
  exact ⟨(by rw [f_33_7, f_103_1]; exact hr.1), (by rw [f_41_13, f_110_0]; exact hr.2.1), (by rw [f_55_13, f_110_1]; exact hr.2.2.1), (by rw [f_41_13, f_55_13, f_43_r, f_44_r, f_57_r, f_58_r, f_111_r, f_112_r]; exact hr.2.2.2)⟩

theorem rel.tools {v0 v1 v2 v3 v4 : Int32} {x y : Int32} {n : Nat} {I I2 I3 : px_I} {L L2 L3 : px_L} {R : px_R} (hj : jJ n I R) (hr : rel I L) (f1 : frB I I2 L L2) (p1 : pb_tools v0 v1 v2 v3 v4 I L x I2 L2) (f2 : frK I2 I3 L2 L3) (p2 : pk_tools v0 v1 v2 v3 v4 I2 L2 y I3 L3) : rel I3 L3 := by
  have f_33_7 : I3 33 7 = I 33 7 := by rw [f2.1 33 (by omega), eb_tools_33_7 p1]
  have f_103_1 : I3 103 1 = I 103 1 := by rw [ek_tools_103_1 p2, f1.1 103 (by omega) (by omega)]
  have f_41_13 : I3 41 13 = I 41 13 := by rw [f2.1 41 (by omega), eb_tools_41_13 p1]
  have f_110_0 : I3 110 0 = I 110 0 := by rw [ek_tools_110_0 p2, f1.1 110 (by omega) (by omega)]
  have f_55_13 : I3 55 13 = I 55 13 := by rw [f2.1 55 (by omega), eb_tools_55_13 p1]
  have f_110_1 : I3 110 1 = I 110 1 := by rw [ek_tools_110_1 p2, f1.1 110 (by omega) (by omega)]
  have f_43_r : I3 43 = I 43 := by rw [f2.1 43 (by omega), eb_tools_43_r p1]
  have f_44_r : I3 44 = I 44 := by rw [f2.1 44 (by omega), eb_tools_44_r p1]
  have f_57_r : I3 57 = I 57 := by rw [f2.1 57 (by omega), eb_tools_57_r p1]
  have f_58_r : I3 58 = I 58 := by rw [f2.1 58 (by omega), eb_tools_58_r p1]
  have f_111_r : I3 111 = I 111 := by rw [ek_tools_111_r p2, f1.1 111 (by omega) (by omega)]
  have f_112_r : I3 112 = I 112 := by rw [ek_tools_112_r p2, f1.1 112 (by omega) (by omega)]
  exact ⟨(by rw [f_33_7, f_103_1]; exact hr.1), (by rw [f_41_13, f_110_0]; exact hr.2.1), (by rw [f_55_13, f_110_1]; exact hr.2.2.1), (by rw [f_41_13, f_55_13, f_43_r, f_44_r, f_57_r, f_58_r, f_111_r, f_112_r]; exact hr.2.2.2)⟩

theorem rel.run {v0 v1 v2 : Int32} {x y : Int32} {n : Nat} {I I2 I3 : px_I} {L L2 L3 : px_L} {R : px_R} (hj : jJ n I R) (hr : rel I L) (f1 : frB I I2 L L2) (p1 : pb_run v0 v1 v2 I L x I2 L2) (f2 : frK I2 I3 L2 L3) (p2 : pk_run v0 v1 v2 I2 L2 y I3 L3) : rel I3 L3 := by
  have f_33_7 : I3 33 7 = I 33 7 := by rw [f2.1 33 (by omega), eb_run_33_7 p1]
  have f_103_1 : I3 103 1 = I 103 1 := by rw [ek_run_103_1 p2, f1.1 103 (by omega) (by omega)]
  have f_41_13 : I3 41 13 = I 41 13 := by rw [f2.1 41 (by omega), eb_run_41_13 p1]
  have f_110_0 : I3 110 0 = I 110 0 := by rw [ek_run_110_0 p2, f1.1 110 (by omega) (by omega)]
  have f_55_13 : I3 55 13 = I 55 13 := by rw [f2.1 55 (by omega), eb_run_55_13 p1]
  have f_110_1 : I3 110 1 = I 110 1 := by rw [ek_run_110_1 p2, f1.1 110 (by omega) (by omega)]
  have f_43_r : I3 43 = I 43 := by rw [f2.1 43 (by omega), eb_run_43_r p1]
  have f_44_r : I3 44 = I 44 := by rw [f2.1 44 (by omega), eb_run_44_r p1]
  have f_57_r : I3 57 = I 57 := by rw [f2.1 57 (by omega), eb_run_57_r p1]
  have f_58_r : I3 58 = I 58 := by rw [f2.1 58 (by omega), eb_run_58_r p1]
  have f_111_r : I3 111 = I 111 := by rw [ek_run_111_r p2, f1.1 111 (by omega) (by omega)]
  have f_112_r : I3 112 = I 112 := by rw [ek_run_112_r p2, f1.1 112 (by omega) (by omega)]
  exact ⟨(by rw [f_33_7, f_103_1]; exact hr.1), (by rw [f_41_13, f_110_0]; exact hr.2.1), (by rw [f_55_13, f_110_1]; exact hr.2.2.1), (by rw [f_41_13, f_55_13, f_43_r, f_44_r, f_57_r, f_58_r, f_111_r, f_112_r]; exact hr.2.2.2)⟩

theorem rel.meeting {v0 v1 v2 v3 v4 v5 : Int32} {x y : Int32} {n : Nat} {I I2 I3 : px_I} {L L2 L3 : px_L} {R : px_R} (hj : jJ n I R) (hr : rel I L) (f1 : frB I I2 L L2) (p1 : pb_meeting v0 v1 v2 v3 v4 v5 I L x I2 L2) (f2 : frK I2 I3 L2 L3) (p2 : pk_meeting v0 v1 v2 v3 v4 v5 I2 L2 y I3 L3) : rel I3 L3 := by
  have f_33_7 : I3 33 7 = I 33 7 := by rw [f2.1 33 (by omega), eb_meeting_33_7 p1]
  have f_103_1 : I3 103 1 = I 103 1 := by rw [ek_meeting_103_1 p2, f1.1 103 (by omega) (by omega)]
  have f_41_13 : I3 41 13 = I 41 13 := by rw [f2.1 41 (by omega), eb_meeting_41_13 p1]
  have f_110_0 : I3 110 0 = I 110 0 := by rw [ek_meeting_110_0 p2, f1.1 110 (by omega) (by omega)]
  have f_55_13 : I3 55 13 = I 55 13 := by rw [f2.1 55 (by omega), eb_meeting_55_13 p1]
  have f_110_1 : I3 110 1 = I 110 1 := by rw [ek_meeting_110_1 p2, f1.1 110 (by omega) (by omega)]
  have f_43_r : I3 43 = I 43 := by rw [f2.1 43 (by omega), eb_meeting_43_r p1]
  have f_44_r : I3 44 = I 44 := by rw [f2.1 44 (by omega), eb_meeting_44_r p1]
  have f_57_r : I3 57 = I 57 := by rw [f2.1 57 (by omega), eb_meeting_57_r p1]
  have f_58_r : I3 58 = I 58 := by rw [f2.1 58 (by omega), eb_meeting_58_r p1]
  have f_111_r : I3 111 = I 111 := by rw [ek_meeting_111_r p2, f1.1 111 (by omega) (by omega)]
  have f_112_r : I3 112 = I 112 := by rw [ek_meeting_112_r p2, f1.1 112 (by omega) (by omega)]
  exact ⟨(by rw [f_33_7, f_103_1]; exact hr.1), (by rw [f_41_13, f_110_0]; exact hr.2.1), (by rw [f_55_13, f_110_1]; exact hr.2.2.1), (by rw [f_41_13, f_55_13, f_43_r, f_44_r, f_57_r, f_58_r, f_111_r, f_112_r]; exact hr.2.2.2)⟩

theorem rel.there {v0 v1 v2 : Int32} {x y : Int32} {n : Nat} {I I2 I3 : px_I} {L L2 L3 : px_L} {R : px_R} (hj : jJ n I R) (hr : rel I L) (f1 : frB I I2 L L2) (p1 : pb_there v0 v1 v2 I L x I2 L2) (f2 : frK I2 I3 L2 L3) (p2 : pk_there v0 v1 v2 I2 L2 y I3 L3) : rel I3 L3 := by
  have f_33_7 : I3 33 7 = I 33 7 := by rw [f2.1 33 (by omega), eb_there_33_7 p1]
  have f_103_1 : I3 103 1 = I 103 1 := by rw [ek_there_103_1 p2, f1.1 103 (by omega) (by omega)]
  have f_41_13 : I3 41 13 = I 41 13 := by rw [f2.1 41 (by omega), eb_there_41_13 p1]
  have f_110_0 : I3 110 0 = I 110 0 := by rw [ek_there_110_0 p2, f1.1 110 (by omega) (by omega)]
  have f_55_13 : I3 55 13 = I 55 13 := by rw [f2.1 55 (by omega), eb_there_55_13 p1]
  have f_110_1 : I3 110 1 = I 110 1 := by rw [ek_there_110_1 p2, f1.1 110 (by omega) (by omega)]
  have f_43_r : I3 43 = I 43 := by rw [f2.1 43 (by omega), eb_there_43_r p1]
  have f_44_r : I3 44 = I 44 := by rw [f2.1 44 (by omega), eb_there_44_r p1]
  have f_57_r : I3 57 = I 57 := by rw [f2.1 57 (by omega), eb_there_57_r p1]
  have f_58_r : I3 58 = I 58 := by rw [f2.1 58 (by omega), eb_there_58_r p1]
  have f_111_r : I3 111 = I 111 := by rw [ek_there_111_r p2, f1.1 111 (by omega) (by omega)]
  have f_112_r : I3 112 = I 112 := by rw [ek_there_112_r p2, f1.1 112 (by omega) (by omega)]
  exact ⟨(by rw [f_33_7, f_103_1]; exact hr.1), (by rw [f_41_13, f_110_0]; exact hr.2.1), (by rw [f_55_13, f_110_1]; exact hr.2.2.1), (by rw [f_41_13, f_55_13, f_43_r, f_44_r, f_57_r, f_58_r, f_111_r, f_112_r]; exact hr.2.2.2)⟩

theorem rel.fits {v0 v1 v2 v3 : Int32} {x y : Int32} {n : Nat} {I I2 I3 : px_I} {L L2 L3 : px_L} {R : px_R} (hj : jJ n I R) (hr : rel I L) (f1 : frB I I2 L L2) (p1 : pb_fits v0 v1 v2 v3 I L x I2 L2) (f2 : frK I2 I3 L2 L3) (p2 : pk_fits v0 v1 v2 v3 I2 L2 y I3 L3) : rel I3 L3 := by
  have f_33_7 : I3 33 7 = I 33 7 := by rw [f2.1 33 (by omega), eb_fits_33_7 p1]
  have f_103_1 : I3 103 1 = I 103 1 := by rw [ek_fits_103_1 p2, f1.1 103 (by omega) (by omega)]
  have f_41_13 : I3 41 13 = I 41 13 := by rw [f2.1 41 (by omega), eb_fits_41_13 p1]
  have f_110_0 : I3 110 0 = I 110 0 := by rw [ek_fits_110_0 p2, f1.1 110 (by omega) (by omega)]
  have f_55_13 : I3 55 13 = I 55 13 := by rw [f2.1 55 (by omega), eb_fits_55_13 p1]
  have f_110_1 : I3 110 1 = I 110 1 := by rw [ek_fits_110_1 p2, f1.1 110 (by omega) (by omega)]
  have f_43_r : I3 43 = I 43 := by rw [f2.1 43 (by omega), eb_fits_43_r p1]
  have f_44_r : I3 44 = I 44 := by rw [f2.1 44 (by omega), eb_fits_44_r p1]
  have f_57_r : I3 57 = I 57 := by rw [f2.1 57 (by omega), eb_fits_57_r p1]
  have f_58_r : I3 58 = I 58 := by rw [f2.1 58 (by omega), eb_fits_58_r p1]
  have f_111_r : I3 111 = I 111 := by rw [ek_fits_111_r p2, f1.1 111 (by omega) (by omega)]
  have f_112_r : I3 112 = I 112 := by rw [ek_fits_112_r p2, f1.1 112 (by omega) (by omega)]
  exact ⟨(by rw [f_33_7, f_103_1]; exact hr.1), (by rw [f_41_13, f_110_0]; exact hr.2.1), (by rw [f_55_13, f_110_1]; exact hr.2.2.1), (by rw [f_41_13, f_55_13, f_43_r, f_44_r, f_57_r, f_58_r, f_111_r, f_112_r]; exact hr.2.2.2)⟩

theorem rel.ways {v0 v1 v2 v3 v4 : Int32} {x y : Int32} {n : Nat} {I I2 I3 : px_I} {L L2 L3 : px_L} {R : px_R} (hj : jJ n I R) (hr : rel I L) (f1 : frB I I2 L L2) (p1 : pb_ways v0 v1 v2 v3 v4 I L x I2 L2) (f2 : frK I2 I3 L2 L3) (p2 : pk_ways v0 v1 v2 v3 v4 I2 L2 y I3 L3) : rel I3 L3 := by
  have f_33_7 : I3 33 7 = I 33 7 := by rw [f2.1 33 (by omega), eb_ways_33_7 p1]
  have f_103_1 : I3 103 1 = I 103 1 := by rw [ek_ways_103_1 p2, f1.1 103 (by omega) (by omega)]
  have f_41_13 : I3 41 13 = I 41 13 := by rw [f2.1 41 (by omega), eb_ways_41_13 p1]
  have f_110_0 : I3 110 0 = I 110 0 := by rw [ek_ways_110_0 p2, f1.1 110 (by omega) (by omega)]
  have f_55_13 : I3 55 13 = I 55 13 := by rw [f2.1 55 (by omega), eb_ways_55_13 p1]
  have f_110_1 : I3 110 1 = I 110 1 := by rw [ek_ways_110_1 p2, f1.1 110 (by omega) (by omega)]
  have f_43_r : I3 43 = I 43 := by rw [f2.1 43 (by omega), eb_ways_43_r p1]
  have f_44_r : I3 44 = I 44 := by rw [f2.1 44 (by omega), eb_ways_44_r p1]
  have f_57_r : I3 57 = I 57 := by rw [f2.1 57 (by omega), eb_ways_57_r p1]
  have f_58_r : I3 58 = I 58 := by rw [f2.1 58 (by omega), eb_ways_58_r p1]
  have f_111_r : I3 111 = I 111 := by rw [ek_ways_111_r p2, f1.1 111 (by omega) (by omega)]
  have f_112_r : I3 112 = I 112 := by rw [ek_ways_112_r p2, f1.1 112 (by omega) (by omega)]
  exact ⟨(by rw [f_33_7, f_103_1]; exact hr.1), (by rw [f_41_13, f_110_0]; exact hr.2.1), (by rw [f_55_13, f_110_1]; exact hr.2.2.1), (by rw [f_41_13, f_55_13, f_43_r, f_44_r, f_57_r, f_58_r, f_111_r, f_112_r]; exact hr.2.2.2)⟩

theorem rel.seek {v0 v1 v2 v3 v4 v5 : Int32} {x y : Int32} {n : Nat} {I I2 I3 : px_I} {L L2 L3 : px_L} {R : px_R} (hj : jJ n I R) (hr : rel I L) (f1 : frB I I2 L L2) (p1 : pb_seek v0 v1 v2 v3 v4 v5 I L x I2 L2) (f2 : frK I2 I3 L2 L3) (p2 : pk_seek v0 v1 v2 v3 v4 v5 I2 L2 y I3 L3) : rel I3 L3 := by
  have f_33_7 : I3 33 7 = I 33 7 := by rw [f2.1 33 (by omega), eb_seek_33_7 p1]
  have f_103_1 : I3 103 1 = I 103 1 := by rw [ek_seek_103_1 p2, f1.1 103 (by omega) (by omega)]
  have f_41_13 : I3 41 13 = I 41 13 := by rw [f2.1 41 (by omega), eb_seek_41_13 p1]
  have f_110_0 : I3 110 0 = I 110 0 := by rw [ek_seek_110_0 p2, f1.1 110 (by omega) (by omega)]
  have f_55_13 : I3 55 13 = I 55 13 := by rw [f2.1 55 (by omega), eb_seek_55_13 p1]
  have f_110_1 : I3 110 1 = I 110 1 := by rw [ek_seek_110_1 p2, f1.1 110 (by omega) (by omega)]
  have f_43_r : I3 43 = I 43 := by rw [f2.1 43 (by omega), eb_seek_43_r p1]
  have f_44_r : I3 44 = I 44 := by rw [f2.1 44 (by omega), eb_seek_44_r p1]
  have f_57_r : I3 57 = I 57 := by rw [f2.1 57 (by omega), eb_seek_57_r p1]
  have f_58_r : I3 58 = I 58 := by rw [f2.1 58 (by omega), eb_seek_58_r p1]
  have f_111_r : I3 111 = I 111 := by rw [ek_seek_111_r p2, f1.1 111 (by omega) (by omega)]
  have f_112_r : I3 112 = I 112 := by rw [ek_seek_112_r p2, f1.1 112 (by omega) (by omega)]
  exact ⟨(by rw [f_33_7, f_103_1]; exact hr.1), (by rw [f_41_13, f_110_0]; exact hr.2.1), (by rw [f_55_13, f_110_1]; exact hr.2.2.1), (by rw [f_41_13, f_55_13, f_43_r, f_44_r, f_57_r, f_58_r, f_111_r, f_112_r]; exact hr.2.2.2)⟩

theorem rel.chance {n : Nat} {I I2 I3 : px_I} {L L2 L3 : px_L} {R : px_R} (hj : jJ n I R) (hr : rel I L) (f1 : frB I I2 L L2) (p1 : I2 = I ∧ cSL L L2) (f2 : frK I2 I3 L2 L3) (p2 : I3 = I2 ∧ mNL L2 L3) : rel I3 L3 := by
  have f_33_7 : I3 33 7 = I 33 7 := by rw [f2.1 33 (by omega), p1.1]
  have f_103_1 : I3 103 1 = I 103 1 := by rw [p2.1, f1.1 103 (by omega) (by omega)]
  have f_41_13 : I3 41 13 = I 41 13 := by rw [f2.1 41 (by omega), p1.1]
  have f_110_0 : I3 110 0 = I 110 0 := by rw [p2.1, f1.1 110 (by omega) (by omega)]
  have f_55_13 : I3 55 13 = I 55 13 := by rw [f2.1 55 (by omega), p1.1]
  have f_110_1 : I3 110 1 = I 110 1 := by rw [p2.1, f1.1 110 (by omega) (by omega)]
  have f_43_r : I3 43 = I 43 := by rw [f2.1 43 (by omega), p1.1]
  have f_44_r : I3 44 = I 44 := by rw [f2.1 44 (by omega), p1.1]
  have f_57_r : I3 57 = I 57 := by rw [f2.1 57 (by omega), p1.1]
  have f_58_r : I3 58 = I 58 := by rw [f2.1 58 (by omega), p1.1]
  have f_111_r : I3 111 = I 111 := by rw [p2.1, f1.1 111 (by omega) (by omega)]
  have f_112_r : I3 112 = I 112 := by rw [p2.1, f1.1 112 (by omega) (by omega)]
  exact ⟨(by rw [f_33_7, f_103_1]; exact hr.1), (by rw [f_41_13, f_110_0]; exact hr.2.1), (by rw [f_55_13, f_110_1]; exact hr.2.2.1), (by rw [f_41_13, f_55_13, f_43_r, f_44_r, f_57_r, f_58_r, f_111_r, f_112_r]; exact hr.2.2.2)⟩

theorem rel.detour {v0 v1 v2 : Int32} {x y : Int32} {n : Nat} {I I2 I3 : px_I} {L L2 L3 : px_L} {R : px_R} (hj : jJ n I R) (hr : rel I L) (f1 : frB I I2 L L2) (p1 : pb_detour v0 v1 v2 I L x I2 L2) (f2 : frK I2 I3 L2 L3) (p2 : pk_detour v0 v1 v2 I2 L2 y I3 L3) : rel I3 L3 := by
  have f_33_7 : I3 33 7 = I 33 7 := by rw [f2.1 33 (by omega), eb_detour_33_7 p1]
  have f_103_1 : I3 103 1 = I 103 1 := by rw [ek_detour_103_1 p2, f1.1 103 (by omega) (by omega)]
  have f_41_13 : I3 41 13 = I 41 13 := by rw [f2.1 41 (by omega), eb_detour_41_13 p1]
  have f_110_0 : I3 110 0 = I 110 0 := by rw [ek_detour_110_0 p2, f1.1 110 (by omega) (by omega)]
  have f_55_13 : I3 55 13 = I 55 13 := by rw [f2.1 55 (by omega), eb_detour_55_13 p1]
  have f_110_1 : I3 110 1 = I 110 1 := by rw [ek_detour_110_1 p2, f1.1 110 (by omega) (by omega)]
  have f_43_r : I3 43 = I 43 := by rw [f2.1 43 (by omega), eb_detour_43_r p1]
  have f_44_r : I3 44 = I 44 := by rw [f2.1 44 (by omega), eb_detour_44_r p1]
  have f_57_r : I3 57 = I 57 := by rw [f2.1 57 (by omega), eb_detour_57_r p1]
  have f_58_r : I3 58 = I 58 := by rw [f2.1 58 (by omega), eb_detour_58_r p1]
  have f_111_r : I3 111 = I 111 := by rw [ek_detour_111_r p2, f1.1 111 (by omega) (by omega)]
  have f_112_r : I3 112 = I 112 := by rw [ek_detour_112_r p2, f1.1 112 (by omega) (by omega)]
  exact ⟨(by rw [f_33_7, f_103_1]; exact hr.1), (by rw [f_41_13, f_110_0]; exact hr.2.1), (by rw [f_55_13, f_110_1]; exact hr.2.2.1), (by rw [f_41_13, f_55_13, f_43_r, f_44_r, f_57_r, f_58_r, f_111_r, f_112_r]; exact hr.2.2.2)⟩

theorem rel.table {v0 v1 : Int32} {x y : Int32} {n : Nat} {I I2 I3 : px_I} {L L2 L3 : px_L} {R : px_R} (hj : jJ n I R) (hr : rel I L) (f1 : frB I I2 L L2) (p1 : pb_table v0 v1 I L x I2 L2) (f2 : frK I2 I3 L2 L3) (p2 : pk_table v0 v1 I2 L2 y I3 L3) : rel I3 L3 := by
  have f_33_7 : I3 33 7 = I 33 7 := by rw [f2.1 33 (by omega), eb_table_33_7 p1]
  have f_103_1 : I3 103 1 = I 103 1 := by rw [ek_table_103_1 p2, f1.1 103 (by omega) (by omega)]
  have f_41_13 : I3 41 13 = I 41 13 := by rw [f2.1 41 (by omega), eb_table_41_13 p1]
  have f_110_0 : I3 110 0 = I 110 0 := by rw [ek_table_110_0 p2, f1.1 110 (by omega) (by omega)]
  have f_55_13 : I3 55 13 = I 55 13 := by rw [f2.1 55 (by omega), eb_table_55_13 p1]
  have f_110_1 : I3 110 1 = I 110 1 := by rw [ek_table_110_1 p2, f1.1 110 (by omega) (by omega)]
  have f_43_r : I3 43 = I 43 := by rw [f2.1 43 (by omega), eb_table_43_r p1]
  have f_44_r : I3 44 = I 44 := by rw [f2.1 44 (by omega), eb_table_44_r p1]
  have f_57_r : I3 57 = I 57 := by rw [f2.1 57 (by omega), eb_table_57_r p1]
  have f_58_r : I3 58 = I 58 := by rw [f2.1 58 (by omega), eb_table_58_r p1]
  have f_111_r : I3 111 = I 111 := by rw [ek_table_111_r p2, f1.1 111 (by omega) (by omega)]
  have f_112_r : I3 112 = I 112 := by rw [ek_table_112_r p2, f1.1 112 (by omega) (by omega)]
  exact ⟨(by rw [f_33_7, f_103_1]; exact hr.1), (by rw [f_41_13, f_110_0]; exact hr.2.1), (by rw [f_55_13, f_110_1]; exact hr.2.2.1), (by rw [f_41_13, f_55_13, f_43_r, f_44_r, f_57_r, f_58_r, f_111_r, f_112_r]; exact hr.2.2.2)⟩

theorem rel.repair {v0 v1 v2 : Int32} {x y : Int32} {n : Nat} {I I2 I3 : px_I} {L L2 L3 : px_L} {R : px_R} (hj : jJ n I R) (hr : rel I L) (f1 : frB I I2 L L2) (p1 : pb_repair v0 v1 v2 I L x I2 L2) (f2 : frK I2 I3 L2 L3) (p2 : pk_repair v0 v1 v2 I2 L2 y I3 L3) : rel I3 L3 := by
  have f_33_7 : I3 33 7 = I 33 7 := by rw [f2.1 33 (by omega), eb_repair_33_7 p1]
  have f_103_1 : I3 103 1 = I 103 1 := by rw [ek_repair_103_1 p2, f1.1 103 (by omega) (by omega)]
  have f_41_13 : I3 41 13 = I 41 13 := by rw [f2.1 41 (by omega), eb_repair_41_13 p1]
  have f_110_0 : I3 110 0 = I 110 0 := by rw [ek_repair_110_0 p2, f1.1 110 (by omega) (by omega)]
  have f_55_13 : I3 55 13 = I 55 13 := by rw [f2.1 55 (by omega), eb_repair_55_13 p1]
  have f_110_1 : I3 110 1 = I 110 1 := by rw [ek_repair_110_1 p2, f1.1 110 (by omega) (by omega)]
  have f_43_r : I3 43 = I 43 := by rw [f2.1 43 (by omega), eb_repair_43_r p1]
  have f_44_r : I3 44 = I 44 := by rw [f2.1 44 (by omega), eb_repair_44_r p1]
  have f_57_r : I3 57 = I 57 := by rw [f2.1 57 (by omega), eb_repair_57_r p1]
  have f_58_r : I3 58 = I 58 := by rw [f2.1 58 (by omega), eb_repair_58_r p1]
  have f_111_r : I3 111 = I 111 := by rw [ek_repair_111_r p2, f1.1 111 (by omega) (by omega)]
  have f_112_r : I3 112 = I 112 := by rw [ek_repair_112_r p2, f1.1 112 (by omega) (by omega)]
  exact ⟨(by rw [f_33_7, f_103_1]; exact hr.1), (by rw [f_41_13, f_110_0]; exact hr.2.1), (by rw [f_55_13, f_110_1]; exact hr.2.2.1), (by rw [f_41_13, f_55_13, f_43_r, f_44_r, f_57_r, f_58_r, f_111_r, f_112_r]; exact hr.2.2.2)⟩

theorem rel.lime {v0 : Int32} {x y : Int32} {n : Nat} {I I2 I3 : px_I} {L L2 L3 : px_L} {R : px_R} (hj : jJ n I R) (hr : rel I L) (f1 : frB I I2 L L2) (p1 : pb_lime v0 I L x I2 L2) (f2 : frK I2 I3 L2 L3) (p2 : pk_lime v0 I2 L2 y I3 L3) : rel I3 L3 := by
  have f_33_7 : I3 33 7 = I 33 7 := by rw [f2.1 33 (by omega), eb_lime_33_7 p1]
  have f_103_1 : I3 103 1 = I 103 1 := by rw [ek_lime_103_1 p2, f1.1 103 (by omega) (by omega)]
  have f_41_13 : I3 41 13 = I 41 13 := by rw [f2.1 41 (by omega), eb_lime_41_13 p1]
  have f_110_0 : I3 110 0 = I 110 0 := by rw [ek_lime_110_0 p2, f1.1 110 (by omega) (by omega)]
  have f_55_13 : I3 55 13 = I 55 13 := by rw [f2.1 55 (by omega), eb_lime_55_13 p1]
  have f_110_1 : I3 110 1 = I 110 1 := by rw [ek_lime_110_1 p2, f1.1 110 (by omega) (by omega)]
  have f_43_r : I3 43 = I 43 := by rw [f2.1 43 (by omega), eb_lime_43_r p1]
  have f_44_r : I3 44 = I 44 := by rw [f2.1 44 (by omega), eb_lime_44_r p1]
  have f_57_r : I3 57 = I 57 := by rw [f2.1 57 (by omega), eb_lime_57_r p1]
  have f_58_r : I3 58 = I 58 := by rw [f2.1 58 (by omega), eb_lime_58_r p1]
  have f_111_r : I3 111 = I 111 := by rw [ek_lime_111_r p2, f1.1 111 (by omega) (by omega)]
  have f_112_r : I3 112 = I 112 := by rw [ek_lime_112_r p2, f1.1 112 (by omega) (by omega)]
  exact ⟨(by rw [f_33_7, f_103_1]; exact hr.1), (by rw [f_41_13, f_110_0]; exact hr.2.1), (by rw [f_55_13, f_110_1]; exact hr.2.2.1), (by rw [f_41_13, f_55_13, f_43_r, f_44_r, f_57_r, f_58_r, f_111_r, f_112_r]; exact hr.2.2.2)⟩

theorem rel.flow {v0 v1 v2 v3 : Int32} {x y : Int32} {n : Nat} {I I2 I3 : px_I} {L L2 L3 : px_L} {R : px_R} (hj : jJ n I R) (hr : rel I L) (f1 : frB I I2 L L2) (p1 : pb_flow v0 v1 v2 v3 I L x I2 L2) (f2 : frK I2 I3 L2 L3) (p2 : pk_flow v0 v1 v2 v3 I2 L2 y I3 L3) : rel I3 L3 := by
  have f_33_7 : I3 33 7 = I 33 7 := by rw [f2.1 33 (by omega), eb_flow_33_7 p1]
  have f_103_1 : I3 103 1 = I 103 1 := by rw [ek_flow_103_1 p2, f1.1 103 (by omega) (by omega)]
  have f_41_13 : I3 41 13 = I 41 13 := by rw [f2.1 41 (by omega), eb_flow_41_13 p1]
  have f_110_0 : I3 110 0 = I 110 0 := by rw [ek_flow_110_0 p2, f1.1 110 (by omega) (by omega)]
  have f_55_13 : I3 55 13 = I 55 13 := by rw [f2.1 55 (by omega), eb_flow_55_13 p1]
  have f_110_1 : I3 110 1 = I 110 1 := by rw [ek_flow_110_1 p2, f1.1 110 (by omega) (by omega)]
  have f_43_r : I3 43 = I 43 := by rw [f2.1 43 (by omega), eb_flow_43_r p1]
  have f_44_r : I3 44 = I 44 := by rw [f2.1 44 (by omega), eb_flow_44_r p1]
  have f_57_r : I3 57 = I 57 := by rw [f2.1 57 (by omega), eb_flow_57_r p1]
  have f_58_r : I3 58 = I 58 := by rw [f2.1 58 (by omega), eb_flow_58_r p1]
  have f_111_r : I3 111 = I 111 := by rw [ek_flow_111_r p2, f1.1 111 (by omega) (by omega)]
  have f_112_r : I3 112 = I 112 := by rw [ek_flow_112_r p2, f1.1 112 (by omega) (by omega)]
  exact ⟨(by rw [f_33_7, f_103_1]; exact hr.1), (by rw [f_41_13, f_110_0]; exact hr.2.1), (by rw [f_55_13, f_110_1]; exact hr.2.2.1), (by rw [f_41_13, f_55_13, f_43_r, f_44_r, f_57_r, f_58_r, f_111_r, f_112_r]; exact hr.2.2.2)⟩

theorem rel.narrow {v0 v1 v2 : Int32} {x y : Int32} {n : Nat} {I I2 I3 : px_I} {L L2 L3 : px_L} {R : px_R} (hj : jJ n I R) (hr : rel I L) (f1 : frB I I2 L L2) (p1 : pb_narrow v0 v1 v2 I L x I2 L2) (f2 : frK I2 I3 L2 L3) (p2 : pk_narrow v0 v1 v2 I2 L2 y I3 L3) : rel I3 L3 := by
  have f_33_7 : I3 33 7 = I 33 7 := by rw [f2.1 33 (by omega), eb_narrow_33_7 p1]
  have f_103_1 : I3 103 1 = I 103 1 := by rw [ek_narrow_103_1 p2, f1.1 103 (by omega) (by omega)]
  have f_41_13 : I3 41 13 = I 41 13 := by rw [f2.1 41 (by omega), eb_narrow_41_13 p1]
  have f_110_0 : I3 110 0 = I 110 0 := by rw [ek_narrow_110_0 p2, f1.1 110 (by omega) (by omega)]
  have f_55_13 : I3 55 13 = I 55 13 := by rw [f2.1 55 (by omega), eb_narrow_55_13 p1]
  have f_110_1 : I3 110 1 = I 110 1 := by rw [ek_narrow_110_1 p2, f1.1 110 (by omega) (by omega)]
  have f_43_r : I3 43 = I 43 := by rw [f2.1 43 (by omega), eb_narrow_43_r p1]
  have f_44_r : I3 44 = I 44 := by rw [f2.1 44 (by omega), eb_narrow_44_r p1]
  have f_57_r : I3 57 = I 57 := by rw [f2.1 57 (by omega), eb_narrow_57_r p1]
  have f_58_r : I3 58 = I 58 := by rw [f2.1 58 (by omega), eb_narrow_58_r p1]
  have f_111_r : I3 111 = I 111 := by rw [ek_narrow_111_r p2, f1.1 111 (by omega) (by omega)]
  have f_112_r : I3 112 = I 112 := by rw [ek_narrow_112_r p2, f1.1 112 (by omega) (by omega)]
  exact ⟨(by rw [f_33_7, f_103_1]; exact hr.1), (by rw [f_41_13, f_110_0]; exact hr.2.1), (by rw [f_55_13, f_110_1]; exact hr.2.2.1), (by rw [f_41_13, f_55_13, f_43_r, f_44_r, f_57_r, f_58_r, f_111_r, f_112_r]; exact hr.2.2.2)⟩

theorem rel.about {v0 : Int32} {x y : Int32} {n : Nat} {I I2 I3 : px_I} {L L2 L3 : px_L} {R : px_R} (hj : jJ n I R) (hr : rel I L) (f1 : frB I I2 L L2) (p1 : pb_about v0 I L x I2 L2) (f2 : frK I2 I3 L2 L3) (p2 : pk_about v0 I2 L2 y I3 L3) : rel I3 L3 := by
  have f_33_7 : I3 33 7 = I 33 7 := by rw [f2.1 33 (by omega), eb_about_33_7 p1]
  have f_103_1 : I3 103 1 = I 103 1 := by rw [ek_about_103_1 p2, f1.1 103 (by omega) (by omega)]
  have f_41_13 : I3 41 13 = I 41 13 := by rw [f2.1 41 (by omega), eb_about_41_13 p1]
  have f_110_0 : I3 110 0 = I 110 0 := by rw [ek_about_110_0 p2, f1.1 110 (by omega) (by omega)]
  have f_55_13 : I3 55 13 = I 55 13 := by rw [f2.1 55 (by omega), eb_about_55_13 p1]
  have f_110_1 : I3 110 1 = I 110 1 := by rw [ek_about_110_1 p2, f1.1 110 (by omega) (by omega)]
  have f_43_r : I3 43 = I 43 := by rw [f2.1 43 (by omega), eb_about_43_r p1]
  have f_44_r : I3 44 = I 44 := by rw [f2.1 44 (by omega), eb_about_44_r p1]
  have f_57_r : I3 57 = I 57 := by rw [f2.1 57 (by omega), eb_about_57_r p1]
  have f_58_r : I3 58 = I 58 := by rw [f2.1 58 (by omega), eb_about_58_r p1]
  have f_111_r : I3 111 = I 111 := by rw [ek_about_111_r p2, f1.1 111 (by omega) (by omega)]
  have f_112_r : I3 112 = I 112 := by rw [ek_about_112_r p2, f1.1 112 (by omega) (by omega)]
  exact ⟨(by rw [f_33_7, f_103_1]; exact hr.1), (by rw [f_41_13, f_110_0]; exact hr.2.1), (by rw [f_55_13, f_110_1]; exact hr.2.2.1), (by rw [f_41_13, f_55_13, f_43_r, f_44_r, f_57_r, f_58_r, f_111_r, f_112_r]; exact hr.2.2.2)⟩
