/-! what agrees in both books -/

theorem px_n0 : (0 : Int32).toNatClampNeg = 0 := by decide
theorem px_n1 : (1 : Int32).toNatClampNeg = 1 := by decide
theorem px_01 {g : Int32} (h0 : 0 ≤ g) (h1 : g ≤ 1) : g = 0 ∨ g = 1 := by grind
theorem cReach_p {G : Nat} {I : px_I} {lo hi sl fa w st : Int32} : cReach G I lo hi sl fa w st G 13 = (if I G 13 = 0 then 1 else I G 13) + 1 := by
  unfold cReach cRch
  rw [px_u_ne (by omega), px_u_ne (by omega), px_u_ne (by omega), px_u_ne (by omega), px_u_ne (by omega), cPeg_13]
  split
  · rename_i h
    rw [cPeg_13, h]; rfl
  · rfl
theorem mReach_p {I : px_I} {g lo hi sl fa w st : Int32} : mReach I g lo hi sl fa w st 110 g.toNatClampNeg = mP0 I g + 1 := by unfold mReach; rw [px_u_at]
theorem mReach_q {I : px_I} {g lo hi sl fa w st : Int32} {k : Nat} (h : k ≠ g.toNatClampNeg) : mReach I g lo hi sl fa w st 110 k = I 110 k := by
  unfold mReach
  rw [px_u_at_ne h]
  repeat rw [px_u_ne (by omega)]
  rw [px_u_at_ne h]
theorem bG_01 {g : Int32} (h0 : 0 ≤ g) (h1 : g ≤ 1) : ∃ G, bG g G := by
  rcases px_01 h0 h1 with rfl | rfl
  · exact ⟨41, Or.inl ⟨rfl, rfl⟩⟩
  · exact ⟨55, Or.inr ⟨rfl, rfl⟩⟩
theorem bG_le {g : Int32} {G : Nat} (h : bG g G) : 0 ≤ g ∧ g ≤ 1 := by
  rcases h with ⟨rfl, rfl⟩ | ⟨rfl, rfl⟩ <;> decide

theorem px_d32 {a b : Int32} (h0 : 0 ≤ a.toInt) (h1 : 1 ≤ b.toInt) : (a / b).toInt = a.toInt / b.toInt := by
  rw [Int32.toInt_div, Int.tdiv_eq_ediv_of_nonneg h0]
  have h2 := Int.ediv_le_self b.toInt h0
  have h3 := Int.ediv_nonneg h0 (by omega : (0 : Int) ≤ b.toInt)
  have h4 := Int32.toInt_lt a
  exact Int.bmod_eq_of_le (by omega) (by omega)
theorem px_d64 {a b : Int64} (h0 : 0 ≤ a.toInt) (h1 : 1 ≤ b.toInt) : (a / b).toInt = a.toInt / b.toInt := by
  rw [Int64.toInt_div, Int.tdiv_eq_ediv_of_nonneg h0]
  have h2 := Int.ediv_le_self b.toInt h0
  have h3 := Int.ediv_nonneg h0 (by omega : (0 : Int) ≤ b.toInt)
  have h4 := Int64.toInt_lt a
  exact Int.bmod_eq_of_le (by omega) (by omega)
theorem px_lo32 {u lo : Int32} (hu : 1 ≤ u ∧ u ≤ 9999) (hl : 1 ≤ lo ∧ lo ≤ 2000000) : ((1000 * lo + u - 1) / u).toInt = (1000 * lo.toInt + u.toInt - 1) / u.toInt := by
  obtain ⟨u1, u2⟩ := hu; obtain ⟨l1, l2⟩ := hl
  rw [Int32.le_iff_toInt_le] at u1 u2 l1 l2
  rw [show (1 : Int32).toInt = 1 by decide] at u1 l1
  rw [show (9999 : Int32).toInt = 9999 by decide] at u2
  rw [show (2000000 : Int32).toInt = 2000000 by decide] at l2
  have e1 : (1000 * lo).toInt = 1000 * lo.toInt := by rw [Int32.toInt_mul, show (1000 : Int32).toInt = 1000 by decide]; exact Int.bmod_eq_of_le (by omega) (by omega)
  have e2 : (1000 * lo + u).toInt = 1000 * lo.toInt + u.toInt := by rw [Int32.toInt_add, e1]; exact Int.bmod_eq_of_le (by omega) (by omega)
  have e3 : (1000 * lo + u - 1).toInt = 1000 * lo.toInt + u.toInt - 1 := by rw [Int32.toInt_sub, e2, show (1 : Int32).toInt = 1 by decide]; exact Int.bmod_eq_of_le (by omega) (by omega)
  rw [px_d32 (by omega) (by omega), e3]
theorem px_lo64 {u lo : Int32} (hu : 1 ≤ u ∧ u ≤ 9999) (hl : 1 ≤ lo ∧ lo ≤ 2000000) : ((1000 * lo.toInt64 + u.toInt64 - 1) / u.toInt64).toInt = (1000 * lo.toInt + u.toInt - 1) / u.toInt := by
  obtain ⟨u1, u2⟩ := hu; obtain ⟨l1, l2⟩ := hl
  rw [Int32.le_iff_toInt_le] at u1 u2 l1 l2
  rw [show (1 : Int32).toInt = 1 by decide] at u1 l1
  rw [show (9999 : Int32).toInt = 9999 by decide] at u2
  rw [show (2000000 : Int32).toInt = 2000000 by decide] at l2
  have e0 : u.toInt64.toInt = u.toInt := Int32.toInt_toInt64 u
  have e1 : (1000 * lo.toInt64).toInt = 1000 * lo.toInt := by rw [Int64.toInt_mul, Int32.toInt_toInt64, show (1000 : Int64).toInt = 1000 by decide]; exact Int.bmod_eq_of_le (by omega) (by omega)
  have e2 : (1000 * lo.toInt64 + u.toInt64).toInt = 1000 * lo.toInt + u.toInt := by rw [Int64.toInt_add, e1, e0]; exact Int.bmod_eq_of_le (by omega) (by omega)
  have e3 : (1000 * lo.toInt64 + u.toInt64 - 1).toInt = 1000 * lo.toInt + u.toInt - 1 := by rw [Int64.toInt_sub, e2, show (1 : Int64).toInt = 1 by decide]; exact Int.bmod_eq_of_le (by omega) (by omega)
  rw [px_d64 (by omega) (by omega), e3, e0]
theorem px_hi32 {u hi : Int32} (hu : 1 ≤ u ∧ u ≤ 9999) (hl : 1 ≤ hi ∧ hi ≤ 2000000) : (1000 * hi / u).toInt = 1000 * hi.toInt / u.toInt := by
  obtain ⟨u1, u2⟩ := hu; obtain ⟨l1, l2⟩ := hl
  rw [Int32.le_iff_toInt_le] at u1 u2 l1 l2
  rw [show (1 : Int32).toInt = 1 by decide] at u1 l1
  rw [show (2000000 : Int32).toInt = 2000000 by decide] at l2
  have e1 : (1000 * hi).toInt = 1000 * hi.toInt := by rw [Int32.toInt_mul, show (1000 : Int32).toInt = 1000 by decide]; exact Int.bmod_eq_of_le (by omega) (by omega)
  rw [px_d32 (by omega) (by omega), e1]
theorem px_hi64 {u hi : Int32} (hu : 1 ≤ u ∧ u ≤ 9999) (hl : 1 ≤ hi ∧ hi ≤ 2000000) : (1000 * hi.toInt64 / u.toInt64).toInt = 1000 * hi.toInt / u.toInt := by
  obtain ⟨u1, u2⟩ := hu; obtain ⟨l1, l2⟩ := hl
  rw [Int32.le_iff_toInt_le] at u1 u2 l1 l2
  rw [show (1 : Int32).toInt = 1 by decide] at u1 l1
  rw [show (2000000 : Int32).toInt = 2000000 by decide] at l2
  have e0 : u.toInt64.toInt = u.toInt := Int32.toInt_toInt64 u
  have e1 : (1000 * hi.toInt64).toInt = 1000 * hi.toInt := by rw [Int64.toInt_mul, Int32.toInt_toInt64, show (1000 : Int64).toInt = 1000 by decide]; exact Int.bmod_eq_of_le (by omega) (by omega)
  rw [px_d64 (by omega) (by omega), e1, e0]
theorem px_lob {u lo : Int32} (hu : 1 ≤ u ∧ u ≤ 9999) (hl : 1 ≤ lo ∧ lo ≤ 2000000) : 1 ≤ (1000 * lo.toInt + u.toInt - 1) / u.toInt ∧ (1000 * lo.toInt + u.toInt - 1) / u.toInt ≤ 2000009998 := by
  obtain ⟨u1, u2⟩ := hu; obtain ⟨l1, l2⟩ := hl
  rw [Int32.le_iff_toInt_le] at u1 u2 l1 l2
  rw [show (1 : Int32).toInt = 1 by decide] at u1 l1
  rw [show (9999 : Int32).toInt = 9999 by decide] at u2
  rw [show (2000000 : Int32).toInt = 2000000 by decide] at l2
  have h1 := Int.ediv_le_self (a := 1000 * lo.toInt + u.toInt - 1) u.toInt (by omega)
  exact ⟨(Int.le_ediv_iff_mul_le (by omega)).mpr (by omega), by omega⟩
theorem px_hib {u hi : Int32} (hu : 1 ≤ u ∧ u ≤ 9999) (hl : 1 ≤ hi ∧ hi ≤ 2000000) : 0 ≤ 1000 * hi.toInt / u.toInt ∧ 1000 * hi.toInt / u.toInt ≤ 2000000000 := by
  obtain ⟨u1, u2⟩ := hu; obtain ⟨l1, l2⟩ := hl
  rw [Int32.le_iff_toInt_le] at u1 u2 l1 l2
  rw [show (1 : Int32).toInt = 1 by decide] at u1 l1
  rw [show (2000000 : Int32).toInt = 2000000 by decide] at l2
  have h1 := Int.ediv_le_self (a := 1000 * hi.toInt) u.toInt (by omega)
  exact ⟨Int.ediv_nonneg (by omega) (by omega), by omega⟩
theorem px_lo {I I2 : px_I} {L : px_L} {u lo : Int32} (hu : 1 ≤ u ∧ u ≤ 9999) (hl : 1 ≤ lo ∧ lo ≤ 2000000) (h21 : I2 103 21 = I 69 0)
    (hn : 0 ≤ I 69 0) (h : (I 69 0 = 0 ∧ I 69 1 = 0) ∨ (I 69 0 ≠ 0 ∧ (L 103 22).toInt = (I 69 1).toInt)) : (mLo I2 L u lo).toInt = (cCf I u lo).toInt := by
  unfold mLo cCf
  have hb := px_lob hu hl
  rw [h21]
  rcases h with ⟨h1, h2⟩ | ⟨h1, h2⟩
  · rw [if_neg (by rw [h1]; exact fun q => absurd q.1 (by decide)), h2, if_pos (Int32.lt_iff_toInt_lt.mpr (by rw [px_lo32 hu hl, show (0 : Int32).toInt = 0 by decide]; omega)), px_lo64 hu hl, px_lo32 hu hl]
  · have hp : 0 < I 69 0 := by grind
    by_cases c : (1000 * lo.toInt64 + u.toInt64 - 1) / u.toInt64 < L 103 22
    · rw [if_pos ⟨hp, c⟩, if_neg (by rw [Int32.lt_iff_toInt_lt, px_lo32 hu hl]; rw [Int64.lt_iff_toInt_lt, px_lo64 hu hl] at c; omega)]
      exact h2
    · rw [if_neg (fun q => c q.2)]
      rw [Int64.lt_iff_toInt_lt, px_lo64 hu hl] at c
      split
      · rw [px_lo64 hu hl, px_lo32 hu hl]
      · rename_i c2
        rw [Int32.lt_iff_toInt_lt, px_lo32 hu hl] at c2
        rw [px_lo64 hu hl]; omega
theorem px_hi {I I2 : px_I} {L : px_L} {u hi : Int32} (hu : 1 ≤ u ∧ u ≤ 9999) (hl : 1 ≤ hi ∧ hi ≤ 2000000) (h21 : I2 103 21 = I 69 0)
    (hn : 0 ≤ I 69 0) (h : (I 69 0 = 0 ∧ I 69 2 = 2000000000) ∨ (I 69 0 ≠ 0 ∧ (L 103 23).toInt = (I 69 2).toInt)) : (mHi I2 L u hi).toInt = (cCt I u hi).toInt := by
  unfold mHi cCt
  have hb := px_hib hu hl
  rw [h21]
  rcases h with ⟨h1, h2⟩ | ⟨h1, h2⟩
  · rw [if_neg (by rw [h1]; exact fun q => absurd q.1 (by decide)), h2, px_hi64 hu hl]
    split
    · rw [px_hi32 hu hl]
    · rename_i c
      rw [Int32.lt_iff_toInt_lt, px_hi32 hu hl] at c
      rw [show (2000000000 : Int32).toInt = 2000000000 by decide] at c ⊢
      omega
  · have hp : 0 < I 69 0 := by grind
    by_cases c : L 103 23 < 1000 * hi.toInt64 / u.toInt64
    · rw [if_pos ⟨hp, c⟩, if_neg (by rw [Int32.lt_iff_toInt_lt, px_hi32 hu hl]; rw [Int64.lt_iff_toInt_lt, px_hi64 hu hl] at c; omega)]
      exact h2
    · rw [if_neg (fun q => c q.2)]
      rw [Int64.lt_iff_toInt_lt, px_hi64 hu hl] at c
      split
      · rw [px_hi64 hu hl, px_hi32 hu hl]
      · rename_i c2
        rw [Int32.lt_iff_toInt_lt, px_hi32 hu hl] at c2
        rw [px_hi64 hu hl]; omega
theorem px_cfb {I : px_I} {u lo : Int32} (hu : 1 ≤ u ∧ u ≤ 9999) (hl : 1 ≤ lo ∧ lo ≤ 2000000) (h : 0 ≤ I 69 1 ∧ I 69 1 ≤ 2000009998) : 0 ≤ cCf I u lo ∧ cCf I u lo ≤ 2000009998 := by
  have hb := px_lob hu hl
  unfold cCf
  split
  · rw [Int32.le_iff_toInt_le, Int32.le_iff_toInt_le, px_lo32 hu hl, show (0 : Int32).toInt = 0 by decide, show (2000009998 : Int32).toInt = 2000009998 by decide]; omega
  · exact h
theorem px_ctb {I : px_I} {u hi : Int32} (hu : 1 ≤ u ∧ u ≤ 9999) (hl : 1 ≤ hi ∧ hi ≤ 2000000) (h : 0 ≤ I 69 2 ∧ I 69 2 ≤ 2000000000) : 0 ≤ cCt I u hi ∧ cCt I u hi ≤ 2000000000 := by
  have hb := px_hib hu hl
  unfold cCt
  split
  · rw [Int32.le_iff_toInt_le, Int32.le_iff_toInt_le, px_hi32 hu hl, show (0 : Int32).toInt = 0 by decide, show (2000000000 : Int32).toInt = 2000000000 by decide]; omega
  · exact h
theorem px_32of {l : Int64} {v : Int32} (h : l.toInt = v.toInt) : l.toInt32 = v := by
  apply Int32.toInt_inj.mp
  have h1 := Int32.le_toInt v
  have h2 := Int32.toInt_lt v
  rw [Int64.toInt_toInt32, h]
  exact Int.bmod_eq_of_le (by omega) (by omega)

theorem eb_station_32_10 { x : Int32} {I I2 : px_I} {L L2 : px_L} (h : pb_station  I L x I2 L2) : I2 32 10 = I 32 10 := by
  unfold pb_station at h
  obtain ⟨rfl, h⟩ := h
  rcases h with ⟨a1, rfl, rfl⟩ | ⟨a1, rfl, rfl⟩
  · (repeat rw [px_u_out (by omega)])
  · rfl

theorem ek_station_103_0 { x : Int32} {I I2 : px_I} {L L2 : px_L} (h : pk_station  I L x I2 L2) : I2 103 0 = I 103 0 := by
  unfold pk_station at h
  obtain ⟨rfl, h⟩ := h
  rcases h with ⟨a1, rfl, rfl⟩ | ⟨a1, rfl, rfl⟩
  · (repeat rw [px_u_out (by omega)])
  · rfl

theorem eb_sight_32_10 {a f t lo hi x : Int32} {I I2 : px_I} {L L2 : px_L} (h : pb_sight a f t lo hi I L x I2 L2) : I2 32 10 = I 32 10 := by
  unfold pb_sight at h
  obtain ⟨rfl, h⟩ := h
  rcases h with ⟨a1, rfl, rfl⟩ | ⟨a1, rfl, rfl⟩
  · (repeat rw [px_u_out (by omega)])
  · rfl

theorem ek_sight_103_0 {a f t lo hi x : Int32} {I I2 : px_I} {L L2 : px_L} (h : pk_sight a f t lo hi I L x I2 L2) : I2 103 0 = I 103 0 := by
  unfold pk_sight at h
  obtain ⟨rfl, h⟩ := h
  rcases h with ⟨a1, rfl, rfl⟩ | ⟨a1, rfl, rfl⟩
  · (repeat rw [px_u_out (by omega)])
  · rfl

theorem eb_closed_32_10 {a k x : Int32} {I I2 : px_I} {L L2 : px_L} (h : pb_closed a k I L x I2 L2) : I2 32 10 = I 32 10 := by
  unfold pb_closed at h
  obtain ⟨rfl, h⟩ := h
  rfl

theorem ek_closed_103_0 {a k x : Int32} {I I2 : px_I} {L L2 : px_L} (h : pk_closed a k I L x I2 L2) : I2 103 0 = I 103 0 := by
  unfold pk_closed at h
  exact h.1 103 0 (by omega)

theorem eb_span_32_10 {a t k h x : Int32} {I I2 : px_I} {L L2 : px_L} (h : pb_span a t k h I L x I2 L2) : I2 32 10 = I 32 10 := by
  unfold pb_span at h
  obtain ⟨rfl, h⟩ := h
  rfl

theorem ek_span_103_0 {a t k h x : Int32} {I I2 : px_I} {L L2 : px_L} (h : pk_span a t k h I L x I2 L2) : I2 103 0 = I 103 0 := by
  unfold pk_span at h
  exact h.1 103 0 (by omega)

theorem eb_gap_32_10 {a f t k h x : Int32} {I I2 : px_I} {L L2 : px_L} (h : pb_gap a f t k h I L x I2 L2) : I2 32 10 = I 32 10 := by
  unfold pb_gap at h
  obtain ⟨rfl, h⟩ := h
  rfl

theorem ek_gap_103_0 {a f t k h x : Int32} {I I2 : px_I} {L L2 : px_L} (h : pk_gap a f t k h I L x I2 L2) : I2 103 0 = I 103 0 := by
  unfold pk_gap at h
  exact h.1 103 0 (by omega)

theorem eb_blamed_32_10 {a k i x : Int32} {I I2 : px_I} {L L2 : px_L} (h : pb_blamed a k i I L x I2 L2) : I2 32 10 = I 32 10 := by
  unfold pb_blamed at h
  obtain ⟨rfl, h⟩ := h
  rfl

theorem ek_blamed_103_0 {a k i x : Int32} {I I2 : px_I} {L L2 : px_L} (h : pk_blamed a k i I L x I2 L2) : I2 103 0 = I 103 0 := by
  unfold pk_blamed at h
  exact h.1 103 0 (by omega)

theorem eb_reach_32_10 {g lo hi sl fa w st x : Int32} {I I2 : px_I} {L L2 : px_L} (h : pb_reach g lo hi sl fa w st I L x I2 L2) : I2 32 10 = I 32 10 := by
  unfold pb_reach at h
  obtain ⟨rfl, h⟩ := h
  rcases h with ⟨G, ⟨g1, g2, g3⟩, rfl, rfl⟩ | ⟨a1, rfl, rfl⟩
  · have gG : G = 41 ∨ G = 55 := by unfold bG at g1; omega
    rw [cReach_o (by omega)]
  · rfl

theorem ek_reach_103_0 {g lo hi sl fa w st x : Int32} {I I2 : px_I} {L L2 : px_L} (h : pk_reach g lo hi sl fa w st I L x I2 L2) : I2 103 0 = I 103 0 := by
  unfold pk_reach at h
  obtain ⟨rfl, h⟩ := h
  rcases h with ⟨a1, rfl, rfl⟩ | ⟨a1, rfl, rfl⟩
  · unfold mReach; (repeat rw [px_u_out (by omega)])
  · rfl

theorem eb_mouth_32_10 {g st x : Int32} {I I2 : px_I} {L L2 : px_L} (h : pb_mouth g st I L x I2 L2) : I2 32 10 = I 32 10 := by
  unfold pb_mouth at h
  obtain ⟨rfl, h⟩ := h
  rcases h with ⟨G, g1, rfl⟩ | rfl
  · have gG : G = 41 ∨ G = 55 := by unfold bG at g1; omega
    (repeat rw [px_u_out (by omega)])
  · rfl

theorem ek_mouth_103_0 {g st x : Int32} {I I2 : px_I} {L L2 : px_L} (h : pk_mouth g st I L x I2 L2) : I2 103 0 = I 103 0 := by
  unfold pk_mouth at h
  obtain ⟨rfl, h⟩ := h
  rcases h with ⟨a1, a2, rfl, rfl⟩ | ⟨a1, rfl, rfl⟩
  · (repeat rw [px_u_out (by omega)])
  · rfl

theorem eb_mark_32_10 {g p f t x : Int32} {I I2 : px_I} {L L2 : px_L} (h : pb_mark g p f t I L x I2 L2) : I2 32 10 = I 32 10 := by
  unfold pb_mark at h
  obtain ⟨rfl, h⟩ := h
  rcases h with ⟨G, g1, rfl, rfl⟩ | ⟨a1, rfl, rfl⟩
  · have g2 := g1.1
    have gG : G = 41 ∨ G = 55 := by unfold bG at g2; omega
    unfold cMark; (repeat rw [px_u_out (by omega)])
  · rfl

theorem ek_mark_103_0 {g p f t x : Int32} {I I2 : px_I} {L L2 : px_L} (h : pk_mark g p f t I L x I2 L2) : I2 103 0 = I 103 0 := by
  unfold pk_mark at h
  obtain ⟨rfl, h⟩ := h
  rcases h with ⟨a1, rfl, rfl⟩ | ⟨a1, rfl, rfl⟩
  · unfold mMark; (repeat rw [px_u_out (by omega)])
  · rfl

theorem eb_when_32_10 {g p h x : Int32} {I I2 : px_I} {L L2 : px_L} (h : pb_when g p h I L x I2 L2) : I2 32 10 = I 32 10 := by
  unfold pb_when at h
  obtain ⟨rfl, h⟩ := h
  rw [h 32 (by decide) (by decide) (by decide) (by decide)]

theorem ek_when_103_0 {g p h x : Int32} {I I2 : px_I} {L L2 : px_L} (h : pk_when g p h I L x I2 L2) : I2 103 0 = I 103 0 := by
  unfold pk_when at h
  exact h.1 103 0 (by omega)

theorem eb_between_32_10 {g p q h x : Int32} {I I2 : px_I} {L L2 : px_L} (h : pb_between g p q h I L x I2 L2) : I2 32 10 = I 32 10 := by
  unfold pb_between at h
  obtain ⟨rfl, h⟩ := h
  rw [h 32 (by decide) (by decide) (by decide) (by decide)]

theorem ek_between_103_0 {g p t h x : Int32} {I I2 : px_I} {L L2 : px_L} (h : pk_between g p t h I L x I2 L2) : I2 103 0 = I 103 0 := by
  unfold pk_between at h
  exact h.1 103 0 (by omega)

theorem eb_lamps_32_10 {g p h lo hi x : Int32} {I I2 : px_I} {L L2 : px_L} (h : pb_lamps g p h lo hi I L x I2 L2) : I2 32 10 = I 32 10 := by
  unfold pb_lamps at h
  rw [h.1]

theorem ek_lamps_103_0 {g p h lo hi x : Int32} {I I2 : px_I} {L L2 : px_L} (h : pk_lamps g p h lo hi I L x I2 L2) : I2 103 0 = I 103 0 := by
  unfold pk_lamps at h
  rw [h.1]

theorem eb_count_32_10 {u lo hi x : Int32} {I I2 : px_I} {L L2 : px_L} (h : pb_count u lo hi I L x I2 L2) : I2 32 10 = I 32 10 := by
  unfold pb_count at h
  obtain ⟨rfl, h⟩ := h
  rcases h with ⟨a1, rfl, rfl⟩ | ⟨a1, rfl, rfl⟩
  · (repeat rw [px_u_out (by omega)])
  · rfl

theorem ek_count_103_0 {u lo hi x : Int32} {I I2 : px_I} {L L2 : px_L} (h : pk_count u lo hi I L x I2 L2) : I2 103 0 = I 103 0 := by
  unfold pk_count at h
  rcases h with ⟨a1, rfl, rfl, rfl⟩ | ⟨a1, rfl, rfl, rfl⟩
  · (repeat rw [px_u_out (by omega)])
  · rfl

theorem eb_unit_32_10 {h x : Int32} {I I2 : px_I} {L L2 : px_L} (h : pb_unit h I L x I2 L2) : I2 32 10 = I 32 10 := by
  unfold pb_unit at h
  rw [h.1]

theorem ek_unit_103_0 {h x : Int32} {I I2 : px_I} {L L2 : px_L} (h : pk_unit h I L x I2 L2) : I2 103 0 = I 103 0 := by
  unfold pk_unit at h
  rw [h.1]

theorem eb_feed_32_10 {a b c d e x : Int32} {I I2 : px_I} {L L2 : px_L} (h : pb_feed a b c d e I L x I2 L2) : I2 32 10 = I 32 10 := by
  unfold pb_feed at h
  obtain ⟨rfl, h⟩ := h
  rcases h with ⟨a1, rfl, rfl⟩ | ⟨a1, rfl, rfl⟩
  · rw [cApp_at _ _ 32 10 (by omega) (by omega), cApp_at _ _ 32 10 (by omega) (by omega), cApp_at _ _ 32 10 (by omega) (by omega), cApp_at _ _ 32 10 (by omega) (by omega), cApp_at _ _ 32 10 (by omega) (by omega)]
  · rfl

theorem ek_feed_103_0 {a b c d e x : Int32} {I I2 : px_I} {L L2 : px_L} (h : pk_feed a b c d e I L x I2 L2) : I2 103 0 = I 103 0 := by
  unfold pk_feed at h
  obtain ⟨rfl, h⟩ := h
  rcases h with ⟨a1, rfl, rfl⟩ | ⟨a1, rfl, rfl⟩
  · rw [mPut_o (by omega) (by omega), mPut_o (by omega) (by omega), mPut_o (by omega) (by omega), mPut_o (by omega) (by omega), mPut_o (by omega) (by omega)]
  · rfl

theorem eb_end_32_10 {x9 x : Int32} {I I2 : px_I} {L L2 : px_L} (h : pb_end x9 I L x I2 L2) : I2 32 10 = I 32 10 := by
  unfold pb_end at h
  obtain ⟨rfl, h⟩ := h
  rcases h with ⟨a1, rfl, rfl⟩ | ⟨a1, rfl, rfl⟩
  · (repeat rw [px_u_out (by omega)])
  · rfl

theorem ek_end_103_0 {x9 x : Int32} {I I2 : px_I} {L L2 : px_L} (h : pk_end x9 I L x I2 L2) : I2 103 0 = I 103 0 := by
  unfold pk_end at h
  obtain ⟨rfl, h⟩ := h
  rcases h with ⟨a1, a2, rfl, rfl⟩ | ⟨a1, rfl, rfl⟩
  · (repeat rw [px_u_out (by omega)])
  · rfl

theorem eb_way_32_10 {i x : Int32} {I I2 : px_I} {L L2 : px_L} (h : pb_way i I L x I2 L2) : I2 32 10 = I 32 10 := by
  unfold pb_way at h
  exact h.1 32 10 (by omega) (by omega) (by omega) (by omega) (by omega)

theorem ek_way_103_0 {w x : Int32} {I I2 : px_I} {L L2 : px_L} (h : pk_way w I L x I2 L2) : I2 103 0 = I 103 0 := by
  unfold pk_way at h
  obtain ⟨rfl, h⟩ := h
  rcases h with ⟨a1, a2, rfl⟩ | ⟨a1, a2, a3⟩
  · rfl
  · exact a2 103 0 (by omega) (by omega)

theorem eb_fault_32_10 {x9 x : Int32} {I I2 : px_I} {L L2 : px_L} (h : pb_fault x9 I L x I2 L2) : I2 32 10 = I 32 10 := by
  unfold pb_fault at h
  rw [h.1]

theorem ek_fault_103_0 {x9 x : Int32} {I I2 : px_I} {L L2 : px_L} (h : pk_fault x9 I L x I2 L2) : I2 103 0 = I 103 0 := by
  unfold pk_fault at h
  rw [h.1]

theorem eb_tools_32_10 {a b c d e x : Int32} {I I2 : px_I} {L L2 : px_L} (h : pb_tools a b c d e I L x I2 L2) : I2 32 10 = I 32 10 := by
  unfold pb_tools at h
  obtain ⟨rfl, h⟩ := h
  rcases h with ⟨a1, rfl, a2⟩ | ⟨a1, rfl, rfl⟩
  · rw [a2 32 (by decide)]; (repeat rw [px_u_out (by omega)])
  · rfl

theorem ek_tools_103_0 {a b c d e x : Int32} {I I2 : px_I} {L L2 : px_L} (h : pk_tools a b c d e I L x I2 L2) : I2 103 0 = I 103 0 := by
  unfold pk_tools at h
  obtain ⟨rfl, h⟩ := h
  rcases h with ⟨a1, rfl, rfl⟩ | ⟨a1, rfl, rfl⟩
  · (repeat rw [px_u_out (by omega)])
  · rfl

theorem eb_run_32_10 {w h a x : Int32} {I I2 : px_I} {L L2 : px_L} (h : pb_run w h a I L x I2 L2) : I2 32 10 = I 32 10 := by
  unfold pb_run at h
  exact h.1 32 10 (by omega) (by omega) (by omega) (by omega) (by omega) (by omega) (by omega)

theorem ek_run_103_0 {w h a x : Int32} {I I2 : px_I} {L L2 : px_L} (h : pk_run w h a I L x I2 L2) : I2 103 0 = I 103 0 := by
  unfold pk_run at h
  exact h.1 103 0 (by omega) (by omega) (by omega)

theorem eb_meeting_32_10 {a f b t x9 h x : Int32} {I I2 : px_I} {L L2 : px_L} (h : pb_meeting a f b t x9 h I L x I2 L2) : I2 32 10 = I 32 10 := by
  unfold pb_meeting at h
  exact h.1 32 10 (by omega) (by omega) (by omega) (by omega) (by omega) (by omega) (by omega)

theorem ek_meeting_103_0 {a f b t x9 h x : Int32} {I I2 : px_I} {L L2 : px_L} (h : pk_meeting a f b t x9 h I L x I2 L2) : I2 103 0 = I 103 0 := by
  unfold pk_meeting at h
  exact h.1 103 0 (by omega) (by omega) (by omega)

theorem eb_there_32_10 {a lo hi x : Int32} {I I2 : px_I} {L L2 : px_L} (h : pb_there a lo hi I L x I2 L2) : I2 32 10 = I 32 10 := by
  unfold pb_there at h
  obtain ⟨rfl, h⟩ := h
  rcases h with ⟨a1, rfl, rfl⟩ | ⟨a1, rfl, rfl⟩
  · (repeat rw [px_u_out (by omega)])
  · rfl

theorem ek_there_103_0 {a lo hi x : Int32} {I I2 : px_I} {L L2 : px_L} (h : pk_there a lo hi I L x I2 L2) : I2 103 0 = I 103 0 := by
  unfold pk_there at h
  obtain ⟨rfl, h⟩ := h
  rcases h with ⟨a1, rfl, rfl⟩ | ⟨a1, rfl, rfl⟩
  · (repeat rw [px_u_out (by omega)])
  · rfl

theorem eb_fits_32_10 {a f b t x : Int32} {I I2 : px_I} {L L2 : px_L} (h : pb_fits a f b t I L x I2 L2) : I2 32 10 = I 32 10 := by
  unfold pb_fits at h
  exact h.1 32 10 (by omega) (by omega) (by omega) (by omega) (by omega) (by omega) (by omega)

theorem ek_fits_103_0 {a f b t x : Int32} {I I2 : px_I} {L L2 : px_L} (h : pk_fits a f b t I L x I2 L2) : I2 103 0 = I 103 0 := by
  unfold pk_fits at h
  exact h.1 103 0 (by omega) (by omega) (by omega)

theorem eb_ways_32_10 {a f b t x9 x : Int32} {I I2 : px_I} {L L2 : px_L} (h : pb_ways a f b t x9 I L x I2 L2) : I2 32 10 = I 32 10 := by
  unfold pb_ways at h
  exact h.1 32 10 (by omega) (by omega) (by omega) (by omega) (by omega) (by omega) (by omega)

theorem ek_ways_103_0 {a f b t x9 x : Int32} {I I2 : px_I} {L L2 : px_L} (h : pk_ways a f b t x9 I L x I2 L2) : I2 103 0 = I 103 0 := by
  unfold pk_ways at h
  exact h.1 103 0 (by omega) (by omega) (by omega)

theorem eb_seek_32_10 {a b c d e f x : Int32} {I I2 : px_I} {L L2 : px_L} (h : pb_seek a b c d e f I L x I2 L2) : I2 32 10 = I 32 10 := by
  unfold pb_seek at h
  obtain ⟨rfl, h⟩ := h
  rcases h with ⟨a1, rfl, rfl⟩ | ⟨a1, rfl, rfl⟩
  · (repeat rw [px_u_out (by omega)])
  · rfl

theorem ek_seek_103_0 {a b c d e f x : Int32} {I I2 : px_I} {L L2 : px_L} (h : pk_seek a b c d e f I L x I2 L2) : I2 103 0 = I 103 0 := by
  unfold pk_seek at h
  obtain ⟨rfl, h⟩ := h
  rcases h with ⟨a1, rfl, rfl⟩ | ⟨a1, rfl, rfl⟩
  · (repeat rw [px_u_out (by omega)])
  · rfl

theorem eb_detour_32_10 {a o h x : Int32} {I I2 : px_I} {L L2 : px_L} (h : pb_detour a o h I L x I2 L2) : I2 32 10 = I 32 10 := by
  unfold pb_detour at h
  rw [h.1]

theorem ek_detour_103_0 {a o lo x : Int32} {I I2 : px_I} {L L2 : px_L} (h : pk_detour a o lo I L x I2 L2) : I2 103 0 = I 103 0 := by
  unfold pk_detour at h
  rw [h.1]

theorem eb_table_32_10 {c v x : Int32} {I I2 : px_I} {L L2 : px_L} (h : pb_table c v I L x I2 L2) : I2 32 10 = I 32 10 := by
  unfold pb_table at h
  obtain ⟨rfl, h⟩ := h
  rcases h with ⟨a1, rfl, rfl⟩ | ⟨a1, rfl, rfl⟩
  · (repeat rw [px_u_out (by omega)])
  · rfl

theorem ek_table_103_0 {c v x : Int32} {I I2 : px_I} {L L2 : px_L} (h : pk_table c v I L x I2 L2) : I2 103 0 = I 103 0 := by
  unfold pk_table at h
  obtain ⟨rfl, h⟩ := h
  rcases h with ⟨a1, rfl, rfl⟩ | ⟨a1, rfl, rfl⟩
  · (repeat rw [px_u_out (by omega)])
  · rfl

theorem eb_repair_32_10 {g p y x : Int32} {I I2 : px_I} {L L2 : px_L} (h : pb_repair g p y I L x I2 L2) : I2 32 10 = I 32 10 := by
  unfold pb_repair at h
  obtain ⟨rfl, h⟩ := h
  rcases h with ⟨G, g1, rfl, rfl⟩ | ⟨a1, rfl, rfl⟩
  · have g2 := g1.1
    have gG : G = 41 ∨ G = 55 := by unfold bG at g2; omega
    unfold cRep; (repeat rw [px_u_out (by omega)])
  · rfl

theorem ek_repair_103_0 {g p y x : Int32} {I I2 : px_I} {L L2 : px_L} (h : pk_repair g p y I L x I2 L2) : I2 103 0 = I 103 0 := by
  unfold pk_repair at h
  obtain ⟨rfl, h⟩ := h
  rcases h with ⟨a1, rfl, rfl⟩ | ⟨a1, rfl, rfl⟩
  · (repeat rw [px_u_out (by omega)])
  · rfl

theorem eb_lime_32_10 {v x : Int32} {I I2 : px_I} {L L2 : px_L} (h : pb_lime v I L x I2 L2) : I2 32 10 = I 32 10 := by
  unfold pb_lime at h
  obtain ⟨rfl, h⟩ := h
  rcases h with ⟨a1, rfl, rfl⟩ | ⟨a1, rfl, rfl⟩
  · (repeat rw [px_u_out (by omega)])
  · rfl

theorem ek_lime_103_0 {v x : Int32} {I I2 : px_I} {L L2 : px_L} (h : pk_lime v I L x I2 L2) : I2 103 0 = I 103 0 := by
  unfold pk_lime at h
  obtain ⟨rfl, h⟩ := h
  rcases h with ⟨a1, a2, rfl, rfl⟩ | ⟨a1, rfl, rfl⟩
  · (repeat rw [px_u_out (by omega)])
  · rfl

theorem eb_flow_32_10 {g y k h x : Int32} {I I2 : px_I} {L L2 : px_L} (h : pb_flow g y k h I L x I2 L2) : I2 32 10 = I 32 10 := by
  unfold pb_flow at h
  exact h.1 32 10 (by omega)

theorem ek_flow_103_0 {g y k h x : Int32} {I I2 : px_I} {L L2 : px_L} (h : pk_flow g y k h I L x I2 L2) : I2 103 0 = I 103 0 := by
  unfold pk_flow at h
  exact h.1 103 0 (by omega)

theorem eb_narrow_32_10 {g y k x : Int32} {I I2 : px_I} {L L2 : px_L} (h : pb_narrow g y k I L x I2 L2) : I2 32 10 = I 32 10 := by
  unfold pb_narrow at h
  exact h.1 32 10 (by omega)

theorem ek_narrow_103_0 {g y k x : Int32} {I I2 : px_I} {L L2 : px_L} (h : pk_narrow g y k I L x I2 L2) : I2 103 0 = I 103 0 := by
  unfold pk_narrow at h
  exact h.1 103 0 (by omega)

theorem eb_about_32_10 {w x : Int32} {I I2 : px_I} {L L2 : px_L} (h : pb_about w I L x I2 L2) : I2 32 10 = I 32 10 := by
  unfold pb_about at h
  rw [h.1]

theorem ek_about_103_0 {w x : Int32} {I I2 : px_I} {L L2 : px_L} (h : pk_about w I L x I2 L2) : I2 103 0 = I 103 0 := by
  unfold pk_about at h
  rw [h.1]

theorem eb_days_33_7 {x9 x : Int32} {I I2 : px_I} {L L2 : px_L} (h : pb_days x9 I L x I2 L2) : I2 33 7 = I 33 7 := by
  unfold pb_days at h
  obtain ⟨rfl, h⟩ := h
  rcases h with ⟨a1, a2, rfl, rfl⟩ | ⟨a1, rfl, rfl⟩
  · (repeat rw [px_u_out (by omega)])
  · rfl

theorem ek_days_103_1 {x9 x : Int32} {I I2 : px_I} {L L2 : px_L} (h : pk_days x9 I L x I2 L2) : I2 103 1 = I 103 1 := by
  unfold pk_days at h
  obtain ⟨rfl, h⟩ := h
  rcases h with ⟨a1, a2, a3, rfl, rfl⟩ | ⟨a1, rfl, rfl⟩
  · (repeat rw [px_u_out (by omega)])
  · rfl

theorem eb_sight_33_7 {a f t lo hi x : Int32} {I I2 : px_I} {L L2 : px_L} (h : pb_sight a f t lo hi I L x I2 L2) : I2 33 7 = I 33 7 := by
  unfold pb_sight at h
  obtain ⟨rfl, h⟩ := h
  rcases h with ⟨a1, rfl, rfl⟩ | ⟨a1, rfl, rfl⟩
  · (repeat rw [px_u_out (by omega)])
  · rfl

theorem ek_sight_103_1 {a f t lo hi x : Int32} {I I2 : px_I} {L L2 : px_L} (h : pk_sight a f t lo hi I L x I2 L2) : I2 103 1 = I 103 1 := by
  unfold pk_sight at h
  obtain ⟨rfl, h⟩ := h
  rcases h with ⟨a1, rfl, rfl⟩ | ⟨a1, rfl, rfl⟩
  · (repeat rw [px_u_out (by omega)])
  · rfl

theorem eb_closed_33_7 {a k x : Int32} {I I2 : px_I} {L L2 : px_L} (h : pb_closed a k I L x I2 L2) : I2 33 7 = I 33 7 := by
  unfold pb_closed at h
  obtain ⟨rfl, h⟩ := h
  rfl

theorem ek_closed_103_1 {a k x : Int32} {I I2 : px_I} {L L2 : px_L} (h : pk_closed a k I L x I2 L2) : I2 103 1 = I 103 1 := by
  unfold pk_closed at h
  exact h.1 103 1 (by omega)

theorem eb_span_33_7 {a t k h x : Int32} {I I2 : px_I} {L L2 : px_L} (h : pb_span a t k h I L x I2 L2) : I2 33 7 = I 33 7 := by
  unfold pb_span at h
  obtain ⟨rfl, h⟩ := h
  rfl

theorem ek_span_103_1 {a t k h x : Int32} {I I2 : px_I} {L L2 : px_L} (h : pk_span a t k h I L x I2 L2) : I2 103 1 = I 103 1 := by
  unfold pk_span at h
  exact h.1 103 1 (by omega)

theorem eb_gap_33_7 {a f t k h x : Int32} {I I2 : px_I} {L L2 : px_L} (h : pb_gap a f t k h I L x I2 L2) : I2 33 7 = I 33 7 := by
  unfold pb_gap at h
  obtain ⟨rfl, h⟩ := h
  rfl

theorem ek_gap_103_1 {a f t k h x : Int32} {I I2 : px_I} {L L2 : px_L} (h : pk_gap a f t k h I L x I2 L2) : I2 103 1 = I 103 1 := by
  unfold pk_gap at h
  exact h.1 103 1 (by omega)

theorem eb_blamed_33_7 {a k i x : Int32} {I I2 : px_I} {L L2 : px_L} (h : pb_blamed a k i I L x I2 L2) : I2 33 7 = I 33 7 := by
  unfold pb_blamed at h
  obtain ⟨rfl, h⟩ := h
  rfl

theorem ek_blamed_103_1 {a k i x : Int32} {I I2 : px_I} {L L2 : px_L} (h : pk_blamed a k i I L x I2 L2) : I2 103 1 = I 103 1 := by
  unfold pk_blamed at h
  exact h.1 103 1 (by omega)

theorem eb_reach_33_7 {g lo hi sl fa w st x : Int32} {I I2 : px_I} {L L2 : px_L} (h : pb_reach g lo hi sl fa w st I L x I2 L2) : I2 33 7 = I 33 7 := by
  unfold pb_reach at h
  obtain ⟨rfl, h⟩ := h
  rcases h with ⟨G, ⟨g1, g2, g3⟩, rfl, rfl⟩ | ⟨a1, rfl, rfl⟩
  · have gG : G = 41 ∨ G = 55 := by unfold bG at g1; omega
    rw [cReach_o (by omega)]
  · rfl

theorem ek_reach_103_1 {g lo hi sl fa w st x : Int32} {I I2 : px_I} {L L2 : px_L} (h : pk_reach g lo hi sl fa w st I L x I2 L2) : I2 103 1 = I 103 1 := by
  unfold pk_reach at h
  obtain ⟨rfl, h⟩ := h
  rcases h with ⟨a1, rfl, rfl⟩ | ⟨a1, rfl, rfl⟩
  · unfold mReach; (repeat rw [px_u_out (by omega)])
  · rfl

theorem eb_mouth_33_7 {g st x : Int32} {I I2 : px_I} {L L2 : px_L} (h : pb_mouth g st I L x I2 L2) : I2 33 7 = I 33 7 := by
  unfold pb_mouth at h
  obtain ⟨rfl, h⟩ := h
  rcases h with ⟨G, g1, rfl⟩ | rfl
  · have gG : G = 41 ∨ G = 55 := by unfold bG at g1; omega
    (repeat rw [px_u_out (by omega)])
  · rfl

theorem ek_mouth_103_1 {g st x : Int32} {I I2 : px_I} {L L2 : px_L} (h : pk_mouth g st I L x I2 L2) : I2 103 1 = I 103 1 := by
  unfold pk_mouth at h
  obtain ⟨rfl, h⟩ := h
  rcases h with ⟨a1, a2, rfl, rfl⟩ | ⟨a1, rfl, rfl⟩
  · (repeat rw [px_u_out (by omega)])
  · rfl

theorem eb_mark_33_7 {g p f t x : Int32} {I I2 : px_I} {L L2 : px_L} (h : pb_mark g p f t I L x I2 L2) : I2 33 7 = I 33 7 := by
  unfold pb_mark at h
  obtain ⟨rfl, h⟩ := h
  rcases h with ⟨G, g1, rfl, rfl⟩ | ⟨a1, rfl, rfl⟩
  · have g2 := g1.1
    have gG : G = 41 ∨ G = 55 := by unfold bG at g2; omega
    unfold cMark; (repeat rw [px_u_out (by omega)])
  · rfl

theorem ek_mark_103_1 {g p f t x : Int32} {I I2 : px_I} {L L2 : px_L} (h : pk_mark g p f t I L x I2 L2) : I2 103 1 = I 103 1 := by
  unfold pk_mark at h
  obtain ⟨rfl, h⟩ := h
  rcases h with ⟨a1, rfl, rfl⟩ | ⟨a1, rfl, rfl⟩
  · unfold mMark; (repeat rw [px_u_out (by omega)])
  · rfl

theorem eb_when_33_7 {g p h x : Int32} {I I2 : px_I} {L L2 : px_L} (h : pb_when g p h I L x I2 L2) : I2 33 7 = I 33 7 := by
  unfold pb_when at h
  obtain ⟨rfl, h⟩ := h
  rw [h 33 (by decide) (by decide) (by decide) (by decide)]

theorem ek_when_103_1 {g p h x : Int32} {I I2 : px_I} {L L2 : px_L} (h : pk_when g p h I L x I2 L2) : I2 103 1 = I 103 1 := by
  unfold pk_when at h
  exact h.1 103 1 (by omega)

theorem eb_between_33_7 {g p q h x : Int32} {I I2 : px_I} {L L2 : px_L} (h : pb_between g p q h I L x I2 L2) : I2 33 7 = I 33 7 := by
  unfold pb_between at h
  obtain ⟨rfl, h⟩ := h
  rw [h 33 (by decide) (by decide) (by decide) (by decide)]

theorem ek_between_103_1 {g p t h x : Int32} {I I2 : px_I} {L L2 : px_L} (h : pk_between g p t h I L x I2 L2) : I2 103 1 = I 103 1 := by
  unfold pk_between at h
  exact h.1 103 1 (by omega)

theorem eb_lamps_33_7 {g p h lo hi x : Int32} {I I2 : px_I} {L L2 : px_L} (h : pb_lamps g p h lo hi I L x I2 L2) : I2 33 7 = I 33 7 := by
  unfold pb_lamps at h
  rw [h.1]

theorem ek_lamps_103_1 {g p h lo hi x : Int32} {I I2 : px_I} {L L2 : px_L} (h : pk_lamps g p h lo hi I L x I2 L2) : I2 103 1 = I 103 1 := by
  unfold pk_lamps at h
  rw [h.1]

theorem eb_count_33_7 {u lo hi x : Int32} {I I2 : px_I} {L L2 : px_L} (h : pb_count u lo hi I L x I2 L2) : I2 33 7 = I 33 7 := by
  unfold pb_count at h
  obtain ⟨rfl, h⟩ := h
  rcases h with ⟨a1, rfl, rfl⟩ | ⟨a1, rfl, rfl⟩
  · (repeat rw [px_u_out (by omega)])
  · rfl

theorem ek_count_103_1 {u lo hi x : Int32} {I I2 : px_I} {L L2 : px_L} (h : pk_count u lo hi I L x I2 L2) : I2 103 1 = I 103 1 := by
  unfold pk_count at h
  rcases h with ⟨a1, rfl, rfl, rfl⟩ | ⟨a1, rfl, rfl, rfl⟩
  · (repeat rw [px_u_out (by omega)])
  · rfl

theorem eb_unit_33_7 {h x : Int32} {I I2 : px_I} {L L2 : px_L} (h : pb_unit h I L x I2 L2) : I2 33 7 = I 33 7 := by
  unfold pb_unit at h
  rw [h.1]

theorem ek_unit_103_1 {h x : Int32} {I I2 : px_I} {L L2 : px_L} (h : pk_unit h I L x I2 L2) : I2 103 1 = I 103 1 := by
  unfold pk_unit at h
  rw [h.1]

theorem eb_feed_33_7 {a b c d e x : Int32} {I I2 : px_I} {L L2 : px_L} (h : pb_feed a b c d e I L x I2 L2) : I2 33 7 = I 33 7 := by
  unfold pb_feed at h
  obtain ⟨rfl, h⟩ := h
  rcases h with ⟨a1, rfl, rfl⟩ | ⟨a1, rfl, rfl⟩
  · rw [cApp_at _ _ 33 7 (by omega) (by omega), cApp_at _ _ 33 7 (by omega) (by omega), cApp_at _ _ 33 7 (by omega) (by omega), cApp_at _ _ 33 7 (by omega) (by omega), cApp_at _ _ 33 7 (by omega) (by omega)]
  · rfl

theorem ek_feed_103_1 {a b c d e x : Int32} {I I2 : px_I} {L L2 : px_L} (h : pk_feed a b c d e I L x I2 L2) : I2 103 1 = I 103 1 := by
  unfold pk_feed at h
  obtain ⟨rfl, h⟩ := h
  rcases h with ⟨a1, rfl, rfl⟩ | ⟨a1, rfl, rfl⟩
  · rw [mPut_o (by omega) (by omega), mPut_o (by omega) (by omega), mPut_o (by omega) (by omega), mPut_o (by omega) (by omega), mPut_o (by omega) (by omega)]
  · rfl

theorem eb_end_33_7 {x9 x : Int32} {I I2 : px_I} {L L2 : px_L} (h : pb_end x9 I L x I2 L2) : I2 33 7 = I 33 7 := by
  unfold pb_end at h
  obtain ⟨rfl, h⟩ := h
  rcases h with ⟨a1, rfl, rfl⟩ | ⟨a1, rfl, rfl⟩
  · (repeat rw [px_u_out (by omega)])
  · rfl

theorem ek_end_103_1 {x9 x : Int32} {I I2 : px_I} {L L2 : px_L} (h : pk_end x9 I L x I2 L2) : I2 103 1 = I 103 1 := by
  unfold pk_end at h
  obtain ⟨rfl, h⟩ := h
  rcases h with ⟨a1, a2, rfl, rfl⟩ | ⟨a1, rfl, rfl⟩
  · (repeat rw [px_u_out (by omega)])
  · rfl

theorem eb_way_33_7 {i x : Int32} {I I2 : px_I} {L L2 : px_L} (h : pb_way i I L x I2 L2) : I2 33 7 = I 33 7 := by
  unfold pb_way at h
  exact h.1 33 7 (by omega) (by omega) (by omega) (by omega) (by omega)

theorem ek_way_103_1 {w x : Int32} {I I2 : px_I} {L L2 : px_L} (h : pk_way w I L x I2 L2) : I2 103 1 = I 103 1 := by
  unfold pk_way at h
  obtain ⟨rfl, h⟩ := h
  rcases h with ⟨a1, a2, rfl⟩ | ⟨a1, a2, a3⟩
  · rfl
  · exact a2 103 1 (by omega) (by omega)

theorem eb_fault_33_7 {x9 x : Int32} {I I2 : px_I} {L L2 : px_L} (h : pb_fault x9 I L x I2 L2) : I2 33 7 = I 33 7 := by
  unfold pb_fault at h
  rw [h.1]

theorem ek_fault_103_1 {x9 x : Int32} {I I2 : px_I} {L L2 : px_L} (h : pk_fault x9 I L x I2 L2) : I2 103 1 = I 103 1 := by
  unfold pk_fault at h
  rw [h.1]

theorem eb_tools_33_7 {a b c d e x : Int32} {I I2 : px_I} {L L2 : px_L} (h : pb_tools a b c d e I L x I2 L2) : I2 33 7 = I 33 7 := by
  unfold pb_tools at h
  obtain ⟨rfl, h⟩ := h
  rcases h with ⟨a1, rfl, a2⟩ | ⟨a1, rfl, rfl⟩
  · rw [a2 33 (by decide)]; (repeat rw [px_u_out (by omega)])
  · rfl

theorem ek_tools_103_1 {a b c d e x : Int32} {I I2 : px_I} {L L2 : px_L} (h : pk_tools a b c d e I L x I2 L2) : I2 103 1 = I 103 1 := by
  unfold pk_tools at h
  obtain ⟨rfl, h⟩ := h
  rcases h with ⟨a1, rfl, rfl⟩ | ⟨a1, rfl, rfl⟩
  · (repeat rw [px_u_out (by omega)])
  · rfl

theorem eb_run_33_7 {w h a x : Int32} {I I2 : px_I} {L L2 : px_L} (h : pb_run w h a I L x I2 L2) : I2 33 7 = I 33 7 := by
  unfold pb_run at h
  exact h.1 33 7 (by omega) (by omega) (by omega) (by omega) (by omega) (by omega) (by omega)

theorem ek_run_103_1 {w h a x : Int32} {I I2 : px_I} {L L2 : px_L} (h : pk_run w h a I L x I2 L2) : I2 103 1 = I 103 1 := by
  unfold pk_run at h
  exact h.1 103 1 (by omega) (by omega) (by omega)

theorem eb_meeting_33_7 {a f b t x9 h x : Int32} {I I2 : px_I} {L L2 : px_L} (h : pb_meeting a f b t x9 h I L x I2 L2) : I2 33 7 = I 33 7 := by
  unfold pb_meeting at h
  exact h.1 33 7 (by omega) (by omega) (by omega) (by omega) (by omega) (by omega) (by omega)

theorem ek_meeting_103_1 {a f b t x9 h x : Int32} {I I2 : px_I} {L L2 : px_L} (h : pk_meeting a f b t x9 h I L x I2 L2) : I2 103 1 = I 103 1 := by
  unfold pk_meeting at h
  exact h.1 103 1 (by omega) (by omega) (by omega)

theorem eb_there_33_7 {a lo hi x : Int32} {I I2 : px_I} {L L2 : px_L} (h : pb_there a lo hi I L x I2 L2) : I2 33 7 = I 33 7 := by
  unfold pb_there at h
  obtain ⟨rfl, h⟩ := h
  rcases h with ⟨a1, rfl, rfl⟩ | ⟨a1, rfl, rfl⟩
  · (repeat rw [px_u_out (by omega)])
  · rfl

theorem ek_there_103_1 {a lo hi x : Int32} {I I2 : px_I} {L L2 : px_L} (h : pk_there a lo hi I L x I2 L2) : I2 103 1 = I 103 1 := by
  unfold pk_there at h
  obtain ⟨rfl, h⟩ := h
  rcases h with ⟨a1, rfl, rfl⟩ | ⟨a1, rfl, rfl⟩
  · (repeat rw [px_u_out (by omega)])
  · rfl

theorem eb_fits_33_7 {a f b t x : Int32} {I I2 : px_I} {L L2 : px_L} (h : pb_fits a f b t I L x I2 L2) : I2 33 7 = I 33 7 := by
  unfold pb_fits at h
  exact h.1 33 7 (by omega) (by omega) (by omega) (by omega) (by omega) (by omega) (by omega)

theorem ek_fits_103_1 {a f b t x : Int32} {I I2 : px_I} {L L2 : px_L} (h : pk_fits a f b t I L x I2 L2) : I2 103 1 = I 103 1 := by
  unfold pk_fits at h
  exact h.1 103 1 (by omega) (by omega) (by omega)

theorem eb_ways_33_7 {a f b t x9 x : Int32} {I I2 : px_I} {L L2 : px_L} (h : pb_ways a f b t x9 I L x I2 L2) : I2 33 7 = I 33 7 := by
  unfold pb_ways at h
  exact h.1 33 7 (by omega) (by omega) (by omega) (by omega) (by omega) (by omega) (by omega)

theorem ek_ways_103_1 {a f b t x9 x : Int32} {I I2 : px_I} {L L2 : px_L} (h : pk_ways a f b t x9 I L x I2 L2) : I2 103 1 = I 103 1 := by
  unfold pk_ways at h
  exact h.1 103 1 (by omega) (by omega) (by omega)

theorem eb_seek_33_7 {a b c d e f x : Int32} {I I2 : px_I} {L L2 : px_L} (h : pb_seek a b c d e f I L x I2 L2) : I2 33 7 = I 33 7 := by
  unfold pb_seek at h
  obtain ⟨rfl, h⟩ := h
  rcases h with ⟨a1, rfl, rfl⟩ | ⟨a1, rfl, rfl⟩
  · (repeat rw [px_u_out (by omega)])
  · rfl

theorem ek_seek_103_1 {a b c d e f x : Int32} {I I2 : px_I} {L L2 : px_L} (h : pk_seek a b c d e f I L x I2 L2) : I2 103 1 = I 103 1 := by
  unfold pk_seek at h
  obtain ⟨rfl, h⟩ := h
  rcases h with ⟨a1, rfl, rfl⟩ | ⟨a1, rfl, rfl⟩
  · (repeat rw [px_u_out (by omega)])
  · rfl

theorem eb_detour_33_7 {a o h x : Int32} {I I2 : px_I} {L L2 : px_L} (h : pb_detour a o h I L x I2 L2) : I2 33 7 = I 33 7 := by
  unfold pb_detour at h
  rw [h.1]

theorem ek_detour_103_1 {a o lo x : Int32} {I I2 : px_I} {L L2 : px_L} (h : pk_detour a o lo I L x I2 L2) : I2 103 1 = I 103 1 := by
  unfold pk_detour at h
  rw [h.1]

theorem eb_table_33_7 {c v x : Int32} {I I2 : px_I} {L L2 : px_L} (h : pb_table c v I L x I2 L2) : I2 33 7 = I 33 7 := by
  unfold pb_table at h
  obtain ⟨rfl, h⟩ := h
  rcases h with ⟨a1, rfl, rfl⟩ | ⟨a1, rfl, rfl⟩
  · (repeat rw [px_u_out (by omega)])
  · rfl

theorem ek_table_103_1 {c v x : Int32} {I I2 : px_I} {L L2 : px_L} (h : pk_table c v I L x I2 L2) : I2 103 1 = I 103 1 := by
  unfold pk_table at h
  obtain ⟨rfl, h⟩ := h
  rcases h with ⟨a1, rfl, rfl⟩ | ⟨a1, rfl, rfl⟩
  · (repeat rw [px_u_out (by omega)])
  · rfl

theorem eb_repair_33_7 {g p y x : Int32} {I I2 : px_I} {L L2 : px_L} (h : pb_repair g p y I L x I2 L2) : I2 33 7 = I 33 7 := by
  unfold pb_repair at h
  obtain ⟨rfl, h⟩ := h
  rcases h with ⟨G, g1, rfl, rfl⟩ | ⟨a1, rfl, rfl⟩
  · have g2 := g1.1
    have gG : G = 41 ∨ G = 55 := by unfold bG at g2; omega
    unfold cRep; (repeat rw [px_u_out (by omega)])
  · rfl

theorem ek_repair_103_1 {g p y x : Int32} {I I2 : px_I} {L L2 : px_L} (h : pk_repair g p y I L x I2 L2) : I2 103 1 = I 103 1 := by
  unfold pk_repair at h
  obtain ⟨rfl, h⟩ := h
  rcases h with ⟨a1, rfl, rfl⟩ | ⟨a1, rfl, rfl⟩
  · (repeat rw [px_u_out (by omega)])
  · rfl

theorem eb_lime_33_7 {v x : Int32} {I I2 : px_I} {L L2 : px_L} (h : pb_lime v I L x I2 L2) : I2 33 7 = I 33 7 := by
  unfold pb_lime at h
  obtain ⟨rfl, h⟩ := h
  rcases h with ⟨a1, rfl, rfl⟩ | ⟨a1, rfl, rfl⟩
  · (repeat rw [px_u_out (by omega)])
  · rfl

theorem ek_lime_103_1 {v x : Int32} {I I2 : px_I} {L L2 : px_L} (h : pk_lime v I L x I2 L2) : I2 103 1 = I 103 1 := by
  unfold pk_lime at h
  obtain ⟨rfl, h⟩ := h
  rcases h with ⟨a1, a2, rfl, rfl⟩ | ⟨a1, rfl, rfl⟩
  · (repeat rw [px_u_out (by omega)])
  · rfl

theorem eb_flow_33_7 {g y k h x : Int32} {I I2 : px_I} {L L2 : px_L} (h : pb_flow g y k h I L x I2 L2) : I2 33 7 = I 33 7 := by
  unfold pb_flow at h
  exact h.1 33 7 (by omega)

theorem ek_flow_103_1 {g y k h x : Int32} {I I2 : px_I} {L L2 : px_L} (h : pk_flow g y k h I L x I2 L2) : I2 103 1 = I 103 1 := by
  unfold pk_flow at h
  exact h.1 103 1 (by omega)

theorem eb_narrow_33_7 {g y k x : Int32} {I I2 : px_I} {L L2 : px_L} (h : pb_narrow g y k I L x I2 L2) : I2 33 7 = I 33 7 := by
  unfold pb_narrow at h
  exact h.1 33 7 (by omega)

theorem ek_narrow_103_1 {g y k x : Int32} {I I2 : px_I} {L L2 : px_L} (h : pk_narrow g y k I L x I2 L2) : I2 103 1 = I 103 1 := by
  unfold pk_narrow at h
  exact h.1 103 1 (by omega)

theorem eb_about_33_7 {w x : Int32} {I I2 : px_I} {L L2 : px_L} (h : pb_about w I L x I2 L2) : I2 33 7 = I 33 7 := by
  unfold pb_about at h
  rw [h.1]

theorem ek_about_103_1 {w x : Int32} {I I2 : px_I} {L L2 : px_L} (h : pk_about w I L x I2 L2) : I2 103 1 = I 103 1 := by
  unfold pk_about at h
  rw [h.1]

theorem eb_days_33_8 {x9 x : Int32} {I I2 : px_I} {L L2 : px_L} (h : pb_days x9 I L x I2 L2) : I2 33 8 = I 33 8 := by
  unfold pb_days at h
  obtain ⟨rfl, h⟩ := h
  rcases h with ⟨a1, a2, rfl, rfl⟩ | ⟨a1, rfl, rfl⟩
  · (repeat rw [px_u_out (by omega)])
  · rfl

theorem ek_days_103_2 {x9 x : Int32} {I I2 : px_I} {L L2 : px_L} (h : pk_days x9 I L x I2 L2) : I2 103 2 = I 103 2 := by
  unfold pk_days at h
  obtain ⟨rfl, h⟩ := h
  rcases h with ⟨a1, a2, a3, rfl, rfl⟩ | ⟨a1, rfl, rfl⟩
  · (repeat rw [px_u_out (by omega)])
  · rfl

theorem eb_station_33_8 { x : Int32} {I I2 : px_I} {L L2 : px_L} (h : pb_station  I L x I2 L2) : I2 33 8 = I 33 8 := by
  unfold pb_station at h
  obtain ⟨rfl, h⟩ := h
  rcases h with ⟨a1, rfl, rfl⟩ | ⟨a1, rfl, rfl⟩
  · (repeat rw [px_u_out (by omega)])
  · rfl

theorem ek_station_103_2 { x : Int32} {I I2 : px_I} {L L2 : px_L} (h : pk_station  I L x I2 L2) : I2 103 2 = I 103 2 := by
  unfold pk_station at h
  obtain ⟨rfl, h⟩ := h
  rcases h with ⟨a1, rfl, rfl⟩ | ⟨a1, rfl, rfl⟩
  · (repeat rw [px_u_out (by omega)])
  · rfl

theorem eb_closed_33_8 {a k x : Int32} {I I2 : px_I} {L L2 : px_L} (h : pb_closed a k I L x I2 L2) : I2 33 8 = I 33 8 := by
  unfold pb_closed at h
  obtain ⟨rfl, h⟩ := h
  rfl

theorem ek_closed_103_2 {a k x : Int32} {I I2 : px_I} {L L2 : px_L} (h : pk_closed a k I L x I2 L2) : I2 103 2 = I 103 2 := by
  unfold pk_closed at h
  exact h.1 103 2 (by omega)

theorem eb_span_33_8 {a t k h x : Int32} {I I2 : px_I} {L L2 : px_L} (h : pb_span a t k h I L x I2 L2) : I2 33 8 = I 33 8 := by
  unfold pb_span at h
  obtain ⟨rfl, h⟩ := h
  rfl

theorem ek_span_103_2 {a t k h x : Int32} {I I2 : px_I} {L L2 : px_L} (h : pk_span a t k h I L x I2 L2) : I2 103 2 = I 103 2 := by
  unfold pk_span at h
  exact h.1 103 2 (by omega)

theorem eb_gap_33_8 {a f t k h x : Int32} {I I2 : px_I} {L L2 : px_L} (h : pb_gap a f t k h I L x I2 L2) : I2 33 8 = I 33 8 := by
  unfold pb_gap at h
  obtain ⟨rfl, h⟩ := h
  rfl

theorem ek_gap_103_2 {a f t k h x : Int32} {I I2 : px_I} {L L2 : px_L} (h : pk_gap a f t k h I L x I2 L2) : I2 103 2 = I 103 2 := by
  unfold pk_gap at h
  exact h.1 103 2 (by omega)

theorem eb_blamed_33_8 {a k i x : Int32} {I I2 : px_I} {L L2 : px_L} (h : pb_blamed a k i I L x I2 L2) : I2 33 8 = I 33 8 := by
  unfold pb_blamed at h
  obtain ⟨rfl, h⟩ := h
  rfl

theorem ek_blamed_103_2 {a k i x : Int32} {I I2 : px_I} {L L2 : px_L} (h : pk_blamed a k i I L x I2 L2) : I2 103 2 = I 103 2 := by
  unfold pk_blamed at h
  exact h.1 103 2 (by omega)

theorem eb_reach_33_8 {g lo hi sl fa w st x : Int32} {I I2 : px_I} {L L2 : px_L} (h : pb_reach g lo hi sl fa w st I L x I2 L2) : I2 33 8 = I 33 8 := by
  unfold pb_reach at h
  obtain ⟨rfl, h⟩ := h
  rcases h with ⟨G, ⟨g1, g2, g3⟩, rfl, rfl⟩ | ⟨a1, rfl, rfl⟩
  · have gG : G = 41 ∨ G = 55 := by unfold bG at g1; omega
    rw [cReach_o (by omega)]
  · rfl

theorem ek_reach_103_2 {g lo hi sl fa w st x : Int32} {I I2 : px_I} {L L2 : px_L} (h : pk_reach g lo hi sl fa w st I L x I2 L2) : I2 103 2 = I 103 2 := by
  unfold pk_reach at h
  obtain ⟨rfl, h⟩ := h
  rcases h with ⟨a1, rfl, rfl⟩ | ⟨a1, rfl, rfl⟩
  · unfold mReach; (repeat rw [px_u_out (by omega)])
  · rfl

theorem eb_mouth_33_8 {g st x : Int32} {I I2 : px_I} {L L2 : px_L} (h : pb_mouth g st I L x I2 L2) : I2 33 8 = I 33 8 := by
  unfold pb_mouth at h
  obtain ⟨rfl, h⟩ := h
  rcases h with ⟨G, g1, rfl⟩ | rfl
  · have gG : G = 41 ∨ G = 55 := by unfold bG at g1; omega
    (repeat rw [px_u_out (by omega)])
  · rfl

theorem ek_mouth_103_2 {g st x : Int32} {I I2 : px_I} {L L2 : px_L} (h : pk_mouth g st I L x I2 L2) : I2 103 2 = I 103 2 := by
  unfold pk_mouth at h
  obtain ⟨rfl, h⟩ := h
  rcases h with ⟨a1, a2, rfl, rfl⟩ | ⟨a1, rfl, rfl⟩
  · (repeat rw [px_u_out (by omega)])
  · rfl

theorem eb_mark_33_8 {g p f t x : Int32} {I I2 : px_I} {L L2 : px_L} (h : pb_mark g p f t I L x I2 L2) : I2 33 8 = I 33 8 := by
  unfold pb_mark at h
  obtain ⟨rfl, h⟩ := h
  rcases h with ⟨G, g1, rfl, rfl⟩ | ⟨a1, rfl, rfl⟩
  · have g2 := g1.1
    have gG : G = 41 ∨ G = 55 := by unfold bG at g2; omega
    unfold cMark; (repeat rw [px_u_out (by omega)])
  · rfl

theorem ek_mark_103_2 {g p f t x : Int32} {I I2 : px_I} {L L2 : px_L} (h : pk_mark g p f t I L x I2 L2) : I2 103 2 = I 103 2 := by
  unfold pk_mark at h
  obtain ⟨rfl, h⟩ := h
  rcases h with ⟨a1, rfl, rfl⟩ | ⟨a1, rfl, rfl⟩
  · unfold mMark; (repeat rw [px_u_out (by omega)])
  · rfl

theorem eb_when_33_8 {g p h x : Int32} {I I2 : px_I} {L L2 : px_L} (h : pb_when g p h I L x I2 L2) : I2 33 8 = I 33 8 := by
  unfold pb_when at h
  obtain ⟨rfl, h⟩ := h
  rw [h 33 (by decide) (by decide) (by decide) (by decide)]

theorem ek_when_103_2 {g p h x : Int32} {I I2 : px_I} {L L2 : px_L} (h : pk_when g p h I L x I2 L2) : I2 103 2 = I 103 2 := by
  unfold pk_when at h
  exact h.1 103 2 (by omega)

theorem eb_between_33_8 {g p q h x : Int32} {I I2 : px_I} {L L2 : px_L} (h : pb_between g p q h I L x I2 L2) : I2 33 8 = I 33 8 := by
  unfold pb_between at h
  obtain ⟨rfl, h⟩ := h
  rw [h 33 (by decide) (by decide) (by decide) (by decide)]

theorem ek_between_103_2 {g p t h x : Int32} {I I2 : px_I} {L L2 : px_L} (h : pk_between g p t h I L x I2 L2) : I2 103 2 = I 103 2 := by
  unfold pk_between at h
  exact h.1 103 2 (by omega)

theorem eb_lamps_33_8 {g p h lo hi x : Int32} {I I2 : px_I} {L L2 : px_L} (h : pb_lamps g p h lo hi I L x I2 L2) : I2 33 8 = I 33 8 := by
  unfold pb_lamps at h
  rw [h.1]

theorem ek_lamps_103_2 {g p h lo hi x : Int32} {I I2 : px_I} {L L2 : px_L} (h : pk_lamps g p h lo hi I L x I2 L2) : I2 103 2 = I 103 2 := by
  unfold pk_lamps at h
  rw [h.1]

theorem eb_count_33_8 {u lo hi x : Int32} {I I2 : px_I} {L L2 : px_L} (h : pb_count u lo hi I L x I2 L2) : I2 33 8 = I 33 8 := by
  unfold pb_count at h
  obtain ⟨rfl, h⟩ := h
  rcases h with ⟨a1, rfl, rfl⟩ | ⟨a1, rfl, rfl⟩
  · (repeat rw [px_u_out (by omega)])
  · rfl

theorem ek_count_103_2 {u lo hi x : Int32} {I I2 : px_I} {L L2 : px_L} (h : pk_count u lo hi I L x I2 L2) : I2 103 2 = I 103 2 := by
  unfold pk_count at h
  rcases h with ⟨a1, rfl, rfl, rfl⟩ | ⟨a1, rfl, rfl, rfl⟩
  · (repeat rw [px_u_out (by omega)])
  · rfl

theorem eb_unit_33_8 {h x : Int32} {I I2 : px_I} {L L2 : px_L} (h : pb_unit h I L x I2 L2) : I2 33 8 = I 33 8 := by
  unfold pb_unit at h
  rw [h.1]

theorem ek_unit_103_2 {h x : Int32} {I I2 : px_I} {L L2 : px_L} (h : pk_unit h I L x I2 L2) : I2 103 2 = I 103 2 := by
  unfold pk_unit at h
  rw [h.1]

theorem eb_feed_33_8 {a b c d e x : Int32} {I I2 : px_I} {L L2 : px_L} (h : pb_feed a b c d e I L x I2 L2) : I2 33 8 = I 33 8 := by
  unfold pb_feed at h
  obtain ⟨rfl, h⟩ := h
  rcases h with ⟨a1, rfl, rfl⟩ | ⟨a1, rfl, rfl⟩
  · rw [cApp_at _ _ 33 8 (by omega) (by omega), cApp_at _ _ 33 8 (by omega) (by omega), cApp_at _ _ 33 8 (by omega) (by omega), cApp_at _ _ 33 8 (by omega) (by omega), cApp_at _ _ 33 8 (by omega) (by omega)]
  · rfl

theorem ek_feed_103_2 {a b c d e x : Int32} {I I2 : px_I} {L L2 : px_L} (h : pk_feed a b c d e I L x I2 L2) : I2 103 2 = I 103 2 := by
  unfold pk_feed at h
  obtain ⟨rfl, h⟩ := h
  rcases h with ⟨a1, rfl, rfl⟩ | ⟨a1, rfl, rfl⟩
  · rw [mPut_o (by omega) (by omega), mPut_o (by omega) (by omega), mPut_o (by omega) (by omega), mPut_o (by omega) (by omega), mPut_o (by omega) (by omega)]
  · rfl

theorem eb_end_33_8 {x9 x : Int32} {I I2 : px_I} {L L2 : px_L} (h : pb_end x9 I L x I2 L2) : I2 33 8 = I 33 8 := by
  unfold pb_end at h
  obtain ⟨rfl, h⟩ := h
  rcases h with ⟨a1, rfl, rfl⟩ | ⟨a1, rfl, rfl⟩
  · (repeat rw [px_u_out (by omega)])
  · rfl

theorem ek_end_103_2 {x9 x : Int32} {I I2 : px_I} {L L2 : px_L} (h : pk_end x9 I L x I2 L2) : I2 103 2 = I 103 2 := by
  unfold pk_end at h
  obtain ⟨rfl, h⟩ := h
  rcases h with ⟨a1, a2, rfl, rfl⟩ | ⟨a1, rfl, rfl⟩
  · (repeat rw [px_u_out (by omega)])
  · rfl

theorem eb_way_33_8 {i x : Int32} {I I2 : px_I} {L L2 : px_L} (h : pb_way i I L x I2 L2) : I2 33 8 = I 33 8 := by
  unfold pb_way at h
  exact h.1 33 8 (by omega) (by omega) (by omega) (by omega) (by omega)

theorem ek_way_103_2 {w x : Int32} {I I2 : px_I} {L L2 : px_L} (h : pk_way w I L x I2 L2) : I2 103 2 = I 103 2 := by
  unfold pk_way at h
  obtain ⟨rfl, h⟩ := h
  rcases h with ⟨a1, a2, rfl⟩ | ⟨a1, a2, a3⟩
  · rfl
  · exact a2 103 2 (by omega) (by omega)

theorem eb_fault_33_8 {x9 x : Int32} {I I2 : px_I} {L L2 : px_L} (h : pb_fault x9 I L x I2 L2) : I2 33 8 = I 33 8 := by
  unfold pb_fault at h
  rw [h.1]

theorem ek_fault_103_2 {x9 x : Int32} {I I2 : px_I} {L L2 : px_L} (h : pk_fault x9 I L x I2 L2) : I2 103 2 = I 103 2 := by
  unfold pk_fault at h
  rw [h.1]

theorem eb_tools_33_8 {a b c d e x : Int32} {I I2 : px_I} {L L2 : px_L} (h : pb_tools a b c d e I L x I2 L2) : I2 33 8 = I 33 8 := by
  unfold pb_tools at h
  obtain ⟨rfl, h⟩ := h
  rcases h with ⟨a1, rfl, a2⟩ | ⟨a1, rfl, rfl⟩
  · rw [a2 33 (by decide)]; (repeat rw [px_u_out (by omega)])
  · rfl

theorem ek_tools_103_2 {a b c d e x : Int32} {I I2 : px_I} {L L2 : px_L} (h : pk_tools a b c d e I L x I2 L2) : I2 103 2 = I 103 2 := by
  unfold pk_tools at h
  obtain ⟨rfl, h⟩ := h
  rcases h with ⟨a1, rfl, rfl⟩ | ⟨a1, rfl, rfl⟩
  · (repeat rw [px_u_out (by omega)])
  · rfl

theorem eb_run_33_8 {w h a x : Int32} {I I2 : px_I} {L L2 : px_L} (h : pb_run w h a I L x I2 L2) : I2 33 8 = I 33 8 := by
  unfold pb_run at h
  exact h.1 33 8 (by omega) (by omega) (by omega) (by omega) (by omega) (by omega) (by omega)

theorem ek_run_103_2 {w h a x : Int32} {I I2 : px_I} {L L2 : px_L} (h : pk_run w h a I L x I2 L2) : I2 103 2 = I 103 2 := by
  unfold pk_run at h
  exact h.1 103 2 (by omega) (by omega) (by omega)

theorem eb_meeting_33_8 {a f b t x9 h x : Int32} {I I2 : px_I} {L L2 : px_L} (h : pb_meeting a f b t x9 h I L x I2 L2) : I2 33 8 = I 33 8 := by
  unfold pb_meeting at h
  exact h.1 33 8 (by omega) (by omega) (by omega) (by omega) (by omega) (by omega) (by omega)

theorem ek_meeting_103_2 {a f b t x9 h x : Int32} {I I2 : px_I} {L L2 : px_L} (h : pk_meeting a f b t x9 h I L x I2 L2) : I2 103 2 = I 103 2 := by
  unfold pk_meeting at h
  exact h.1 103 2 (by omega) (by omega) (by omega)

theorem eb_there_33_8 {a lo hi x : Int32} {I I2 : px_I} {L L2 : px_L} (h : pb_there a lo hi I L x I2 L2) : I2 33 8 = I 33 8 := by
  unfold pb_there at h
  obtain ⟨rfl, h⟩ := h
  rcases h with ⟨a1, rfl, rfl⟩ | ⟨a1, rfl, rfl⟩
  · (repeat rw [px_u_out (by omega)])
  · rfl

theorem ek_there_103_2 {a lo hi x : Int32} {I I2 : px_I} {L L2 : px_L} (h : pk_there a lo hi I L x I2 L2) : I2 103 2 = I 103 2 := by
  unfold pk_there at h
  obtain ⟨rfl, h⟩ := h
  rcases h with ⟨a1, rfl, rfl⟩ | ⟨a1, rfl, rfl⟩
  · (repeat rw [px_u_out (by omega)])
  · rfl

theorem eb_fits_33_8 {a f b t x : Int32} {I I2 : px_I} {L L2 : px_L} (h : pb_fits a f b t I L x I2 L2) : I2 33 8 = I 33 8 := by
  unfold pb_fits at h
  exact h.1 33 8 (by omega) (by omega) (by omega) (by omega) (by omega) (by omega) (by omega)

theorem ek_fits_103_2 {a f b t x : Int32} {I I2 : px_I} {L L2 : px_L} (h : pk_fits a f b t I L x I2 L2) : I2 103 2 = I 103 2 := by
  unfold pk_fits at h
  exact h.1 103 2 (by omega) (by omega) (by omega)

theorem eb_ways_33_8 {a f b t x9 x : Int32} {I I2 : px_I} {L L2 : px_L} (h : pb_ways a f b t x9 I L x I2 L2) : I2 33 8 = I 33 8 := by
  unfold pb_ways at h
  exact h.1 33 8 (by omega) (by omega) (by omega) (by omega) (by omega) (by omega) (by omega)

theorem ek_ways_103_2 {a f b t x9 x : Int32} {I I2 : px_I} {L L2 : px_L} (h : pk_ways a f b t x9 I L x I2 L2) : I2 103 2 = I 103 2 := by
  unfold pk_ways at h
  exact h.1 103 2 (by omega) (by omega) (by omega)

theorem eb_seek_33_8 {a b c d e f x : Int32} {I I2 : px_I} {L L2 : px_L} (h : pb_seek a b c d e f I L x I2 L2) : I2 33 8 = I 33 8 := by
  unfold pb_seek at h
  obtain ⟨rfl, h⟩ := h
  rcases h with ⟨a1, rfl, rfl⟩ | ⟨a1, rfl, rfl⟩
  · (repeat rw [px_u_out (by omega)])
  · rfl

theorem ek_seek_103_2 {a b c d e f x : Int32} {I I2 : px_I} {L L2 : px_L} (h : pk_seek a b c d e f I L x I2 L2) : I2 103 2 = I 103 2 := by
  unfold pk_seek at h
  obtain ⟨rfl, h⟩ := h
  rcases h with ⟨a1, rfl, rfl⟩ | ⟨a1, rfl, rfl⟩
  · (repeat rw [px_u_out (by omega)])
  · rfl

theorem eb_detour_33_8 {a o h x : Int32} {I I2 : px_I} {L L2 : px_L} (h : pb_detour a o h I L x I2 L2) : I2 33 8 = I 33 8 := by
  unfold pb_detour at h
  rw [h.1]

theorem ek_detour_103_2 {a o lo x : Int32} {I I2 : px_I} {L L2 : px_L} (h : pk_detour a o lo I L x I2 L2) : I2 103 2 = I 103 2 := by
  unfold pk_detour at h
  rw [h.1]

theorem eb_table_33_8 {c v x : Int32} {I I2 : px_I} {L L2 : px_L} (h : pb_table c v I L x I2 L2) : I2 33 8 = I 33 8 := by
  unfold pb_table at h
  obtain ⟨rfl, h⟩ := h
  rcases h with ⟨a1, rfl, rfl⟩ | ⟨a1, rfl, rfl⟩
  · (repeat rw [px_u_out (by omega)])
  · rfl

theorem ek_table_103_2 {c v x : Int32} {I I2 : px_I} {L L2 : px_L} (h : pk_table c v I L x I2 L2) : I2 103 2 = I 103 2 := by
  unfold pk_table at h
  obtain ⟨rfl, h⟩ := h
  rcases h with ⟨a1, rfl, rfl⟩ | ⟨a1, rfl, rfl⟩
  · (repeat rw [px_u_out (by omega)])
  · rfl

theorem eb_repair_33_8 {g p y x : Int32} {I I2 : px_I} {L L2 : px_L} (h : pb_repair g p y I L x I2 L2) : I2 33 8 = I 33 8 := by
  unfold pb_repair at h
  obtain ⟨rfl, h⟩ := h
  rcases h with ⟨G, g1, rfl, rfl⟩ | ⟨a1, rfl, rfl⟩
  · have g2 := g1.1
    have gG : G = 41 ∨ G = 55 := by unfold bG at g2; omega
    unfold cRep; (repeat rw [px_u_out (by omega)])
  · rfl

theorem ek_repair_103_2 {g p y x : Int32} {I I2 : px_I} {L L2 : px_L} (h : pk_repair g p y I L x I2 L2) : I2 103 2 = I 103 2 := by
  unfold pk_repair at h
  obtain ⟨rfl, h⟩ := h
  rcases h with ⟨a1, rfl, rfl⟩ | ⟨a1, rfl, rfl⟩
  · (repeat rw [px_u_out (by omega)])
  · rfl

theorem eb_lime_33_8 {v x : Int32} {I I2 : px_I} {L L2 : px_L} (h : pb_lime v I L x I2 L2) : I2 33 8 = I 33 8 := by
  unfold pb_lime at h
  obtain ⟨rfl, h⟩ := h
  rcases h with ⟨a1, rfl, rfl⟩ | ⟨a1, rfl, rfl⟩
  · (repeat rw [px_u_out (by omega)])
  · rfl

theorem ek_lime_103_2 {v x : Int32} {I I2 : px_I} {L L2 : px_L} (h : pk_lime v I L x I2 L2) : I2 103 2 = I 103 2 := by
  unfold pk_lime at h
  obtain ⟨rfl, h⟩ := h
  rcases h with ⟨a1, a2, rfl, rfl⟩ | ⟨a1, rfl, rfl⟩
  · (repeat rw [px_u_out (by omega)])
  · rfl

theorem eb_flow_33_8 {g y k h x : Int32} {I I2 : px_I} {L L2 : px_L} (h : pb_flow g y k h I L x I2 L2) : I2 33 8 = I 33 8 := by
  unfold pb_flow at h
  exact h.1 33 8 (by omega)

theorem ek_flow_103_2 {g y k h x : Int32} {I I2 : px_I} {L L2 : px_L} (h : pk_flow g y k h I L x I2 L2) : I2 103 2 = I 103 2 := by
  unfold pk_flow at h
  exact h.1 103 2 (by omega)

theorem eb_narrow_33_8 {g y k x : Int32} {I I2 : px_I} {L L2 : px_L} (h : pb_narrow g y k I L x I2 L2) : I2 33 8 = I 33 8 := by
  unfold pb_narrow at h
  exact h.1 33 8 (by omega)

theorem ek_narrow_103_2 {g y k x : Int32} {I I2 : px_I} {L L2 : px_L} (h : pk_narrow g y k I L x I2 L2) : I2 103 2 = I 103 2 := by
  unfold pk_narrow at h
  exact h.1 103 2 (by omega)

theorem eb_about_33_8 {w x : Int32} {I I2 : px_I} {L L2 : px_L} (h : pb_about w I L x I2 L2) : I2 33 8 = I 33 8 := by
  unfold pb_about at h
  rw [h.1]

theorem ek_about_103_2 {w x : Int32} {I I2 : px_I} {L L2 : px_L} (h : pk_about w I L x I2 L2) : I2 103 2 = I 103 2 := by
  unfold pk_about at h
  rw [h.1]

theorem eb_days_41_13 {x9 x : Int32} {I I2 : px_I} {L L2 : px_L} (h : pb_days x9 I L x I2 L2) : I2 41 13 = I 41 13 := by
  unfold pb_days at h
  obtain ⟨rfl, h⟩ := h
  rcases h with ⟨a1, a2, rfl, rfl⟩ | ⟨a1, rfl, rfl⟩
  · (repeat rw [px_u_out (by omega)])
  · rfl

theorem ek_days_110_0 {x9 x : Int32} {I I2 : px_I} {L L2 : px_L} (h : pk_days x9 I L x I2 L2) : I2 110 0 = I 110 0 := by
  unfold pk_days at h
  obtain ⟨rfl, h⟩ := h
  rcases h with ⟨a1, a2, a3, rfl, rfl⟩ | ⟨a1, rfl, rfl⟩
  · (repeat rw [px_u_out (by omega)])
  · rfl

theorem eb_station_41_13 { x : Int32} {I I2 : px_I} {L L2 : px_L} (h : pb_station  I L x I2 L2) : I2 41 13 = I 41 13 := by
  unfold pb_station at h
  obtain ⟨rfl, h⟩ := h
  rcases h with ⟨a1, rfl, rfl⟩ | ⟨a1, rfl, rfl⟩
  · (repeat rw [px_u_out (by omega)])
  · rfl

theorem ek_station_110_0 { x : Int32} {I I2 : px_I} {L L2 : px_L} (h : pk_station  I L x I2 L2) : I2 110 0 = I 110 0 := by
  unfold pk_station at h
  obtain ⟨rfl, h⟩ := h
  rcases h with ⟨a1, rfl, rfl⟩ | ⟨a1, rfl, rfl⟩
  · (repeat rw [px_u_out (by omega)])
  · rfl

theorem eb_sight_41_13 {a f t lo hi x : Int32} {I I2 : px_I} {L L2 : px_L} (h : pb_sight a f t lo hi I L x I2 L2) : I2 41 13 = I 41 13 := by
  unfold pb_sight at h
  obtain ⟨rfl, h⟩ := h
  rcases h with ⟨a1, rfl, rfl⟩ | ⟨a1, rfl, rfl⟩
  · (repeat rw [px_u_out (by omega)])
  · rfl

theorem ek_sight_110_0 {a f t lo hi x : Int32} {I I2 : px_I} {L L2 : px_L} (h : pk_sight a f t lo hi I L x I2 L2) : I2 110 0 = I 110 0 := by
  unfold pk_sight at h
  obtain ⟨rfl, h⟩ := h
  rcases h with ⟨a1, rfl, rfl⟩ | ⟨a1, rfl, rfl⟩
  · (repeat rw [px_u_out (by omega)])
  · rfl

theorem eb_closed_41_13 {a k x : Int32} {I I2 : px_I} {L L2 : px_L} (h : pb_closed a k I L x I2 L2) : I2 41 13 = I 41 13 := by
  unfold pb_closed at h
  obtain ⟨rfl, h⟩ := h
  rfl

theorem ek_closed_110_0 {a k x : Int32} {I I2 : px_I} {L L2 : px_L} (h : pk_closed a k I L x I2 L2) : I2 110 0 = I 110 0 := by
  unfold pk_closed at h
  exact h.1 110 0 (by omega)

theorem eb_span_41_13 {a t k h x : Int32} {I I2 : px_I} {L L2 : px_L} (h : pb_span a t k h I L x I2 L2) : I2 41 13 = I 41 13 := by
  unfold pb_span at h
  obtain ⟨rfl, h⟩ := h
  rfl

theorem ek_span_110_0 {a t k h x : Int32} {I I2 : px_I} {L L2 : px_L} (h : pk_span a t k h I L x I2 L2) : I2 110 0 = I 110 0 := by
  unfold pk_span at h
  exact h.1 110 0 (by omega)

theorem eb_gap_41_13 {a f t k h x : Int32} {I I2 : px_I} {L L2 : px_L} (h : pb_gap a f t k h I L x I2 L2) : I2 41 13 = I 41 13 := by
  unfold pb_gap at h
  obtain ⟨rfl, h⟩ := h
  rfl

theorem ek_gap_110_0 {a f t k h x : Int32} {I I2 : px_I} {L L2 : px_L} (h : pk_gap a f t k h I L x I2 L2) : I2 110 0 = I 110 0 := by
  unfold pk_gap at h
  exact h.1 110 0 (by omega)

theorem eb_blamed_41_13 {a k i x : Int32} {I I2 : px_I} {L L2 : px_L} (h : pb_blamed a k i I L x I2 L2) : I2 41 13 = I 41 13 := by
  unfold pb_blamed at h
  obtain ⟨rfl, h⟩ := h
  rfl

theorem ek_blamed_110_0 {a k i x : Int32} {I I2 : px_I} {L L2 : px_L} (h : pk_blamed a k i I L x I2 L2) : I2 110 0 = I 110 0 := by
  unfold pk_blamed at h
  exact h.1 110 0 (by omega)

theorem eb_mouth_41_13 {g st x : Int32} {I I2 : px_I} {L L2 : px_L} (h : pb_mouth g st I L x I2 L2) : I2 41 13 = I 41 13 := by
  unfold pb_mouth at h
  obtain ⟨rfl, h⟩ := h
  rcases h with ⟨G, g1, rfl⟩ | rfl
  · have gG : G = 41 ∨ G = 55 := by unfold bG at g1; omega
    (repeat rw [px_u_out (by omega)])
  · rfl

theorem ek_mouth_110_0 {g st x : Int32} {I I2 : px_I} {L L2 : px_L} (h : pk_mouth g st I L x I2 L2) : I2 110 0 = I 110 0 := by
  unfold pk_mouth at h
  obtain ⟨rfl, h⟩ := h
  rcases h with ⟨a1, a2, rfl, rfl⟩ | ⟨a1, rfl, rfl⟩
  · (repeat rw [px_u_out (by omega)])
  · rfl

theorem eb_mark_41_13 {g p f t x : Int32} {I I2 : px_I} {L L2 : px_L} (h : pb_mark g p f t I L x I2 L2) : I2 41 13 = I 41 13 := by
  unfold pb_mark at h
  obtain ⟨rfl, h⟩ := h
  rcases h with ⟨G, g1, rfl, rfl⟩ | ⟨a1, rfl, rfl⟩
  · have g2 := g1.1
    have gG : G = 41 ∨ G = 55 := by unfold bG at g2; omega
    unfold cMark; (repeat rw [px_u_out (by omega)])
  · rfl

theorem ek_mark_110_0 {g p f t x : Int32} {I I2 : px_I} {L L2 : px_L} (h : pk_mark g p f t I L x I2 L2) : I2 110 0 = I 110 0 := by
  unfold pk_mark at h
  obtain ⟨rfl, h⟩ := h
  rcases h with ⟨a1, rfl, rfl⟩ | ⟨a1, rfl, rfl⟩
  · unfold mMark; (repeat rw [px_u_out (by omega)])
  · rfl

theorem eb_when_41_13 {g p h x : Int32} {I I2 : px_I} {L L2 : px_L} (h : pb_when g p h I L x I2 L2) : I2 41 13 = I 41 13 := by
  unfold pb_when at h
  obtain ⟨rfl, h⟩ := h
  rw [h 41 (by decide) (by decide) (by decide) (by decide)]

theorem ek_when_110_0 {g p h x : Int32} {I I2 : px_I} {L L2 : px_L} (h : pk_when g p h I L x I2 L2) : I2 110 0 = I 110 0 := by
  unfold pk_when at h
  exact h.1 110 0 (by omega)

theorem eb_between_41_13 {g p q h x : Int32} {I I2 : px_I} {L L2 : px_L} (h : pb_between g p q h I L x I2 L2) : I2 41 13 = I 41 13 := by
  unfold pb_between at h
  obtain ⟨rfl, h⟩ := h
  rw [h 41 (by decide) (by decide) (by decide) (by decide)]

theorem ek_between_110_0 {g p t h x : Int32} {I I2 : px_I} {L L2 : px_L} (h : pk_between g p t h I L x I2 L2) : I2 110 0 = I 110 0 := by
  unfold pk_between at h
  exact h.1 110 0 (by omega)

theorem eb_lamps_41_13 {g p h lo hi x : Int32} {I I2 : px_I} {L L2 : px_L} (h : pb_lamps g p h lo hi I L x I2 L2) : I2 41 13 = I 41 13 := by
  unfold pb_lamps at h
  rw [h.1]

theorem ek_lamps_110_0 {g p h lo hi x : Int32} {I I2 : px_I} {L L2 : px_L} (h : pk_lamps g p h lo hi I L x I2 L2) : I2 110 0 = I 110 0 := by
  unfold pk_lamps at h
  rw [h.1]

theorem eb_count_41_13 {u lo hi x : Int32} {I I2 : px_I} {L L2 : px_L} (h : pb_count u lo hi I L x I2 L2) : I2 41 13 = I 41 13 := by
  unfold pb_count at h
  obtain ⟨rfl, h⟩ := h
  rcases h with ⟨a1, rfl, rfl⟩ | ⟨a1, rfl, rfl⟩
  · (repeat rw [px_u_out (by omega)])
  · rfl

theorem ek_count_110_0 {u lo hi x : Int32} {I I2 : px_I} {L L2 : px_L} (h : pk_count u lo hi I L x I2 L2) : I2 110 0 = I 110 0 := by
  unfold pk_count at h
  rcases h with ⟨a1, rfl, rfl, rfl⟩ | ⟨a1, rfl, rfl, rfl⟩
  · (repeat rw [px_u_out (by omega)])
  · rfl

theorem eb_unit_41_13 {h x : Int32} {I I2 : px_I} {L L2 : px_L} (h : pb_unit h I L x I2 L2) : I2 41 13 = I 41 13 := by
  unfold pb_unit at h
  rw [h.1]

theorem ek_unit_110_0 {h x : Int32} {I I2 : px_I} {L L2 : px_L} (h : pk_unit h I L x I2 L2) : I2 110 0 = I 110 0 := by
  unfold pk_unit at h
  rw [h.1]

theorem eb_feed_41_13 {a b c d e x : Int32} {I I2 : px_I} {L L2 : px_L} (h : pb_feed a b c d e I L x I2 L2) : I2 41 13 = I 41 13 := by
  unfold pb_feed at h
  obtain ⟨rfl, h⟩ := h
  rcases h with ⟨a1, rfl, rfl⟩ | ⟨a1, rfl, rfl⟩
  · rw [cApp_at _ _ 41 13 (by omega) (by omega), cApp_at _ _ 41 13 (by omega) (by omega), cApp_at _ _ 41 13 (by omega) (by omega), cApp_at _ _ 41 13 (by omega) (by omega), cApp_at _ _ 41 13 (by omega) (by omega)]
  · rfl

theorem ek_feed_110_0 {a b c d e x : Int32} {I I2 : px_I} {L L2 : px_L} (h : pk_feed a b c d e I L x I2 L2) : I2 110 0 = I 110 0 := by
  unfold pk_feed at h
  obtain ⟨rfl, h⟩ := h
  rcases h with ⟨a1, rfl, rfl⟩ | ⟨a1, rfl, rfl⟩
  · rw [mPut_o (by omega) (by omega), mPut_o (by omega) (by omega), mPut_o (by omega) (by omega), mPut_o (by omega) (by omega), mPut_o (by omega) (by omega)]
  · rfl

theorem eb_end_41_13 {x9 x : Int32} {I I2 : px_I} {L L2 : px_L} (h : pb_end x9 I L x I2 L2) : I2 41 13 = I 41 13 := by
  unfold pb_end at h
  obtain ⟨rfl, h⟩ := h
  rcases h with ⟨a1, rfl, rfl⟩ | ⟨a1, rfl, rfl⟩
  · (repeat rw [px_u_out (by omega)])
  · rfl

theorem ek_end_110_0 {x9 x : Int32} {I I2 : px_I} {L L2 : px_L} (h : pk_end x9 I L x I2 L2) : I2 110 0 = I 110 0 := by
  unfold pk_end at h
  obtain ⟨rfl, h⟩ := h
  rcases h with ⟨a1, a2, rfl, rfl⟩ | ⟨a1, rfl, rfl⟩
  · (repeat rw [px_u_out (by omega)])
  · rfl

theorem eb_way_41_13 {i x : Int32} {I I2 : px_I} {L L2 : px_L} (h : pb_way i I L x I2 L2) : I2 41 13 = I 41 13 := by
  unfold pb_way at h
  exact h.1 41 13 (by omega) (by omega) (by omega) (by omega) (by omega)

theorem ek_way_110_0 {w x : Int32} {I I2 : px_I} {L L2 : px_L} (h : pk_way w I L x I2 L2) : I2 110 0 = I 110 0 := by
  unfold pk_way at h
  obtain ⟨rfl, h⟩ := h
  rcases h with ⟨a1, a2, rfl⟩ | ⟨a1, a2, a3⟩
  · rfl
  · exact a2 110 0 (by omega) (by omega)

theorem eb_fault_41_13 {x9 x : Int32} {I I2 : px_I} {L L2 : px_L} (h : pb_fault x9 I L x I2 L2) : I2 41 13 = I 41 13 := by
  unfold pb_fault at h
  rw [h.1]

theorem ek_fault_110_0 {x9 x : Int32} {I I2 : px_I} {L L2 : px_L} (h : pk_fault x9 I L x I2 L2) : I2 110 0 = I 110 0 := by
  unfold pk_fault at h
  rw [h.1]

theorem eb_tools_41_13 {a b c d e x : Int32} {I I2 : px_I} {L L2 : px_L} (h : pb_tools a b c d e I L x I2 L2) : I2 41 13 = I 41 13 := by
  unfold pb_tools at h
  obtain ⟨rfl, h⟩ := h
  rcases h with ⟨a1, rfl, a2⟩ | ⟨a1, rfl, rfl⟩
  · rw [a2 41 (by decide)]; (repeat rw [px_u_out (by omega)])
  · rfl

theorem ek_tools_110_0 {a b c d e x : Int32} {I I2 : px_I} {L L2 : px_L} (h : pk_tools a b c d e I L x I2 L2) : I2 110 0 = I 110 0 := by
  unfold pk_tools at h
  obtain ⟨rfl, h⟩ := h
  rcases h with ⟨a1, rfl, rfl⟩ | ⟨a1, rfl, rfl⟩
  · (repeat rw [px_u_out (by omega)])
  · rfl

theorem eb_run_41_13 {w h a x : Int32} {I I2 : px_I} {L L2 : px_L} (h : pb_run w h a I L x I2 L2) : I2 41 13 = I 41 13 := by
  unfold pb_run at h
  exact h.1 41 13 (by omega) (by omega) (by omega) (by omega) (by omega) (by omega) (by omega)

theorem ek_run_110_0 {w h a x : Int32} {I I2 : px_I} {L L2 : px_L} (h : pk_run w h a I L x I2 L2) : I2 110 0 = I 110 0 := by
  unfold pk_run at h
  exact h.1 110 0 (by omega) (by omega) (by omega)

theorem eb_meeting_41_13 {a f b t x9 h x : Int32} {I I2 : px_I} {L L2 : px_L} (h : pb_meeting a f b t x9 h I L x I2 L2) : I2 41 13 = I 41 13 := by
  unfold pb_meeting at h
  exact h.1 41 13 (by omega) (by omega) (by omega) (by omega) (by omega) (by omega) (by omega)

theorem ek_meeting_110_0 {a f b t x9 h x : Int32} {I I2 : px_I} {L L2 : px_L} (h : pk_meeting a f b t x9 h I L x I2 L2) : I2 110 0 = I 110 0 := by
  unfold pk_meeting at h
  exact h.1 110 0 (by omega) (by omega) (by omega)

theorem eb_there_41_13 {a lo hi x : Int32} {I I2 : px_I} {L L2 : px_L} (h : pb_there a lo hi I L x I2 L2) : I2 41 13 = I 41 13 := by
  unfold pb_there at h
  obtain ⟨rfl, h⟩ := h
  rcases h with ⟨a1, rfl, rfl⟩ | ⟨a1, rfl, rfl⟩
  · (repeat rw [px_u_out (by omega)])
  · rfl

theorem ek_there_110_0 {a lo hi x : Int32} {I I2 : px_I} {L L2 : px_L} (h : pk_there a lo hi I L x I2 L2) : I2 110 0 = I 110 0 := by
  unfold pk_there at h
  obtain ⟨rfl, h⟩ := h
  rcases h with ⟨a1, rfl, rfl⟩ | ⟨a1, rfl, rfl⟩
  · (repeat rw [px_u_out (by omega)])
  · rfl

theorem eb_fits_41_13 {a f b t x : Int32} {I I2 : px_I} {L L2 : px_L} (h : pb_fits a f b t I L x I2 L2) : I2 41 13 = I 41 13 := by
  unfold pb_fits at h
  exact h.1 41 13 (by omega) (by omega) (by omega) (by omega) (by omega) (by omega) (by omega)

theorem ek_fits_110_0 {a f b t x : Int32} {I I2 : px_I} {L L2 : px_L} (h : pk_fits a f b t I L x I2 L2) : I2 110 0 = I 110 0 := by
  unfold pk_fits at h
  exact h.1 110 0 (by omega) (by omega) (by omega)

theorem eb_ways_41_13 {a f b t x9 x : Int32} {I I2 : px_I} {L L2 : px_L} (h : pb_ways a f b t x9 I L x I2 L2) : I2 41 13 = I 41 13 := by
  unfold pb_ways at h
  exact h.1 41 13 (by omega) (by omega) (by omega) (by omega) (by omega) (by omega) (by omega)

theorem ek_ways_110_0 {a f b t x9 x : Int32} {I I2 : px_I} {L L2 : px_L} (h : pk_ways a f b t x9 I L x I2 L2) : I2 110 0 = I 110 0 := by
  unfold pk_ways at h
  exact h.1 110 0 (by omega) (by omega) (by omega)

theorem eb_seek_41_13 {a b c d e f x : Int32} {I I2 : px_I} {L L2 : px_L} (h : pb_seek a b c d e f I L x I2 L2) : I2 41 13 = I 41 13 := by
  unfold pb_seek at h
  obtain ⟨rfl, h⟩ := h
  rcases h with ⟨a1, rfl, rfl⟩ | ⟨a1, rfl, rfl⟩
  · (repeat rw [px_u_out (by omega)])
  · rfl

theorem ek_seek_110_0 {a b c d e f x : Int32} {I I2 : px_I} {L L2 : px_L} (h : pk_seek a b c d e f I L x I2 L2) : I2 110 0 = I 110 0 := by
  unfold pk_seek at h
  obtain ⟨rfl, h⟩ := h
  rcases h with ⟨a1, rfl, rfl⟩ | ⟨a1, rfl, rfl⟩
  · (repeat rw [px_u_out (by omega)])
  · rfl

theorem eb_detour_41_13 {a o h x : Int32} {I I2 : px_I} {L L2 : px_L} (h : pb_detour a o h I L x I2 L2) : I2 41 13 = I 41 13 := by
  unfold pb_detour at h
  rw [h.1]

theorem ek_detour_110_0 {a o lo x : Int32} {I I2 : px_I} {L L2 : px_L} (h : pk_detour a o lo I L x I2 L2) : I2 110 0 = I 110 0 := by
  unfold pk_detour at h
  rw [h.1]

theorem eb_table_41_13 {c v x : Int32} {I I2 : px_I} {L L2 : px_L} (h : pb_table c v I L x I2 L2) : I2 41 13 = I 41 13 := by
  unfold pb_table at h
  obtain ⟨rfl, h⟩ := h
  rcases h with ⟨a1, rfl, rfl⟩ | ⟨a1, rfl, rfl⟩
  · (repeat rw [px_u_out (by omega)])
  · rfl

theorem ek_table_110_0 {c v x : Int32} {I I2 : px_I} {L L2 : px_L} (h : pk_table c v I L x I2 L2) : I2 110 0 = I 110 0 := by
  unfold pk_table at h
  obtain ⟨rfl, h⟩ := h
  rcases h with ⟨a1, rfl, rfl⟩ | ⟨a1, rfl, rfl⟩
  · (repeat rw [px_u_out (by omega)])
  · rfl

theorem eb_repair_41_13 {g p y x : Int32} {I I2 : px_I} {L L2 : px_L} (h : pb_repair g p y I L x I2 L2) : I2 41 13 = I 41 13 := by
  unfold pb_repair at h
  obtain ⟨rfl, h⟩ := h
  rcases h with ⟨G, g1, rfl, rfl⟩ | ⟨a1, rfl, rfl⟩
  · have g2 := g1.1
    have gG : G = 41 ∨ G = 55 := by unfold bG at g2; omega
    unfold cRep; (repeat rw [px_u_out (by omega)])
  · rfl

theorem ek_repair_110_0 {g p y x : Int32} {I I2 : px_I} {L L2 : px_L} (h : pk_repair g p y I L x I2 L2) : I2 110 0 = I 110 0 := by
  unfold pk_repair at h
  obtain ⟨rfl, h⟩ := h
  rcases h with ⟨a1, rfl, rfl⟩ | ⟨a1, rfl, rfl⟩
  · (repeat rw [px_u_out (by omega)])
  · rfl

theorem eb_lime_41_13 {v x : Int32} {I I2 : px_I} {L L2 : px_L} (h : pb_lime v I L x I2 L2) : I2 41 13 = I 41 13 := by
  unfold pb_lime at h
  obtain ⟨rfl, h⟩ := h
  rcases h with ⟨a1, rfl, rfl⟩ | ⟨a1, rfl, rfl⟩
  · (repeat rw [px_u_out (by omega)])
  · rfl

theorem ek_lime_110_0 {v x : Int32} {I I2 : px_I} {L L2 : px_L} (h : pk_lime v I L x I2 L2) : I2 110 0 = I 110 0 := by
  unfold pk_lime at h
  obtain ⟨rfl, h⟩ := h
  rcases h with ⟨a1, a2, rfl, rfl⟩ | ⟨a1, rfl, rfl⟩
  · (repeat rw [px_u_out (by omega)])
  · rfl

theorem eb_flow_41_13 {g y k h x : Int32} {I I2 : px_I} {L L2 : px_L} (h : pb_flow g y k h I L x I2 L2) : I2 41 13 = I 41 13 := by
  unfold pb_flow at h
  exact h.1 41 13 (by omega)

theorem ek_flow_110_0 {g y k h x : Int32} {I I2 : px_I} {L L2 : px_L} (h : pk_flow g y k h I L x I2 L2) : I2 110 0 = I 110 0 := by
  unfold pk_flow at h
  exact h.1 110 0 (by omega)

theorem eb_narrow_41_13 {g y k x : Int32} {I I2 : px_I} {L L2 : px_L} (h : pb_narrow g y k I L x I2 L2) : I2 41 13 = I 41 13 := by
  unfold pb_narrow at h
  exact h.1 41 13 (by omega)

theorem ek_narrow_110_0 {g y k x : Int32} {I I2 : px_I} {L L2 : px_L} (h : pk_narrow g y k I L x I2 L2) : I2 110 0 = I 110 0 := by
  unfold pk_narrow at h
  exact h.1 110 0 (by omega)

theorem eb_about_41_13 {w x : Int32} {I I2 : px_I} {L L2 : px_L} (h : pb_about w I L x I2 L2) : I2 41 13 = I 41 13 := by
  unfold pb_about at h
  rw [h.1]

theorem ek_about_110_0 {w x : Int32} {I I2 : px_I} {L L2 : px_L} (h : pk_about w I L x I2 L2) : I2 110 0 = I 110 0 := by
  unfold pk_about at h
  rw [h.1]

theorem eb_days_55_13 {x9 x : Int32} {I I2 : px_I} {L L2 : px_L} (h : pb_days x9 I L x I2 L2) : I2 55 13 = I 55 13 := by
  unfold pb_days at h
  obtain ⟨rfl, h⟩ := h
  rcases h with ⟨a1, a2, rfl, rfl⟩ | ⟨a1, rfl, rfl⟩
  · (repeat rw [px_u_out (by omega)])
  · rfl

theorem ek_days_110_1 {x9 x : Int32} {I I2 : px_I} {L L2 : px_L} (h : pk_days x9 I L x I2 L2) : I2 110 1 = I 110 1 := by
  unfold pk_days at h
  obtain ⟨rfl, h⟩ := h
  rcases h with ⟨a1, a2, a3, rfl, rfl⟩ | ⟨a1, rfl, rfl⟩
  · (repeat rw [px_u_out (by omega)])
  · rfl

theorem eb_station_55_13 { x : Int32} {I I2 : px_I} {L L2 : px_L} (h : pb_station  I L x I2 L2) : I2 55 13 = I 55 13 := by
  unfold pb_station at h
  obtain ⟨rfl, h⟩ := h
  rcases h with ⟨a1, rfl, rfl⟩ | ⟨a1, rfl, rfl⟩
  · (repeat rw [px_u_out (by omega)])
  · rfl

theorem ek_station_110_1 { x : Int32} {I I2 : px_I} {L L2 : px_L} (h : pk_station  I L x I2 L2) : I2 110 1 = I 110 1 := by
  unfold pk_station at h
  obtain ⟨rfl, h⟩ := h
  rcases h with ⟨a1, rfl, rfl⟩ | ⟨a1, rfl, rfl⟩
  · (repeat rw [px_u_out (by omega)])
  · rfl

theorem eb_sight_55_13 {a f t lo hi x : Int32} {I I2 : px_I} {L L2 : px_L} (h : pb_sight a f t lo hi I L x I2 L2) : I2 55 13 = I 55 13 := by
  unfold pb_sight at h
  obtain ⟨rfl, h⟩ := h
  rcases h with ⟨a1, rfl, rfl⟩ | ⟨a1, rfl, rfl⟩
  · (repeat rw [px_u_out (by omega)])
  · rfl

theorem ek_sight_110_1 {a f t lo hi x : Int32} {I I2 : px_I} {L L2 : px_L} (h : pk_sight a f t lo hi I L x I2 L2) : I2 110 1 = I 110 1 := by
  unfold pk_sight at h
  obtain ⟨rfl, h⟩ := h
  rcases h with ⟨a1, rfl, rfl⟩ | ⟨a1, rfl, rfl⟩
  · (repeat rw [px_u_out (by omega)])
  · rfl

theorem eb_closed_55_13 {a k x : Int32} {I I2 : px_I} {L L2 : px_L} (h : pb_closed a k I L x I2 L2) : I2 55 13 = I 55 13 := by
  unfold pb_closed at h
  obtain ⟨rfl, h⟩ := h
  rfl

theorem ek_closed_110_1 {a k x : Int32} {I I2 : px_I} {L L2 : px_L} (h : pk_closed a k I L x I2 L2) : I2 110 1 = I 110 1 := by
  unfold pk_closed at h
  exact h.1 110 1 (by omega)

theorem eb_span_55_13 {a t k h x : Int32} {I I2 : px_I} {L L2 : px_L} (h : pb_span a t k h I L x I2 L2) : I2 55 13 = I 55 13 := by
  unfold pb_span at h
  obtain ⟨rfl, h⟩ := h
  rfl

theorem ek_span_110_1 {a t k h x : Int32} {I I2 : px_I} {L L2 : px_L} (h : pk_span a t k h I L x I2 L2) : I2 110 1 = I 110 1 := by
  unfold pk_span at h
  exact h.1 110 1 (by omega)

theorem eb_gap_55_13 {a f t k h x : Int32} {I I2 : px_I} {L L2 : px_L} (h : pb_gap a f t k h I L x I2 L2) : I2 55 13 = I 55 13 := by
  unfold pb_gap at h
  obtain ⟨rfl, h⟩ := h
  rfl

theorem ek_gap_110_1 {a f t k h x : Int32} {I I2 : px_I} {L L2 : px_L} (h : pk_gap a f t k h I L x I2 L2) : I2 110 1 = I 110 1 := by
  unfold pk_gap at h
  exact h.1 110 1 (by omega)

theorem eb_blamed_55_13 {a k i x : Int32} {I I2 : px_I} {L L2 : px_L} (h : pb_blamed a k i I L x I2 L2) : I2 55 13 = I 55 13 := by
  unfold pb_blamed at h
  obtain ⟨rfl, h⟩ := h
  rfl

theorem ek_blamed_110_1 {a k i x : Int32} {I I2 : px_I} {L L2 : px_L} (h : pk_blamed a k i I L x I2 L2) : I2 110 1 = I 110 1 := by
  unfold pk_blamed at h
  exact h.1 110 1 (by omega)

theorem eb_mouth_55_13 {g st x : Int32} {I I2 : px_I} {L L2 : px_L} (h : pb_mouth g st I L x I2 L2) : I2 55 13 = I 55 13 := by
  unfold pb_mouth at h
  obtain ⟨rfl, h⟩ := h
  rcases h with ⟨G, g1, rfl⟩ | rfl
  · have gG : G = 41 ∨ G = 55 := by unfold bG at g1; omega
    (repeat rw [px_u_out (by omega)])
  · rfl

theorem ek_mouth_110_1 {g st x : Int32} {I I2 : px_I} {L L2 : px_L} (h : pk_mouth g st I L x I2 L2) : I2 110 1 = I 110 1 := by
  unfold pk_mouth at h
  obtain ⟨rfl, h⟩ := h
  rcases h with ⟨a1, a2, rfl, rfl⟩ | ⟨a1, rfl, rfl⟩
  · (repeat rw [px_u_out (by omega)])
  · rfl

theorem eb_mark_55_13 {g p f t x : Int32} {I I2 : px_I} {L L2 : px_L} (h : pb_mark g p f t I L x I2 L2) : I2 55 13 = I 55 13 := by
  unfold pb_mark at h
  obtain ⟨rfl, h⟩ := h
  rcases h with ⟨G, g1, rfl, rfl⟩ | ⟨a1, rfl, rfl⟩
  · have g2 := g1.1
    have gG : G = 41 ∨ G = 55 := by unfold bG at g2; omega
    unfold cMark; (repeat rw [px_u_out (by omega)])
  · rfl

theorem ek_mark_110_1 {g p f t x : Int32} {I I2 : px_I} {L L2 : px_L} (h : pk_mark g p f t I L x I2 L2) : I2 110 1 = I 110 1 := by
  unfold pk_mark at h
  obtain ⟨rfl, h⟩ := h
  rcases h with ⟨a1, rfl, rfl⟩ | ⟨a1, rfl, rfl⟩
  · unfold mMark; (repeat rw [px_u_out (by omega)])
  · rfl

theorem eb_when_55_13 {g p h x : Int32} {I I2 : px_I} {L L2 : px_L} (h : pb_when g p h I L x I2 L2) : I2 55 13 = I 55 13 := by
  unfold pb_when at h
  obtain ⟨rfl, h⟩ := h
  rw [h 55 (by decide) (by decide) (by decide) (by decide)]

theorem ek_when_110_1 {g p h x : Int32} {I I2 : px_I} {L L2 : px_L} (h : pk_when g p h I L x I2 L2) : I2 110 1 = I 110 1 := by
  unfold pk_when at h
  exact h.1 110 1 (by omega)

theorem eb_between_55_13 {g p q h x : Int32} {I I2 : px_I} {L L2 : px_L} (h : pb_between g p q h I L x I2 L2) : I2 55 13 = I 55 13 := by
  unfold pb_between at h
  obtain ⟨rfl, h⟩ := h
  rw [h 55 (by decide) (by decide) (by decide) (by decide)]

theorem ek_between_110_1 {g p t h x : Int32} {I I2 : px_I} {L L2 : px_L} (h : pk_between g p t h I L x I2 L2) : I2 110 1 = I 110 1 := by
  unfold pk_between at h
  exact h.1 110 1 (by omega)

theorem eb_lamps_55_13 {g p h lo hi x : Int32} {I I2 : px_I} {L L2 : px_L} (h : pb_lamps g p h lo hi I L x I2 L2) : I2 55 13 = I 55 13 := by
  unfold pb_lamps at h
  rw [h.1]

theorem ek_lamps_110_1 {g p h lo hi x : Int32} {I I2 : px_I} {L L2 : px_L} (h : pk_lamps g p h lo hi I L x I2 L2) : I2 110 1 = I 110 1 := by
  unfold pk_lamps at h
  rw [h.1]

theorem eb_count_55_13 {u lo hi x : Int32} {I I2 : px_I} {L L2 : px_L} (h : pb_count u lo hi I L x I2 L2) : I2 55 13 = I 55 13 := by
  unfold pb_count at h
  obtain ⟨rfl, h⟩ := h
  rcases h with ⟨a1, rfl, rfl⟩ | ⟨a1, rfl, rfl⟩
  · (repeat rw [px_u_out (by omega)])
  · rfl

theorem ek_count_110_1 {u lo hi x : Int32} {I I2 : px_I} {L L2 : px_L} (h : pk_count u lo hi I L x I2 L2) : I2 110 1 = I 110 1 := by
  unfold pk_count at h
  rcases h with ⟨a1, rfl, rfl, rfl⟩ | ⟨a1, rfl, rfl, rfl⟩
  · (repeat rw [px_u_out (by omega)])
  · rfl

theorem eb_unit_55_13 {h x : Int32} {I I2 : px_I} {L L2 : px_L} (h : pb_unit h I L x I2 L2) : I2 55 13 = I 55 13 := by
  unfold pb_unit at h
  rw [h.1]

theorem ek_unit_110_1 {h x : Int32} {I I2 : px_I} {L L2 : px_L} (h : pk_unit h I L x I2 L2) : I2 110 1 = I 110 1 := by
  unfold pk_unit at h
  rw [h.1]

theorem eb_feed_55_13 {a b c d e x : Int32} {I I2 : px_I} {L L2 : px_L} (h : pb_feed a b c d e I L x I2 L2) : I2 55 13 = I 55 13 := by
  unfold pb_feed at h
  obtain ⟨rfl, h⟩ := h
  rcases h with ⟨a1, rfl, rfl⟩ | ⟨a1, rfl, rfl⟩
  · rw [cApp_at _ _ 55 13 (by omega) (by omega), cApp_at _ _ 55 13 (by omega) (by omega), cApp_at _ _ 55 13 (by omega) (by omega), cApp_at _ _ 55 13 (by omega) (by omega), cApp_at _ _ 55 13 (by omega) (by omega)]
  · rfl

theorem ek_feed_110_1 {a b c d e x : Int32} {I I2 : px_I} {L L2 : px_L} (h : pk_feed a b c d e I L x I2 L2) : I2 110 1 = I 110 1 := by
  unfold pk_feed at h
  obtain ⟨rfl, h⟩ := h
  rcases h with ⟨a1, rfl, rfl⟩ | ⟨a1, rfl, rfl⟩
  · rw [mPut_o (by omega) (by omega), mPut_o (by omega) (by omega), mPut_o (by omega) (by omega), mPut_o (by omega) (by omega), mPut_o (by omega) (by omega)]
  · rfl

theorem eb_end_55_13 {x9 x : Int32} {I I2 : px_I} {L L2 : px_L} (h : pb_end x9 I L x I2 L2) : I2 55 13 = I 55 13 := by
  unfold pb_end at h
  obtain ⟨rfl, h⟩ := h
  rcases h with ⟨a1, rfl, rfl⟩ | ⟨a1, rfl, rfl⟩
  · (repeat rw [px_u_out (by omega)])
  · rfl

theorem ek_end_110_1 {x9 x : Int32} {I I2 : px_I} {L L2 : px_L} (h : pk_end x9 I L x I2 L2) : I2 110 1 = I 110 1 := by
  unfold pk_end at h
  obtain ⟨rfl, h⟩ := h
  rcases h with ⟨a1, a2, rfl, rfl⟩ | ⟨a1, rfl, rfl⟩
  · (repeat rw [px_u_out (by omega)])
  · rfl

theorem eb_way_55_13 {i x : Int32} {I I2 : px_I} {L L2 : px_L} (h : pb_way i I L x I2 L2) : I2 55 13 = I 55 13 := by
  unfold pb_way at h
  exact h.1 55 13 (by omega) (by omega) (by omega) (by omega) (by omega)

theorem ek_way_110_1 {w x : Int32} {I I2 : px_I} {L L2 : px_L} (h : pk_way w I L x I2 L2) : I2 110 1 = I 110 1 := by
  unfold pk_way at h
  obtain ⟨rfl, h⟩ := h
  rcases h with ⟨a1, a2, rfl⟩ | ⟨a1, a2, a3⟩
  · rfl
  · exact a2 110 1 (by omega) (by omega)

theorem eb_fault_55_13 {x9 x : Int32} {I I2 : px_I} {L L2 : px_L} (h : pb_fault x9 I L x I2 L2) : I2 55 13 = I 55 13 := by
  unfold pb_fault at h
  rw [h.1]

theorem ek_fault_110_1 {x9 x : Int32} {I I2 : px_I} {L L2 : px_L} (h : pk_fault x9 I L x I2 L2) : I2 110 1 = I 110 1 := by
  unfold pk_fault at h
  rw [h.1]

theorem eb_tools_55_13 {a b c d e x : Int32} {I I2 : px_I} {L L2 : px_L} (h : pb_tools a b c d e I L x I2 L2) : I2 55 13 = I 55 13 := by
  unfold pb_tools at h
  obtain ⟨rfl, h⟩ := h
  rcases h with ⟨a1, rfl, a2⟩ | ⟨a1, rfl, rfl⟩
  · rw [a2 55 (by decide)]; (repeat rw [px_u_out (by omega)])
  · rfl

theorem ek_tools_110_1 {a b c d e x : Int32} {I I2 : px_I} {L L2 : px_L} (h : pk_tools a b c d e I L x I2 L2) : I2 110 1 = I 110 1 := by
  unfold pk_tools at h
  obtain ⟨rfl, h⟩ := h
  rcases h with ⟨a1, rfl, rfl⟩ | ⟨a1, rfl, rfl⟩
  · (repeat rw [px_u_out (by omega)])
  · rfl

theorem eb_run_55_13 {w h a x : Int32} {I I2 : px_I} {L L2 : px_L} (h : pb_run w h a I L x I2 L2) : I2 55 13 = I 55 13 := by
  unfold pb_run at h
  exact h.1 55 13 (by omega) (by omega) (by omega) (by omega) (by omega) (by omega) (by omega)

theorem ek_run_110_1 {w h a x : Int32} {I I2 : px_I} {L L2 : px_L} (h : pk_run w h a I L x I2 L2) : I2 110 1 = I 110 1 := by
  unfold pk_run at h
  exact h.1 110 1 (by omega) (by omega) (by omega)

theorem eb_meeting_55_13 {a f b t x9 h x : Int32} {I I2 : px_I} {L L2 : px_L} (h : pb_meeting a f b t x9 h I L x I2 L2) : I2 55 13 = I 55 13 := by
  unfold pb_meeting at h
  exact h.1 55 13 (by omega) (by omega) (by omega) (by omega) (by omega) (by omega) (by omega)

theorem ek_meeting_110_1 {a f b t x9 h x : Int32} {I I2 : px_I} {L L2 : px_L} (h : pk_meeting a f b t x9 h I L x I2 L2) : I2 110 1 = I 110 1 := by
  unfold pk_meeting at h
  exact h.1 110 1 (by omega) (by omega) (by omega)

theorem eb_there_55_13 {a lo hi x : Int32} {I I2 : px_I} {L L2 : px_L} (h : pb_there a lo hi I L x I2 L2) : I2 55 13 = I 55 13 := by
  unfold pb_there at h
  obtain ⟨rfl, h⟩ := h
  rcases h with ⟨a1, rfl, rfl⟩ | ⟨a1, rfl, rfl⟩
  · (repeat rw [px_u_out (by omega)])
  · rfl

theorem ek_there_110_1 {a lo hi x : Int32} {I I2 : px_I} {L L2 : px_L} (h : pk_there a lo hi I L x I2 L2) : I2 110 1 = I 110 1 := by
  unfold pk_there at h
  obtain ⟨rfl, h⟩ := h
  rcases h with ⟨a1, rfl, rfl⟩ | ⟨a1, rfl, rfl⟩
  · (repeat rw [px_u_out (by omega)])
  · rfl

theorem eb_fits_55_13 {a f b t x : Int32} {I I2 : px_I} {L L2 : px_L} (h : pb_fits a f b t I L x I2 L2) : I2 55 13 = I 55 13 := by
  unfold pb_fits at h
  exact h.1 55 13 (by omega) (by omega) (by omega) (by omega) (by omega) (by omega) (by omega)

theorem ek_fits_110_1 {a f b t x : Int32} {I I2 : px_I} {L L2 : px_L} (h : pk_fits a f b t I L x I2 L2) : I2 110 1 = I 110 1 := by
  unfold pk_fits at h
  exact h.1 110 1 (by omega) (by omega) (by omega)

theorem eb_ways_55_13 {a f b t x9 x : Int32} {I I2 : px_I} {L L2 : px_L} (h : pb_ways a f b t x9 I L x I2 L2) : I2 55 13 = I 55 13 := by
  unfold pb_ways at h
  exact h.1 55 13 (by omega) (by omega) (by omega) (by omega) (by omega) (by omega) (by omega)

theorem ek_ways_110_1 {a f b t x9 x : Int32} {I I2 : px_I} {L L2 : px_L} (h : pk_ways a f b t x9 I L x I2 L2) : I2 110 1 = I 110 1 := by
  unfold pk_ways at h
  exact h.1 110 1 (by omega) (by omega) (by omega)

theorem eb_seek_55_13 {a b c d e f x : Int32} {I I2 : px_I} {L L2 : px_L} (h : pb_seek a b c d e f I L x I2 L2) : I2 55 13 = I 55 13 := by
  unfold pb_seek at h
  obtain ⟨rfl, h⟩ := h
  rcases h with ⟨a1, rfl, rfl⟩ | ⟨a1, rfl, rfl⟩
  · (repeat rw [px_u_out (by omega)])
  · rfl

theorem ek_seek_110_1 {a b c d e f x : Int32} {I I2 : px_I} {L L2 : px_L} (h : pk_seek a b c d e f I L x I2 L2) : I2 110 1 = I 110 1 := by
  unfold pk_seek at h
  obtain ⟨rfl, h⟩ := h
  rcases h with ⟨a1, rfl, rfl⟩ | ⟨a1, rfl, rfl⟩
  · (repeat rw [px_u_out (by omega)])
  · rfl

theorem eb_detour_55_13 {a o h x : Int32} {I I2 : px_I} {L L2 : px_L} (h : pb_detour a o h I L x I2 L2) : I2 55 13 = I 55 13 := by
  unfold pb_detour at h
  rw [h.1]

theorem ek_detour_110_1 {a o lo x : Int32} {I I2 : px_I} {L L2 : px_L} (h : pk_detour a o lo I L x I2 L2) : I2 110 1 = I 110 1 := by
  unfold pk_detour at h
  rw [h.1]

theorem eb_table_55_13 {c v x : Int32} {I I2 : px_I} {L L2 : px_L} (h : pb_table c v I L x I2 L2) : I2 55 13 = I 55 13 := by
  unfold pb_table at h
  obtain ⟨rfl, h⟩ := h
  rcases h with ⟨a1, rfl, rfl⟩ | ⟨a1, rfl, rfl⟩
  · (repeat rw [px_u_out (by omega)])
  · rfl

theorem ek_table_110_1 {c v x : Int32} {I I2 : px_I} {L L2 : px_L} (h : pk_table c v I L x I2 L2) : I2 110 1 = I 110 1 := by
  unfold pk_table at h
  obtain ⟨rfl, h⟩ := h
  rcases h with ⟨a1, rfl, rfl⟩ | ⟨a1, rfl, rfl⟩
  · (repeat rw [px_u_out (by omega)])
  · rfl

theorem eb_repair_55_13 {g p y x : Int32} {I I2 : px_I} {L L2 : px_L} (h : pb_repair g p y I L x I2 L2) : I2 55 13 = I 55 13 := by
  unfold pb_repair at h
  obtain ⟨rfl, h⟩ := h
  rcases h with ⟨G, g1, rfl, rfl⟩ | ⟨a1, rfl, rfl⟩
  · have g2 := g1.1
    have gG : G = 41 ∨ G = 55 := by unfold bG at g2; omega
    unfold cRep; (repeat rw [px_u_out (by omega)])
  · rfl

theorem ek_repair_110_1 {g p y x : Int32} {I I2 : px_I} {L L2 : px_L} (h : pk_repair g p y I L x I2 L2) : I2 110 1 = I 110 1 := by
  unfold pk_repair at h
  obtain ⟨rfl, h⟩ := h
  rcases h with ⟨a1, rfl, rfl⟩ | ⟨a1, rfl, rfl⟩
  · (repeat rw [px_u_out (by omega)])
  · rfl

theorem eb_lime_55_13 {v x : Int32} {I I2 : px_I} {L L2 : px_L} (h : pb_lime v I L x I2 L2) : I2 55 13 = I 55 13 := by
  unfold pb_lime at h
  obtain ⟨rfl, h⟩ := h
  rcases h with ⟨a1, rfl, rfl⟩ | ⟨a1, rfl, rfl⟩
  · (repeat rw [px_u_out (by omega)])
  · rfl

theorem ek_lime_110_1 {v x : Int32} {I I2 : px_I} {L L2 : px_L} (h : pk_lime v I L x I2 L2) : I2 110 1 = I 110 1 := by
  unfold pk_lime at h
  obtain ⟨rfl, h⟩ := h
  rcases h with ⟨a1, a2, rfl, rfl⟩ | ⟨a1, rfl, rfl⟩
  · (repeat rw [px_u_out (by omega)])
  · rfl

theorem eb_flow_55_13 {g y k h x : Int32} {I I2 : px_I} {L L2 : px_L} (h : pb_flow g y k h I L x I2 L2) : I2 55 13 = I 55 13 := by
  unfold pb_flow at h
  exact h.1 55 13 (by omega)

theorem ek_flow_110_1 {g y k h x : Int32} {I I2 : px_I} {L L2 : px_L} (h : pk_flow g y k h I L x I2 L2) : I2 110 1 = I 110 1 := by
  unfold pk_flow at h
  exact h.1 110 1 (by omega)

theorem eb_narrow_55_13 {g y k x : Int32} {I I2 : px_I} {L L2 : px_L} (h : pb_narrow g y k I L x I2 L2) : I2 55 13 = I 55 13 := by
  unfold pb_narrow at h
  exact h.1 55 13 (by omega)

theorem ek_narrow_110_1 {g y k x : Int32} {I I2 : px_I} {L L2 : px_L} (h : pk_narrow g y k I L x I2 L2) : I2 110 1 = I 110 1 := by
  unfold pk_narrow at h
  exact h.1 110 1 (by omega)

theorem eb_about_55_13 {w x : Int32} {I I2 : px_I} {L L2 : px_L} (h : pb_about w I L x I2 L2) : I2 55 13 = I 55 13 := by
  unfold pb_about at h
  rw [h.1]

theorem ek_about_110_1 {w x : Int32} {I I2 : px_I} {L L2 : px_L} (h : pk_about w I L x I2 L2) : I2 110 1 = I 110 1 := by
  unfold pk_about at h
  rw [h.1]

theorem eb_days_41_14 {x9 x : Int32} {I I2 : px_I} {L L2 : px_L} (h : pb_days x9 I L x I2 L2) : I2 41 14 = I 41 14 := by
  unfold pb_days at h
  obtain ⟨rfl, h⟩ := h
  rcases h with ⟨a1, a2, rfl, rfl⟩ | ⟨a1, rfl, rfl⟩
  · (repeat rw [px_u_out (by omega)])
  · rfl

theorem eb_days_55_14 {x9 x : Int32} {I I2 : px_I} {L L2 : px_L} (h : pb_days x9 I L x I2 L2) : I2 55 14 = I 55 14 := by
  unfold pb_days at h
  obtain ⟨rfl, h⟩ := h
  rcases h with ⟨a1, a2, rfl, rfl⟩ | ⟨a1, rfl, rfl⟩
  · (repeat rw [px_u_out (by omega)])
  · rfl

theorem ek_days_103_16 {x9 x : Int32} {I I2 : px_I} {L L2 : px_L} (h : pk_days x9 I L x I2 L2) : I2 103 16 = I 103 16 := by
  unfold pk_days at h
  obtain ⟨rfl, h⟩ := h
  rcases h with ⟨a1, a2, a3, rfl, rfl⟩ | ⟨a1, rfl, rfl⟩
  · (repeat rw [px_u_out (by omega)])
  · rfl

theorem eb_station_41_14 { x : Int32} {I I2 : px_I} {L L2 : px_L} (h : pb_station  I L x I2 L2) : I2 41 14 = I 41 14 := by
  unfold pb_station at h
  obtain ⟨rfl, h⟩ := h
  rcases h with ⟨a1, rfl, rfl⟩ | ⟨a1, rfl, rfl⟩
  · (repeat rw [px_u_out (by omega)])
  · rfl

theorem eb_station_55_14 { x : Int32} {I I2 : px_I} {L L2 : px_L} (h : pb_station  I L x I2 L2) : I2 55 14 = I 55 14 := by
  unfold pb_station at h
  obtain ⟨rfl, h⟩ := h
  rcases h with ⟨a1, rfl, rfl⟩ | ⟨a1, rfl, rfl⟩
  · (repeat rw [px_u_out (by omega)])
  · rfl

theorem ek_station_103_16 { x : Int32} {I I2 : px_I} {L L2 : px_L} (h : pk_station  I L x I2 L2) : I2 103 16 = I 103 16 := by
  unfold pk_station at h
  obtain ⟨rfl, h⟩ := h
  rcases h with ⟨a1, rfl, rfl⟩ | ⟨a1, rfl, rfl⟩
  · (repeat rw [px_u_out (by omega)])
  · rfl

theorem eb_sight_41_14 {a f t lo hi x : Int32} {I I2 : px_I} {L L2 : px_L} (h : pb_sight a f t lo hi I L x I2 L2) : I2 41 14 = I 41 14 := by
  unfold pb_sight at h
  obtain ⟨rfl, h⟩ := h
  rcases h with ⟨a1, rfl, rfl⟩ | ⟨a1, rfl, rfl⟩
  · (repeat rw [px_u_out (by omega)])
  · rfl

theorem eb_sight_55_14 {a f t lo hi x : Int32} {I I2 : px_I} {L L2 : px_L} (h : pb_sight a f t lo hi I L x I2 L2) : I2 55 14 = I 55 14 := by
  unfold pb_sight at h
  obtain ⟨rfl, h⟩ := h
  rcases h with ⟨a1, rfl, rfl⟩ | ⟨a1, rfl, rfl⟩
  · (repeat rw [px_u_out (by omega)])
  · rfl

theorem ek_sight_103_16 {a f t lo hi x : Int32} {I I2 : px_I} {L L2 : px_L} (h : pk_sight a f t lo hi I L x I2 L2) : I2 103 16 = I 103 16 := by
  unfold pk_sight at h
  obtain ⟨rfl, h⟩ := h
  rcases h with ⟨a1, rfl, rfl⟩ | ⟨a1, rfl, rfl⟩
  · (repeat rw [px_u_out (by omega)])
  · rfl

theorem eb_closed_41_14 {a k x : Int32} {I I2 : px_I} {L L2 : px_L} (h : pb_closed a k I L x I2 L2) : I2 41 14 = I 41 14 := by
  unfold pb_closed at h
  obtain ⟨rfl, h⟩ := h
  rfl

theorem eb_closed_55_14 {a k x : Int32} {I I2 : px_I} {L L2 : px_L} (h : pb_closed a k I L x I2 L2) : I2 55 14 = I 55 14 := by
  unfold pb_closed at h
  obtain ⟨rfl, h⟩ := h
  rfl

theorem ek_closed_103_16 {a k x : Int32} {I I2 : px_I} {L L2 : px_L} (h : pk_closed a k I L x I2 L2) : I2 103 16 = I 103 16 := by
  unfold pk_closed at h
  exact h.1 103 16 (by omega)

theorem eb_span_41_14 {a t k h x : Int32} {I I2 : px_I} {L L2 : px_L} (h : pb_span a t k h I L x I2 L2) : I2 41 14 = I 41 14 := by
  unfold pb_span at h
  obtain ⟨rfl, h⟩ := h
  rfl

theorem eb_span_55_14 {a t k h x : Int32} {I I2 : px_I} {L L2 : px_L} (h : pb_span a t k h I L x I2 L2) : I2 55 14 = I 55 14 := by
  unfold pb_span at h
  obtain ⟨rfl, h⟩ := h
  rfl

theorem ek_span_103_16 {a t k h x : Int32} {I I2 : px_I} {L L2 : px_L} (h : pk_span a t k h I L x I2 L2) : I2 103 16 = I 103 16 := by
  unfold pk_span at h
  exact h.1 103 16 (by omega)

theorem eb_gap_41_14 {a f t k h x : Int32} {I I2 : px_I} {L L2 : px_L} (h : pb_gap a f t k h I L x I2 L2) : I2 41 14 = I 41 14 := by
  unfold pb_gap at h
  obtain ⟨rfl, h⟩ := h
  rfl

theorem eb_gap_55_14 {a f t k h x : Int32} {I I2 : px_I} {L L2 : px_L} (h : pb_gap a f t k h I L x I2 L2) : I2 55 14 = I 55 14 := by
  unfold pb_gap at h
  obtain ⟨rfl, h⟩ := h
  rfl

theorem ek_gap_103_16 {a f t k h x : Int32} {I I2 : px_I} {L L2 : px_L} (h : pk_gap a f t k h I L x I2 L2) : I2 103 16 = I 103 16 := by
  unfold pk_gap at h
  exact h.1 103 16 (by omega)

theorem eb_blamed_41_14 {a k i x : Int32} {I I2 : px_I} {L L2 : px_L} (h : pb_blamed a k i I L x I2 L2) : I2 41 14 = I 41 14 := by
  unfold pb_blamed at h
  obtain ⟨rfl, h⟩ := h
  rfl

theorem eb_blamed_55_14 {a k i x : Int32} {I I2 : px_I} {L L2 : px_L} (h : pb_blamed a k i I L x I2 L2) : I2 55 14 = I 55 14 := by
  unfold pb_blamed at h
  obtain ⟨rfl, h⟩ := h
  rfl

theorem ek_blamed_103_16 {a k i x : Int32} {I I2 : px_I} {L L2 : px_L} (h : pk_blamed a k i I L x I2 L2) : I2 103 16 = I 103 16 := by
  unfold pk_blamed at h
  exact h.1 103 16 (by omega)

theorem eb_reach_41_14 {g lo hi sl fa w st x : Int32} {I I2 : px_I} {L L2 : px_L} (h : pb_reach g lo hi sl fa w st I L x I2 L2) : I2 41 14 = I 41 14 := by
  unfold pb_reach at h
  obtain ⟨rfl, h⟩ := h
  rcases h with ⟨G, ⟨g1, g2, g3⟩, rfl, rfl⟩ | ⟨a1, rfl, rfl⟩
  · have gG : G = 41 ∨ G = 55 := by unfold bG at g1; omega
    rcases gG with rfl | rfl
    · rw [cReach_f (G := 41) (by omega)]
    · rw [cReach_o (G := 55) (by omega)]
  · rfl

theorem eb_reach_55_14 {g lo hi sl fa w st x : Int32} {I I2 : px_I} {L L2 : px_L} (h : pb_reach g lo hi sl fa w st I L x I2 L2) : I2 55 14 = I 55 14 := by
  unfold pb_reach at h
  obtain ⟨rfl, h⟩ := h
  rcases h with ⟨G, ⟨g1, g2, g3⟩, rfl, rfl⟩ | ⟨a1, rfl, rfl⟩
  · have gG : G = 41 ∨ G = 55 := by unfold bG at g1; omega
    rcases gG with rfl | rfl
    · rw [cReach_o (G := 41) (by omega)]
    · rw [cReach_f (G := 55) (by omega)]
  · rfl

theorem ek_reach_103_16 {g lo hi sl fa w st x : Int32} {I I2 : px_I} {L L2 : px_L} (h : pk_reach g lo hi sl fa w st I L x I2 L2) : I2 103 16 = I 103 16 := by
  unfold pk_reach at h
  obtain ⟨rfl, h⟩ := h
  rcases h with ⟨a1, rfl, rfl⟩ | ⟨a1, rfl, rfl⟩
  · unfold mReach; (repeat rw [px_u_out (by omega)])
  · rfl

theorem eb_mouth_41_14 {g st x : Int32} {I I2 : px_I} {L L2 : px_L} (h : pb_mouth g st I L x I2 L2) : I2 41 14 = I 41 14 := by
  unfold pb_mouth at h
  obtain ⟨rfl, h⟩ := h
  rcases h with ⟨G, g1, rfl⟩ | rfl
  · have gG : G = 41 ∨ G = 55 := by unfold bG at g1; omega
    (repeat rw [px_u_out (by omega)])
  · rfl

theorem eb_mouth_55_14 {g st x : Int32} {I I2 : px_I} {L L2 : px_L} (h : pb_mouth g st I L x I2 L2) : I2 55 14 = I 55 14 := by
  unfold pb_mouth at h
  obtain ⟨rfl, h⟩ := h
  rcases h with ⟨G, g1, rfl⟩ | rfl
  · have gG : G = 41 ∨ G = 55 := by unfold bG at g1; omega
    (repeat rw [px_u_out (by omega)])
  · rfl

theorem ek_mouth_103_16 {g st x : Int32} {I I2 : px_I} {L L2 : px_L} (h : pk_mouth g st I L x I2 L2) : I2 103 16 = I 103 16 := by
  unfold pk_mouth at h
  obtain ⟨rfl, h⟩ := h
  rcases h with ⟨a1, a2, rfl, rfl⟩ | ⟨a1, rfl, rfl⟩
  · (repeat rw [px_u_out (by omega)])
  · rfl

theorem eb_when_41_14 {g p h x : Int32} {I I2 : px_I} {L L2 : px_L} (h : pb_when g p h I L x I2 L2) : I2 41 14 = I 41 14 := by
  unfold pb_when at h
  obtain ⟨rfl, h⟩ := h
  rw [h 41 (by decide) (by decide) (by decide) (by decide)]

theorem eb_when_55_14 {g p h x : Int32} {I I2 : px_I} {L L2 : px_L} (h : pb_when g p h I L x I2 L2) : I2 55 14 = I 55 14 := by
  unfold pb_when at h
  obtain ⟨rfl, h⟩ := h
  rw [h 55 (by decide) (by decide) (by decide) (by decide)]

theorem ek_when_103_16 {g p h x : Int32} {I I2 : px_I} {L L2 : px_L} (h : pk_when g p h I L x I2 L2) : I2 103 16 = I 103 16 := by
  unfold pk_when at h
  exact h.1 103 16 (by omega)

theorem eb_between_41_14 {g p q h x : Int32} {I I2 : px_I} {L L2 : px_L} (h : pb_between g p q h I L x I2 L2) : I2 41 14 = I 41 14 := by
  unfold pb_between at h
  obtain ⟨rfl, h⟩ := h
  rw [h 41 (by decide) (by decide) (by decide) (by decide)]

theorem eb_between_55_14 {g p q h x : Int32} {I I2 : px_I} {L L2 : px_L} (h : pb_between g p q h I L x I2 L2) : I2 55 14 = I 55 14 := by
  unfold pb_between at h
  obtain ⟨rfl, h⟩ := h
  rw [h 55 (by decide) (by decide) (by decide) (by decide)]

theorem ek_between_103_16 {g p t h x : Int32} {I I2 : px_I} {L L2 : px_L} (h : pk_between g p t h I L x I2 L2) : I2 103 16 = I 103 16 := by
  unfold pk_between at h
  exact h.1 103 16 (by omega)

theorem eb_lamps_41_14 {g p h lo hi x : Int32} {I I2 : px_I} {L L2 : px_L} (h : pb_lamps g p h lo hi I L x I2 L2) : I2 41 14 = I 41 14 := by
  unfold pb_lamps at h
  rw [h.1]

theorem eb_lamps_55_14 {g p h lo hi x : Int32} {I I2 : px_I} {L L2 : px_L} (h : pb_lamps g p h lo hi I L x I2 L2) : I2 55 14 = I 55 14 := by
  unfold pb_lamps at h
  rw [h.1]

theorem ek_lamps_103_16 {g p h lo hi x : Int32} {I I2 : px_I} {L L2 : px_L} (h : pk_lamps g p h lo hi I L x I2 L2) : I2 103 16 = I 103 16 := by
  unfold pk_lamps at h
  rw [h.1]

theorem eb_count_41_14 {u lo hi x : Int32} {I I2 : px_I} {L L2 : px_L} (h : pb_count u lo hi I L x I2 L2) : I2 41 14 = I 41 14 := by
  unfold pb_count at h
  obtain ⟨rfl, h⟩ := h
  rcases h with ⟨a1, rfl, rfl⟩ | ⟨a1, rfl, rfl⟩
  · (repeat rw [px_u_out (by omega)])
  · rfl

theorem eb_count_55_14 {u lo hi x : Int32} {I I2 : px_I} {L L2 : px_L} (h : pb_count u lo hi I L x I2 L2) : I2 55 14 = I 55 14 := by
  unfold pb_count at h
  obtain ⟨rfl, h⟩ := h
  rcases h with ⟨a1, rfl, rfl⟩ | ⟨a1, rfl, rfl⟩
  · (repeat rw [px_u_out (by omega)])
  · rfl

theorem ek_count_103_16 {u lo hi x : Int32} {I I2 : px_I} {L L2 : px_L} (h : pk_count u lo hi I L x I2 L2) : I2 103 16 = I 103 16 := by
  unfold pk_count at h
  rcases h with ⟨a1, rfl, rfl, rfl⟩ | ⟨a1, rfl, rfl, rfl⟩
  · (repeat rw [px_u_out (by omega)])
  · rfl

theorem eb_unit_41_14 {h x : Int32} {I I2 : px_I} {L L2 : px_L} (h : pb_unit h I L x I2 L2) : I2 41 14 = I 41 14 := by
  unfold pb_unit at h
  rw [h.1]

theorem eb_unit_55_14 {h x : Int32} {I I2 : px_I} {L L2 : px_L} (h : pb_unit h I L x I2 L2) : I2 55 14 = I 55 14 := by
  unfold pb_unit at h
  rw [h.1]

theorem ek_unit_103_16 {h x : Int32} {I I2 : px_I} {L L2 : px_L} (h : pk_unit h I L x I2 L2) : I2 103 16 = I 103 16 := by
  unfold pk_unit at h
  rw [h.1]

theorem eb_feed_41_14 {a b c d e x : Int32} {I I2 : px_I} {L L2 : px_L} (h : pb_feed a b c d e I L x I2 L2) : I2 41 14 = I 41 14 := by
  unfold pb_feed at h
  obtain ⟨rfl, h⟩ := h
  rcases h with ⟨a1, rfl, rfl⟩ | ⟨a1, rfl, rfl⟩
  · rw [cApp_at _ _ 41 14 (by omega) (by omega), cApp_at _ _ 41 14 (by omega) (by omega), cApp_at _ _ 41 14 (by omega) (by omega), cApp_at _ _ 41 14 (by omega) (by omega), cApp_at _ _ 41 14 (by omega) (by omega)]
  · rfl

theorem eb_feed_55_14 {a b c d e x : Int32} {I I2 : px_I} {L L2 : px_L} (h : pb_feed a b c d e I L x I2 L2) : I2 55 14 = I 55 14 := by
  unfold pb_feed at h
  obtain ⟨rfl, h⟩ := h
  rcases h with ⟨a1, rfl, rfl⟩ | ⟨a1, rfl, rfl⟩
  · rw [cApp_at _ _ 55 14 (by omega) (by omega), cApp_at _ _ 55 14 (by omega) (by omega), cApp_at _ _ 55 14 (by omega) (by omega), cApp_at _ _ 55 14 (by omega) (by omega), cApp_at _ _ 55 14 (by omega) (by omega)]
  · rfl

theorem ek_feed_103_16 {a b c d e x : Int32} {I I2 : px_I} {L L2 : px_L} (h : pk_feed a b c d e I L x I2 L2) : I2 103 16 = I 103 16 := by
  unfold pk_feed at h
  obtain ⟨rfl, h⟩ := h
  rcases h with ⟨a1, rfl, rfl⟩ | ⟨a1, rfl, rfl⟩
  · rw [mPut_o (by omega) (by omega), mPut_o (by omega) (by omega), mPut_o (by omega) (by omega), mPut_o (by omega) (by omega), mPut_o (by omega) (by omega)]
  · rfl

theorem eb_end_41_14 {x9 x : Int32} {I I2 : px_I} {L L2 : px_L} (h : pb_end x9 I L x I2 L2) : I2 41 14 = I 41 14 := by
  unfold pb_end at h
  obtain ⟨rfl, h⟩ := h
  rcases h with ⟨a1, rfl, rfl⟩ | ⟨a1, rfl, rfl⟩
  · (repeat rw [px_u_out (by omega)])
  · rfl

theorem eb_end_55_14 {x9 x : Int32} {I I2 : px_I} {L L2 : px_L} (h : pb_end x9 I L x I2 L2) : I2 55 14 = I 55 14 := by
  unfold pb_end at h
  obtain ⟨rfl, h⟩ := h
  rcases h with ⟨a1, rfl, rfl⟩ | ⟨a1, rfl, rfl⟩
  · (repeat rw [px_u_out (by omega)])
  · rfl

theorem ek_end_103_16 {x9 x : Int32} {I I2 : px_I} {L L2 : px_L} (h : pk_end x9 I L x I2 L2) : I2 103 16 = I 103 16 := by
  unfold pk_end at h
  obtain ⟨rfl, h⟩ := h
  rcases h with ⟨a1, a2, rfl, rfl⟩ | ⟨a1, rfl, rfl⟩
  · (repeat rw [px_u_out (by omega)])
  · rfl

theorem eb_way_41_14 {i x : Int32} {I I2 : px_I} {L L2 : px_L} (h : pb_way i I L x I2 L2) : I2 41 14 = I 41 14 := by
  unfold pb_way at h
  exact h.1 41 14 (by omega) (by omega) (by omega) (by omega) (by omega)

theorem eb_way_55_14 {i x : Int32} {I I2 : px_I} {L L2 : px_L} (h : pb_way i I L x I2 L2) : I2 55 14 = I 55 14 := by
  unfold pb_way at h
  exact h.1 55 14 (by omega) (by omega) (by omega) (by omega) (by omega)

theorem ek_way_103_16 {w x : Int32} {I I2 : px_I} {L L2 : px_L} (h : pk_way w I L x I2 L2) : I2 103 16 = I 103 16 := by
  unfold pk_way at h
  obtain ⟨rfl, h⟩ := h
  rcases h with ⟨a1, a2, rfl⟩ | ⟨a1, a2, a3⟩
  · rfl
  · exact a2 103 16 (by omega) (by omega)

theorem eb_fault_41_14 {x9 x : Int32} {I I2 : px_I} {L L2 : px_L} (h : pb_fault x9 I L x I2 L2) : I2 41 14 = I 41 14 := by
  unfold pb_fault at h
  rw [h.1]

theorem eb_fault_55_14 {x9 x : Int32} {I I2 : px_I} {L L2 : px_L} (h : pb_fault x9 I L x I2 L2) : I2 55 14 = I 55 14 := by
  unfold pb_fault at h
  rw [h.1]

theorem ek_fault_103_16 {x9 x : Int32} {I I2 : px_I} {L L2 : px_L} (h : pk_fault x9 I L x I2 L2) : I2 103 16 = I 103 16 := by
  unfold pk_fault at h
  rw [h.1]

theorem eb_tools_41_14 {a b c d e x : Int32} {I I2 : px_I} {L L2 : px_L} (h : pb_tools a b c d e I L x I2 L2) : I2 41 14 = I 41 14 := by
  unfold pb_tools at h
  obtain ⟨rfl, h⟩ := h
  rcases h with ⟨a1, rfl, a2⟩ | ⟨a1, rfl, rfl⟩
  · rw [a2 41 (by decide)]; (repeat rw [px_u_out (by omega)])
  · rfl

theorem eb_tools_55_14 {a b c d e x : Int32} {I I2 : px_I} {L L2 : px_L} (h : pb_tools a b c d e I L x I2 L2) : I2 55 14 = I 55 14 := by
  unfold pb_tools at h
  obtain ⟨rfl, h⟩ := h
  rcases h with ⟨a1, rfl, a2⟩ | ⟨a1, rfl, rfl⟩
  · rw [a2 55 (by decide)]; (repeat rw [px_u_out (by omega)])
  · rfl

theorem ek_tools_103_16 {a b c d e x : Int32} {I I2 : px_I} {L L2 : px_L} (h : pk_tools a b c d e I L x I2 L2) : I2 103 16 = I 103 16 := by
  unfold pk_tools at h
  obtain ⟨rfl, h⟩ := h
  rcases h with ⟨a1, rfl, rfl⟩ | ⟨a1, rfl, rfl⟩
  · (repeat rw [px_u_out (by omega)])
  · rfl

theorem eb_run_41_14 {w h a x : Int32} {I I2 : px_I} {L L2 : px_L} (h : pb_run w h a I L x I2 L2) : I2 41 14 = I 41 14 := by
  unfold pb_run at h
  exact h.1 41 14 (by omega) (by omega) (by omega) (by omega) (by omega) (by omega) (by omega)

theorem eb_run_55_14 {w h a x : Int32} {I I2 : px_I} {L L2 : px_L} (h : pb_run w h a I L x I2 L2) : I2 55 14 = I 55 14 := by
  unfold pb_run at h
  exact h.1 55 14 (by omega) (by omega) (by omega) (by omega) (by omega) (by omega) (by omega)

theorem ek_run_103_16 {w h a x : Int32} {I I2 : px_I} {L L2 : px_L} (h : pk_run w h a I L x I2 L2) : I2 103 16 = I 103 16 := by
  unfold pk_run at h
  exact h.1 103 16 (by omega) (by omega) (by omega)

theorem eb_meeting_41_14 {a f b t x9 h x : Int32} {I I2 : px_I} {L L2 : px_L} (h : pb_meeting a f b t x9 h I L x I2 L2) : I2 41 14 = I 41 14 := by
  unfold pb_meeting at h
  exact h.1 41 14 (by omega) (by omega) (by omega) (by omega) (by omega) (by omega) (by omega)

theorem eb_meeting_55_14 {a f b t x9 h x : Int32} {I I2 : px_I} {L L2 : px_L} (h : pb_meeting a f b t x9 h I L x I2 L2) : I2 55 14 = I 55 14 := by
  unfold pb_meeting at h
  exact h.1 55 14 (by omega) (by omega) (by omega) (by omega) (by omega) (by omega) (by omega)

theorem ek_meeting_103_16 {a f b t x9 h x : Int32} {I I2 : px_I} {L L2 : px_L} (h : pk_meeting a f b t x9 h I L x I2 L2) : I2 103 16 = I 103 16 := by
  unfold pk_meeting at h
  exact h.1 103 16 (by omega) (by omega) (by omega)

theorem eb_there_41_14 {a lo hi x : Int32} {I I2 : px_I} {L L2 : px_L} (h : pb_there a lo hi I L x I2 L2) : I2 41 14 = I 41 14 := by
  unfold pb_there at h
  obtain ⟨rfl, h⟩ := h
  rcases h with ⟨a1, rfl, rfl⟩ | ⟨a1, rfl, rfl⟩
  · (repeat rw [px_u_out (by omega)])
  · rfl

theorem eb_there_55_14 {a lo hi x : Int32} {I I2 : px_I} {L L2 : px_L} (h : pb_there a lo hi I L x I2 L2) : I2 55 14 = I 55 14 := by
  unfold pb_there at h
  obtain ⟨rfl, h⟩ := h
  rcases h with ⟨a1, rfl, rfl⟩ | ⟨a1, rfl, rfl⟩
  · (repeat rw [px_u_out (by omega)])
  · rfl

theorem ek_there_103_16 {a lo hi x : Int32} {I I2 : px_I} {L L2 : px_L} (h : pk_there a lo hi I L x I2 L2) : I2 103 16 = I 103 16 := by
  unfold pk_there at h
  obtain ⟨rfl, h⟩ := h
  rcases h with ⟨a1, rfl, rfl⟩ | ⟨a1, rfl, rfl⟩
  · (repeat rw [px_u_out (by omega)])
  · rfl

theorem eb_fits_41_14 {a f b t x : Int32} {I I2 : px_I} {L L2 : px_L} (h : pb_fits a f b t I L x I2 L2) : I2 41 14 = I 41 14 := by
  unfold pb_fits at h
  exact h.1 41 14 (by omega) (by omega) (by omega) (by omega) (by omega) (by omega) (by omega)

theorem eb_fits_55_14 {a f b t x : Int32} {I I2 : px_I} {L L2 : px_L} (h : pb_fits a f b t I L x I2 L2) : I2 55 14 = I 55 14 := by
  unfold pb_fits at h
  exact h.1 55 14 (by omega) (by omega) (by omega) (by omega) (by omega) (by omega) (by omega)

theorem ek_fits_103_16 {a f b t x : Int32} {I I2 : px_I} {L L2 : px_L} (h : pk_fits a f b t I L x I2 L2) : I2 103 16 = I 103 16 := by
  unfold pk_fits at h
  exact h.1 103 16 (by omega) (by omega) (by omega)

theorem eb_ways_41_14 {a f b t x9 x : Int32} {I I2 : px_I} {L L2 : px_L} (h : pb_ways a f b t x9 I L x I2 L2) : I2 41 14 = I 41 14 := by
  unfold pb_ways at h
  exact h.1 41 14 (by omega) (by omega) (by omega) (by omega) (by omega) (by omega) (by omega)

theorem eb_ways_55_14 {a f b t x9 x : Int32} {I I2 : px_I} {L L2 : px_L} (h : pb_ways a f b t x9 I L x I2 L2) : I2 55 14 = I 55 14 := by
  unfold pb_ways at h
  exact h.1 55 14 (by omega) (by omega) (by omega) (by omega) (by omega) (by omega) (by omega)

theorem ek_ways_103_16 {a f b t x9 x : Int32} {I I2 : px_I} {L L2 : px_L} (h : pk_ways a f b t x9 I L x I2 L2) : I2 103 16 = I 103 16 := by
  unfold pk_ways at h
  exact h.1 103 16 (by omega) (by omega) (by omega)

theorem eb_seek_41_14 {a b c d e f x : Int32} {I I2 : px_I} {L L2 : px_L} (h : pb_seek a b c d e f I L x I2 L2) : I2 41 14 = I 41 14 := by
  unfold pb_seek at h
  obtain ⟨rfl, h⟩ := h
  rcases h with ⟨a1, rfl, rfl⟩ | ⟨a1, rfl, rfl⟩
  · (repeat rw [px_u_out (by omega)])
  · rfl

theorem eb_seek_55_14 {a b c d e f x : Int32} {I I2 : px_I} {L L2 : px_L} (h : pb_seek a b c d e f I L x I2 L2) : I2 55 14 = I 55 14 := by
  unfold pb_seek at h
  obtain ⟨rfl, h⟩ := h
  rcases h with ⟨a1, rfl, rfl⟩ | ⟨a1, rfl, rfl⟩
  · (repeat rw [px_u_out (by omega)])
  · rfl

theorem ek_seek_103_16 {a b c d e f x : Int32} {I I2 : px_I} {L L2 : px_L} (h : pk_seek a b c d e f I L x I2 L2) : I2 103 16 = I 103 16 := by
  unfold pk_seek at h
  obtain ⟨rfl, h⟩ := h
  rcases h with ⟨a1, rfl, rfl⟩ | ⟨a1, rfl, rfl⟩
  · (repeat rw [px_u_out (by omega)])
  · rfl

theorem eb_detour_41_14 {a o h x : Int32} {I I2 : px_I} {L L2 : px_L} (h : pb_detour a o h I L x I2 L2) : I2 41 14 = I 41 14 := by
  unfold pb_detour at h
  rw [h.1]

theorem eb_detour_55_14 {a o h x : Int32} {I I2 : px_I} {L L2 : px_L} (h : pb_detour a o h I L x I2 L2) : I2 55 14 = I 55 14 := by
  unfold pb_detour at h
  rw [h.1]

theorem ek_detour_103_16 {a o lo x : Int32} {I I2 : px_I} {L L2 : px_L} (h : pk_detour a o lo I L x I2 L2) : I2 103 16 = I 103 16 := by
  unfold pk_detour at h
  rw [h.1]

theorem eb_table_41_14 {c v x : Int32} {I I2 : px_I} {L L2 : px_L} (h : pb_table c v I L x I2 L2) : I2 41 14 = I 41 14 := by
  unfold pb_table at h
  obtain ⟨rfl, h⟩ := h
  rcases h with ⟨a1, rfl, rfl⟩ | ⟨a1, rfl, rfl⟩
  · (repeat rw [px_u_out (by omega)])
  · rfl

theorem eb_table_55_14 {c v x : Int32} {I I2 : px_I} {L L2 : px_L} (h : pb_table c v I L x I2 L2) : I2 55 14 = I 55 14 := by
  unfold pb_table at h
  obtain ⟨rfl, h⟩ := h
  rcases h with ⟨a1, rfl, rfl⟩ | ⟨a1, rfl, rfl⟩
  · (repeat rw [px_u_out (by omega)])
  · rfl

theorem ek_table_103_16 {c v x : Int32} {I I2 : px_I} {L L2 : px_L} (h : pk_table c v I L x I2 L2) : I2 103 16 = I 103 16 := by
  unfold pk_table at h
  obtain ⟨rfl, h⟩ := h
  rcases h with ⟨a1, rfl, rfl⟩ | ⟨a1, rfl, rfl⟩
  · (repeat rw [px_u_out (by omega)])
  · rfl

theorem eb_repair_41_14 {g p y x : Int32} {I I2 : px_I} {L L2 : px_L} (h : pb_repair g p y I L x I2 L2) : I2 41 14 = I 41 14 := by
  unfold pb_repair at h
  obtain ⟨rfl, h⟩ := h
  rcases h with ⟨G, g1, rfl, rfl⟩ | ⟨a1, rfl, rfl⟩
  · have g2 := g1.1
    have gG : G = 41 ∨ G = 55 := by unfold bG at g2; omega
    unfold cRep; (repeat rw [px_u_out (by omega)])
  · rfl

theorem eb_repair_55_14 {g p y x : Int32} {I I2 : px_I} {L L2 : px_L} (h : pb_repair g p y I L x I2 L2) : I2 55 14 = I 55 14 := by
  unfold pb_repair at h
  obtain ⟨rfl, h⟩ := h
  rcases h with ⟨G, g1, rfl, rfl⟩ | ⟨a1, rfl, rfl⟩
  · have g2 := g1.1
    have gG : G = 41 ∨ G = 55 := by unfold bG at g2; omega
    unfold cRep; (repeat rw [px_u_out (by omega)])
  · rfl

theorem ek_repair_103_16 {g p y x : Int32} {I I2 : px_I} {L L2 : px_L} (h : pk_repair g p y I L x I2 L2) : I2 103 16 = I 103 16 := by
  unfold pk_repair at h
  obtain ⟨rfl, h⟩ := h
  rcases h with ⟨a1, rfl, rfl⟩ | ⟨a1, rfl, rfl⟩
  · (repeat rw [px_u_out (by omega)])
  · rfl

theorem eb_lime_41_14 {v x : Int32} {I I2 : px_I} {L L2 : px_L} (h : pb_lime v I L x I2 L2) : I2 41 14 = I 41 14 := by
  unfold pb_lime at h
  obtain ⟨rfl, h⟩ := h
  rcases h with ⟨a1, rfl, rfl⟩ | ⟨a1, rfl, rfl⟩
  · (repeat rw [px_u_out (by omega)])
  · rfl

theorem eb_lime_55_14 {v x : Int32} {I I2 : px_I} {L L2 : px_L} (h : pb_lime v I L x I2 L2) : I2 55 14 = I 55 14 := by
  unfold pb_lime at h
  obtain ⟨rfl, h⟩ := h
  rcases h with ⟨a1, rfl, rfl⟩ | ⟨a1, rfl, rfl⟩
  · (repeat rw [px_u_out (by omega)])
  · rfl

theorem ek_lime_103_16 {v x : Int32} {I I2 : px_I} {L L2 : px_L} (h : pk_lime v I L x I2 L2) : I2 103 16 = I 103 16 := by
  unfold pk_lime at h
  obtain ⟨rfl, h⟩ := h
  rcases h with ⟨a1, a2, rfl, rfl⟩ | ⟨a1, rfl, rfl⟩
  · (repeat rw [px_u_out (by omega)])
  · rfl

theorem eb_flow_41_14 {g y k h x : Int32} {I I2 : px_I} {L L2 : px_L} (h : pb_flow g y k h I L x I2 L2) : I2 41 14 = I 41 14 := by
  unfold pb_flow at h
  exact h.1 41 14 (by omega)

theorem eb_flow_55_14 {g y k h x : Int32} {I I2 : px_I} {L L2 : px_L} (h : pb_flow g y k h I L x I2 L2) : I2 55 14 = I 55 14 := by
  unfold pb_flow at h
  exact h.1 55 14 (by omega)

theorem ek_flow_103_16 {g y k h x : Int32} {I I2 : px_I} {L L2 : px_L} (h : pk_flow g y k h I L x I2 L2) : I2 103 16 = I 103 16 := by
  unfold pk_flow at h
  exact h.1 103 16 (by omega)

theorem eb_narrow_41_14 {g y k x : Int32} {I I2 : px_I} {L L2 : px_L} (h : pb_narrow g y k I L x I2 L2) : I2 41 14 = I 41 14 := by
  unfold pb_narrow at h
  exact h.1 41 14 (by omega)

theorem eb_narrow_55_14 {g y k x : Int32} {I I2 : px_I} {L L2 : px_L} (h : pb_narrow g y k I L x I2 L2) : I2 55 14 = I 55 14 := by
  unfold pb_narrow at h
  exact h.1 55 14 (by omega)

theorem ek_narrow_103_16 {g y k x : Int32} {I I2 : px_I} {L L2 : px_L} (h : pk_narrow g y k I L x I2 L2) : I2 103 16 = I 103 16 := by
  unfold pk_narrow at h
  exact h.1 103 16 (by omega)

theorem eb_about_41_14 {w x : Int32} {I I2 : px_I} {L L2 : px_L} (h : pb_about w I L x I2 L2) : I2 41 14 = I 41 14 := by
  unfold pb_about at h
  rw [h.1]

theorem eb_about_55_14 {w x : Int32} {I I2 : px_I} {L L2 : px_L} (h : pb_about w I L x I2 L2) : I2 55 14 = I 55 14 := by
  unfold pb_about at h
  rw [h.1]

theorem ek_about_103_16 {w x : Int32} {I I2 : px_I} {L L2 : px_L} (h : pk_about w I L x I2 L2) : I2 103 16 = I 103 16 := by
  unfold pk_about at h
  rw [h.1]

theorem eb_days_69_0 {x9 x : Int32} {I I2 : px_I} {L L2 : px_L} (h : pb_days x9 I L x I2 L2) : I2 69 0 = I 69 0 := by
  unfold pb_days at h
  obtain ⟨rfl, h⟩ := h
  rcases h with ⟨a1, a2, rfl, rfl⟩ | ⟨a1, rfl, rfl⟩
  · (repeat rw [px_u_out (by omega)])
  · rfl

theorem eb_days_69_1 {x9 x : Int32} {I I2 : px_I} {L L2 : px_L} (h : pb_days x9 I L x I2 L2) : I2 69 1 = I 69 1 := by
  unfold pb_days at h
  obtain ⟨rfl, h⟩ := h
  rcases h with ⟨a1, a2, rfl, rfl⟩ | ⟨a1, rfl, rfl⟩
  · (repeat rw [px_u_out (by omega)])
  · rfl

theorem eb_days_69_2 {x9 x : Int32} {I I2 : px_I} {L L2 : px_L} (h : pb_days x9 I L x I2 L2) : I2 69 2 = I 69 2 := by
  unfold pb_days at h
  obtain ⟨rfl, h⟩ := h
  rcases h with ⟨a1, a2, rfl, rfl⟩ | ⟨a1, rfl, rfl⟩
  · (repeat rw [px_u_out (by omega)])
  · rfl

theorem ek_days_103_21 {x9 x : Int32} {I I2 : px_I} {L L2 : px_L} (h : pk_days x9 I L x I2 L2) : I2 103 21 = I 103 21 := by
  unfold pk_days at h
  obtain ⟨rfl, h⟩ := h
  rcases h with ⟨a1, a2, a3, rfl, rfl⟩ | ⟨a1, rfl, rfl⟩
  · (repeat rw [px_u_out (by omega)])
  · rfl

theorem eL_days_103 {x9 x : Int32} {I I2 : px_I} {L L2 : px_L} (h : pk_days x9 I L x I2 L2) : L2 103 = L 103 := by
  unfold pk_days at h
  rw [h.1]

theorem eb_station_69_0 { x : Int32} {I I2 : px_I} {L L2 : px_L} (h : pb_station  I L x I2 L2) : I2 69 0 = I 69 0 := by
  unfold pb_station at h
  obtain ⟨rfl, h⟩ := h
  rcases h with ⟨a1, rfl, rfl⟩ | ⟨a1, rfl, rfl⟩
  · (repeat rw [px_u_out (by omega)])
  · rfl

theorem eb_station_69_1 { x : Int32} {I I2 : px_I} {L L2 : px_L} (h : pb_station  I L x I2 L2) : I2 69 1 = I 69 1 := by
  unfold pb_station at h
  obtain ⟨rfl, h⟩ := h
  rcases h with ⟨a1, rfl, rfl⟩ | ⟨a1, rfl, rfl⟩
  · (repeat rw [px_u_out (by omega)])
  · rfl

theorem eb_station_69_2 { x : Int32} {I I2 : px_I} {L L2 : px_L} (h : pb_station  I L x I2 L2) : I2 69 2 = I 69 2 := by
  unfold pb_station at h
  obtain ⟨rfl, h⟩ := h
  rcases h with ⟨a1, rfl, rfl⟩ | ⟨a1, rfl, rfl⟩
  · (repeat rw [px_u_out (by omega)])
  · rfl

theorem ek_station_103_21 { x : Int32} {I I2 : px_I} {L L2 : px_L} (h : pk_station  I L x I2 L2) : I2 103 21 = I 103 21 := by
  unfold pk_station at h
  obtain ⟨rfl, h⟩ := h
  rcases h with ⟨a1, rfl, rfl⟩ | ⟨a1, rfl, rfl⟩
  · (repeat rw [px_u_out (by omega)])
  · rfl

theorem eL_station_103 { x : Int32} {I I2 : px_I} {L L2 : px_L} (h : pk_station  I L x I2 L2) : L2 103 = L 103 := by
  unfold pk_station at h
  rw [h.1]

theorem eb_sight_69_0 {a f t lo hi x : Int32} {I I2 : px_I} {L L2 : px_L} (h : pb_sight a f t lo hi I L x I2 L2) : I2 69 0 = I 69 0 := by
  unfold pb_sight at h
  obtain ⟨rfl, h⟩ := h
  rcases h with ⟨a1, rfl, rfl⟩ | ⟨a1, rfl, rfl⟩
  · (repeat rw [px_u_out (by omega)])
  · rfl

theorem eb_sight_69_1 {a f t lo hi x : Int32} {I I2 : px_I} {L L2 : px_L} (h : pb_sight a f t lo hi I L x I2 L2) : I2 69 1 = I 69 1 := by
  unfold pb_sight at h
  obtain ⟨rfl, h⟩ := h
  rcases h with ⟨a1, rfl, rfl⟩ | ⟨a1, rfl, rfl⟩
  · (repeat rw [px_u_out (by omega)])
  · rfl

theorem eb_sight_69_2 {a f t lo hi x : Int32} {I I2 : px_I} {L L2 : px_L} (h : pb_sight a f t lo hi I L x I2 L2) : I2 69 2 = I 69 2 := by
  unfold pb_sight at h
  obtain ⟨rfl, h⟩ := h
  rcases h with ⟨a1, rfl, rfl⟩ | ⟨a1, rfl, rfl⟩
  · (repeat rw [px_u_out (by omega)])
  · rfl

theorem ek_sight_103_21 {a f t lo hi x : Int32} {I I2 : px_I} {L L2 : px_L} (h : pk_sight a f t lo hi I L x I2 L2) : I2 103 21 = I 103 21 := by
  unfold pk_sight at h
  obtain ⟨rfl, h⟩ := h
  rcases h with ⟨a1, rfl, rfl⟩ | ⟨a1, rfl, rfl⟩
  · (repeat rw [px_u_out (by omega)])
  · rfl

theorem eL_sight_103 {a f t lo hi x : Int32} {I I2 : px_I} {L L2 : px_L} (h : pk_sight a f t lo hi I L x I2 L2) : L2 103 = L 103 := by
  unfold pk_sight at h
  rw [h.1]

theorem eb_closed_69_0 {a k x : Int32} {I I2 : px_I} {L L2 : px_L} (h : pb_closed a k I L x I2 L2) : I2 69 0 = I 69 0 := by
  unfold pb_closed at h
  obtain ⟨rfl, h⟩ := h
  rfl

theorem eb_closed_69_1 {a k x : Int32} {I I2 : px_I} {L L2 : px_L} (h : pb_closed a k I L x I2 L2) : I2 69 1 = I 69 1 := by
  unfold pb_closed at h
  obtain ⟨rfl, h⟩ := h
  rfl

theorem eb_closed_69_2 {a k x : Int32} {I I2 : px_I} {L L2 : px_L} (h : pb_closed a k I L x I2 L2) : I2 69 2 = I 69 2 := by
  unfold pb_closed at h
  obtain ⟨rfl, h⟩ := h
  rfl

theorem ek_closed_103_21 {a k x : Int32} {I I2 : px_I} {L L2 : px_L} (h : pk_closed a k I L x I2 L2) : I2 103 21 = I 103 21 := by
  unfold pk_closed at h
  exact h.1 103 21 (by omega)

theorem eL_closed_103 {a k x : Int32} {I I2 : px_I} {L L2 : px_L} (h : pk_closed a k I L x I2 L2) : L2 103 = L 103 := by
  unfold pk_closed at h
  rw [h.2 103 (by omega)]

theorem eb_span_69_0 {a t k h x : Int32} {I I2 : px_I} {L L2 : px_L} (h : pb_span a t k h I L x I2 L2) : I2 69 0 = I 69 0 := by
  unfold pb_span at h
  obtain ⟨rfl, h⟩ := h
  rfl

theorem eb_span_69_1 {a t k h x : Int32} {I I2 : px_I} {L L2 : px_L} (h : pb_span a t k h I L x I2 L2) : I2 69 1 = I 69 1 := by
  unfold pb_span at h
  obtain ⟨rfl, h⟩ := h
  rfl

theorem eb_span_69_2 {a t k h x : Int32} {I I2 : px_I} {L L2 : px_L} (h : pb_span a t k h I L x I2 L2) : I2 69 2 = I 69 2 := by
  unfold pb_span at h
  obtain ⟨rfl, h⟩ := h
  rfl

theorem ek_span_103_21 {a t k h x : Int32} {I I2 : px_I} {L L2 : px_L} (h : pk_span a t k h I L x I2 L2) : I2 103 21 = I 103 21 := by
  unfold pk_span at h
  exact h.1 103 21 (by omega)

theorem eL_span_103 {a t k h x : Int32} {I I2 : px_I} {L L2 : px_L} (h : pk_span a t k h I L x I2 L2) : L2 103 = L 103 := by
  unfold pk_span at h
  rw [h.2 103 (by omega)]

theorem eb_gap_69_0 {a f t k h x : Int32} {I I2 : px_I} {L L2 : px_L} (h : pb_gap a f t k h I L x I2 L2) : I2 69 0 = I 69 0 := by
  unfold pb_gap at h
  obtain ⟨rfl, h⟩ := h
  rfl

theorem eb_gap_69_1 {a f t k h x : Int32} {I I2 : px_I} {L L2 : px_L} (h : pb_gap a f t k h I L x I2 L2) : I2 69 1 = I 69 1 := by
  unfold pb_gap at h
  obtain ⟨rfl, h⟩ := h
  rfl

theorem eb_gap_69_2 {a f t k h x : Int32} {I I2 : px_I} {L L2 : px_L} (h : pb_gap a f t k h I L x I2 L2) : I2 69 2 = I 69 2 := by
  unfold pb_gap at h
  obtain ⟨rfl, h⟩ := h
  rfl

theorem ek_gap_103_21 {a f t k h x : Int32} {I I2 : px_I} {L L2 : px_L} (h : pk_gap a f t k h I L x I2 L2) : I2 103 21 = I 103 21 := by
  unfold pk_gap at h
  exact h.1 103 21 (by omega)

theorem eL_gap_103 {a f t k h x : Int32} {I I2 : px_I} {L L2 : px_L} (h : pk_gap a f t k h I L x I2 L2) : L2 103 = L 103 := by
  unfold pk_gap at h
  rw [h.2 103 (by omega)]

theorem eb_blamed_69_0 {a k i x : Int32} {I I2 : px_I} {L L2 : px_L} (h : pb_blamed a k i I L x I2 L2) : I2 69 0 = I 69 0 := by
  unfold pb_blamed at h
  obtain ⟨rfl, h⟩ := h
  rfl

theorem eb_blamed_69_1 {a k i x : Int32} {I I2 : px_I} {L L2 : px_L} (h : pb_blamed a k i I L x I2 L2) : I2 69 1 = I 69 1 := by
  unfold pb_blamed at h
  obtain ⟨rfl, h⟩ := h
  rfl

theorem eb_blamed_69_2 {a k i x : Int32} {I I2 : px_I} {L L2 : px_L} (h : pb_blamed a k i I L x I2 L2) : I2 69 2 = I 69 2 := by
  unfold pb_blamed at h
  obtain ⟨rfl, h⟩ := h
  rfl

theorem ek_blamed_103_21 {a k i x : Int32} {I I2 : px_I} {L L2 : px_L} (h : pk_blamed a k i I L x I2 L2) : I2 103 21 = I 103 21 := by
  unfold pk_blamed at h
  exact h.1 103 21 (by omega)

theorem eL_blamed_103 {a k i x : Int32} {I I2 : px_I} {L L2 : px_L} (h : pk_blamed a k i I L x I2 L2) : L2 103 = L 103 := by
  unfold pk_blamed at h
  rw [h.2 103 (by omega)]

theorem eb_reach_69_0 {g lo hi sl fa w st x : Int32} {I I2 : px_I} {L L2 : px_L} (h : pb_reach g lo hi sl fa w st I L x I2 L2) : I2 69 0 = I 69 0 := by
  unfold pb_reach at h
  obtain ⟨rfl, h⟩ := h
  rcases h with ⟨G, ⟨g1, g2, g3⟩, rfl, rfl⟩ | ⟨a1, rfl, rfl⟩
  · have gG : G = 41 ∨ G = 55 := by unfold bG at g1; omega
    rw [cReach_o (by omega)]
  · rfl

theorem eb_reach_69_1 {g lo hi sl fa w st x : Int32} {I I2 : px_I} {L L2 : px_L} (h : pb_reach g lo hi sl fa w st I L x I2 L2) : I2 69 1 = I 69 1 := by
  unfold pb_reach at h
  obtain ⟨rfl, h⟩ := h
  rcases h with ⟨G, ⟨g1, g2, g3⟩, rfl, rfl⟩ | ⟨a1, rfl, rfl⟩
  · have gG : G = 41 ∨ G = 55 := by unfold bG at g1; omega
    rw [cReach_o (by omega)]
  · rfl

theorem eb_reach_69_2 {g lo hi sl fa w st x : Int32} {I I2 : px_I} {L L2 : px_L} (h : pb_reach g lo hi sl fa w st I L x I2 L2) : I2 69 2 = I 69 2 := by
  unfold pb_reach at h
  obtain ⟨rfl, h⟩ := h
  rcases h with ⟨G, ⟨g1, g2, g3⟩, rfl, rfl⟩ | ⟨a1, rfl, rfl⟩
  · have gG : G = 41 ∨ G = 55 := by unfold bG at g1; omega
    rw [cReach_o (by omega)]
  · rfl

theorem ek_reach_103_21 {g lo hi sl fa w st x : Int32} {I I2 : px_I} {L L2 : px_L} (h : pk_reach g lo hi sl fa w st I L x I2 L2) : I2 103 21 = I 103 21 := by
  unfold pk_reach at h
  obtain ⟨rfl, h⟩ := h
  rcases h with ⟨a1, rfl, rfl⟩ | ⟨a1, rfl, rfl⟩
  · unfold mReach; (repeat rw [px_u_out (by omega)])
  · rfl

theorem eL_reach_103 {g lo hi sl fa w st x : Int32} {I I2 : px_I} {L L2 : px_L} (h : pk_reach g lo hi sl fa w st I L x I2 L2) : L2 103 = L 103 := by
  unfold pk_reach at h
  rw [h.1]

theorem eb_mouth_69_0 {g st x : Int32} {I I2 : px_I} {L L2 : px_L} (h : pb_mouth g st I L x I2 L2) : I2 69 0 = I 69 0 := by
  unfold pb_mouth at h
  obtain ⟨rfl, h⟩ := h
  rcases h with ⟨G, g1, rfl⟩ | rfl
  · have gG : G = 41 ∨ G = 55 := by unfold bG at g1; omega
    (repeat rw [px_u_out (by omega)])
  · rfl

theorem eb_mouth_69_1 {g st x : Int32} {I I2 : px_I} {L L2 : px_L} (h : pb_mouth g st I L x I2 L2) : I2 69 1 = I 69 1 := by
  unfold pb_mouth at h
  obtain ⟨rfl, h⟩ := h
  rcases h with ⟨G, g1, rfl⟩ | rfl
  · have gG : G = 41 ∨ G = 55 := by unfold bG at g1; omega
    (repeat rw [px_u_out (by omega)])
  · rfl

theorem eb_mouth_69_2 {g st x : Int32} {I I2 : px_I} {L L2 : px_L} (h : pb_mouth g st I L x I2 L2) : I2 69 2 = I 69 2 := by
  unfold pb_mouth at h
  obtain ⟨rfl, h⟩ := h
  rcases h with ⟨G, g1, rfl⟩ | rfl
  · have gG : G = 41 ∨ G = 55 := by unfold bG at g1; omega
    (repeat rw [px_u_out (by omega)])
  · rfl

theorem ek_mouth_103_21 {g st x : Int32} {I I2 : px_I} {L L2 : px_L} (h : pk_mouth g st I L x I2 L2) : I2 103 21 = I 103 21 := by
  unfold pk_mouth at h
  obtain ⟨rfl, h⟩ := h
  rcases h with ⟨a1, a2, rfl, rfl⟩ | ⟨a1, rfl, rfl⟩
  · (repeat rw [px_u_out (by omega)])
  · rfl

theorem eL_mouth_103 {g st x : Int32} {I I2 : px_I} {L L2 : px_L} (h : pk_mouth g st I L x I2 L2) : L2 103 = L 103 := by
  unfold pk_mouth at h
  rw [h.1]

theorem eb_mark_69_0 {g p f t x : Int32} {I I2 : px_I} {L L2 : px_L} (h : pb_mark g p f t I L x I2 L2) : I2 69 0 = I 69 0 := by
  unfold pb_mark at h
  obtain ⟨rfl, h⟩ := h
  rcases h with ⟨G, g1, rfl, rfl⟩ | ⟨a1, rfl, rfl⟩
  · have g2 := g1.1
    have gG : G = 41 ∨ G = 55 := by unfold bG at g2; omega
    unfold cMark; (repeat rw [px_u_out (by omega)])
  · rfl

theorem eb_mark_69_1 {g p f t x : Int32} {I I2 : px_I} {L L2 : px_L} (h : pb_mark g p f t I L x I2 L2) : I2 69 1 = I 69 1 := by
  unfold pb_mark at h
  obtain ⟨rfl, h⟩ := h
  rcases h with ⟨G, g1, rfl, rfl⟩ | ⟨a1, rfl, rfl⟩
  · have g2 := g1.1
    have gG : G = 41 ∨ G = 55 := by unfold bG at g2; omega
    unfold cMark; (repeat rw [px_u_out (by omega)])
  · rfl

theorem eb_mark_69_2 {g p f t x : Int32} {I I2 : px_I} {L L2 : px_L} (h : pb_mark g p f t I L x I2 L2) : I2 69 2 = I 69 2 := by
  unfold pb_mark at h
  obtain ⟨rfl, h⟩ := h
  rcases h with ⟨G, g1, rfl, rfl⟩ | ⟨a1, rfl, rfl⟩
  · have g2 := g1.1
    have gG : G = 41 ∨ G = 55 := by unfold bG at g2; omega
    unfold cMark; (repeat rw [px_u_out (by omega)])
  · rfl

theorem ek_mark_103_21 {g p f t x : Int32} {I I2 : px_I} {L L2 : px_L} (h : pk_mark g p f t I L x I2 L2) : I2 103 21 = I 103 21 := by
  unfold pk_mark at h
  obtain ⟨rfl, h⟩ := h
  rcases h with ⟨a1, rfl, rfl⟩ | ⟨a1, rfl, rfl⟩
  · unfold mMark; (repeat rw [px_u_out (by omega)])
  · rfl

theorem eL_mark_103 {g p f t x : Int32} {I I2 : px_I} {L L2 : px_L} (h : pk_mark g p f t I L x I2 L2) : L2 103 = L 103 := by
  unfold pk_mark at h
  rw [h.1]

theorem eb_when_69_0 {g p h x : Int32} {I I2 : px_I} {L L2 : px_L} (h : pb_when g p h I L x I2 L2) : I2 69 0 = I 69 0 := by
  unfold pb_when at h
  obtain ⟨rfl, h⟩ := h
  rw [h 69 (by decide) (by decide) (by decide) (by decide)]

theorem eb_when_69_1 {g p h x : Int32} {I I2 : px_I} {L L2 : px_L} (h : pb_when g p h I L x I2 L2) : I2 69 1 = I 69 1 := by
  unfold pb_when at h
  obtain ⟨rfl, h⟩ := h
  rw [h 69 (by decide) (by decide) (by decide) (by decide)]

theorem eb_when_69_2 {g p h x : Int32} {I I2 : px_I} {L L2 : px_L} (h : pb_when g p h I L x I2 L2) : I2 69 2 = I 69 2 := by
  unfold pb_when at h
  obtain ⟨rfl, h⟩ := h
  rw [h 69 (by decide) (by decide) (by decide) (by decide)]

theorem ek_when_103_21 {g p h x : Int32} {I I2 : px_I} {L L2 : px_L} (h : pk_when g p h I L x I2 L2) : I2 103 21 = I 103 21 := by
  unfold pk_when at h
  exact h.1 103 21 (by omega)

theorem eL_when_103 {g p h x : Int32} {I I2 : px_I} {L L2 : px_L} (h : pk_when g p h I L x I2 L2) : L2 103 = L 103 := by
  unfold pk_when at h
  rw [h.2 103 (by omega)]

theorem eb_between_69_0 {g p q h x : Int32} {I I2 : px_I} {L L2 : px_L} (h : pb_between g p q h I L x I2 L2) : I2 69 0 = I 69 0 := by
  unfold pb_between at h
  obtain ⟨rfl, h⟩ := h
  rw [h 69 (by decide) (by decide) (by decide) (by decide)]

theorem eb_between_69_1 {g p q h x : Int32} {I I2 : px_I} {L L2 : px_L} (h : pb_between g p q h I L x I2 L2) : I2 69 1 = I 69 1 := by
  unfold pb_between at h
  obtain ⟨rfl, h⟩ := h
  rw [h 69 (by decide) (by decide) (by decide) (by decide)]

theorem eb_between_69_2 {g p q h x : Int32} {I I2 : px_I} {L L2 : px_L} (h : pb_between g p q h I L x I2 L2) : I2 69 2 = I 69 2 := by
  unfold pb_between at h
  obtain ⟨rfl, h⟩ := h
  rw [h 69 (by decide) (by decide) (by decide) (by decide)]

theorem ek_between_103_21 {g p t h x : Int32} {I I2 : px_I} {L L2 : px_L} (h : pk_between g p t h I L x I2 L2) : I2 103 21 = I 103 21 := by
  unfold pk_between at h
  exact h.1 103 21 (by omega)

theorem eL_between_103 {g p t h x : Int32} {I I2 : px_I} {L L2 : px_L} (h : pk_between g p t h I L x I2 L2) : L2 103 = L 103 := by
  unfold pk_between at h
  rw [h.2 103 (by omega)]

theorem eb_lamps_69_0 {g p h lo hi x : Int32} {I I2 : px_I} {L L2 : px_L} (h : pb_lamps g p h lo hi I L x I2 L2) : I2 69 0 = I 69 0 := by
  unfold pb_lamps at h
  rw [h.1]

theorem eb_lamps_69_1 {g p h lo hi x : Int32} {I I2 : px_I} {L L2 : px_L} (h : pb_lamps g p h lo hi I L x I2 L2) : I2 69 1 = I 69 1 := by
  unfold pb_lamps at h
  rw [h.1]

theorem eb_lamps_69_2 {g p h lo hi x : Int32} {I I2 : px_I} {L L2 : px_L} (h : pb_lamps g p h lo hi I L x I2 L2) : I2 69 2 = I 69 2 := by
  unfold pb_lamps at h
  rw [h.1]

theorem ek_lamps_103_21 {g p h lo hi x : Int32} {I I2 : px_I} {L L2 : px_L} (h : pk_lamps g p h lo hi I L x I2 L2) : I2 103 21 = I 103 21 := by
  unfold pk_lamps at h
  rw [h.1]

theorem eL_lamps_103 {g p h lo hi x : Int32} {I I2 : px_I} {L L2 : px_L} (h : pk_lamps g p h lo hi I L x I2 L2) : L2 103 = L 103 := by
  unfold pk_lamps at h
  rw [h.2.1]

theorem eb_unit_69_0 {h x : Int32} {I I2 : px_I} {L L2 : px_L} (h : pb_unit h I L x I2 L2) : I2 69 0 = I 69 0 := by
  unfold pb_unit at h
  rw [h.1]

theorem eb_unit_69_1 {h x : Int32} {I I2 : px_I} {L L2 : px_L} (h : pb_unit h I L x I2 L2) : I2 69 1 = I 69 1 := by
  unfold pb_unit at h
  rw [h.1]

theorem eb_unit_69_2 {h x : Int32} {I I2 : px_I} {L L2 : px_L} (h : pb_unit h I L x I2 L2) : I2 69 2 = I 69 2 := by
  unfold pb_unit at h
  rw [h.1]

theorem ek_unit_103_21 {h x : Int32} {I I2 : px_I} {L L2 : px_L} (h : pk_unit h I L x I2 L2) : I2 103 21 = I 103 21 := by
  unfold pk_unit at h
  rw [h.1]

theorem eL_unit_103 {h x : Int32} {I I2 : px_I} {L L2 : px_L} (h : pk_unit h I L x I2 L2) : L2 103 = L 103 := by
  unfold pk_unit at h
  rw [h.2.1]

theorem eb_feed_69_0 {a b c d e x : Int32} {I I2 : px_I} {L L2 : px_L} (h : pb_feed a b c d e I L x I2 L2) : I2 69 0 = I 69 0 := by
  unfold pb_feed at h
  obtain ⟨rfl, h⟩ := h
  rcases h with ⟨a1, rfl, rfl⟩ | ⟨a1, rfl, rfl⟩
  · rw [cApp_at _ _ 69 0 (by omega) (by omega), cApp_at _ _ 69 0 (by omega) (by omega), cApp_at _ _ 69 0 (by omega) (by omega), cApp_at _ _ 69 0 (by omega) (by omega), cApp_at _ _ 69 0 (by omega) (by omega)]
  · rfl

theorem eb_feed_69_1 {a b c d e x : Int32} {I I2 : px_I} {L L2 : px_L} (h : pb_feed a b c d e I L x I2 L2) : I2 69 1 = I 69 1 := by
  unfold pb_feed at h
  obtain ⟨rfl, h⟩ := h
  rcases h with ⟨a1, rfl, rfl⟩ | ⟨a1, rfl, rfl⟩
  · rw [cApp_at _ _ 69 1 (by omega) (by omega), cApp_at _ _ 69 1 (by omega) (by omega), cApp_at _ _ 69 1 (by omega) (by omega), cApp_at _ _ 69 1 (by omega) (by omega), cApp_at _ _ 69 1 (by omega) (by omega)]
  · rfl

theorem eb_feed_69_2 {a b c d e x : Int32} {I I2 : px_I} {L L2 : px_L} (h : pb_feed a b c d e I L x I2 L2) : I2 69 2 = I 69 2 := by
  unfold pb_feed at h
  obtain ⟨rfl, h⟩ := h
  rcases h with ⟨a1, rfl, rfl⟩ | ⟨a1, rfl, rfl⟩
  · rw [cApp_at _ _ 69 2 (by omega) (by omega), cApp_at _ _ 69 2 (by omega) (by omega), cApp_at _ _ 69 2 (by omega) (by omega), cApp_at _ _ 69 2 (by omega) (by omega), cApp_at _ _ 69 2 (by omega) (by omega)]
  · rfl

theorem ek_feed_103_21 {a b c d e x : Int32} {I I2 : px_I} {L L2 : px_L} (h : pk_feed a b c d e I L x I2 L2) : I2 103 21 = I 103 21 := by
  unfold pk_feed at h
  obtain ⟨rfl, h⟩ := h
  rcases h with ⟨a1, rfl, rfl⟩ | ⟨a1, rfl, rfl⟩
  · rw [mPut_o (by omega) (by omega), mPut_o (by omega) (by omega), mPut_o (by omega) (by omega), mPut_o (by omega) (by omega), mPut_o (by omega) (by omega)]
  · rfl

theorem eL_feed_103 {a b c d e x : Int32} {I I2 : px_I} {L L2 : px_L} (h : pk_feed a b c d e I L x I2 L2) : L2 103 = L 103 := by
  unfold pk_feed at h
  rw [h.1]

theorem eb_end_69_0 {x9 x : Int32} {I I2 : px_I} {L L2 : px_L} (h : pb_end x9 I L x I2 L2) : I2 69 0 = I 69 0 := by
  unfold pb_end at h
  obtain ⟨rfl, h⟩ := h
  rcases h with ⟨a1, rfl, rfl⟩ | ⟨a1, rfl, rfl⟩
  · (repeat rw [px_u_out (by omega)])
  · rfl

theorem eb_end_69_1 {x9 x : Int32} {I I2 : px_I} {L L2 : px_L} (h : pb_end x9 I L x I2 L2) : I2 69 1 = I 69 1 := by
  unfold pb_end at h
  obtain ⟨rfl, h⟩ := h
  rcases h with ⟨a1, rfl, rfl⟩ | ⟨a1, rfl, rfl⟩
  · (repeat rw [px_u_out (by omega)])
  · rfl

theorem eb_end_69_2 {x9 x : Int32} {I I2 : px_I} {L L2 : px_L} (h : pb_end x9 I L x I2 L2) : I2 69 2 = I 69 2 := by
  unfold pb_end at h
  obtain ⟨rfl, h⟩ := h
  rcases h with ⟨a1, rfl, rfl⟩ | ⟨a1, rfl, rfl⟩
  · (repeat rw [px_u_out (by omega)])
  · rfl

theorem ek_end_103_21 {x9 x : Int32} {I I2 : px_I} {L L2 : px_L} (h : pk_end x9 I L x I2 L2) : I2 103 21 = I 103 21 := by
  unfold pk_end at h
  obtain ⟨rfl, h⟩ := h
  rcases h with ⟨a1, a2, rfl, rfl⟩ | ⟨a1, rfl, rfl⟩
  · (repeat rw [px_u_out (by omega)])
  · rfl

theorem eL_end_103 {x9 x : Int32} {I I2 : px_I} {L L2 : px_L} (h : pk_end x9 I L x I2 L2) : L2 103 = L 103 := by
  unfold pk_end at h
  rw [h.1]

theorem eb_way_69_0 {i x : Int32} {I I2 : px_I} {L L2 : px_L} (h : pb_way i I L x I2 L2) : I2 69 0 = I 69 0 := by
  unfold pb_way at h
  exact h.1 69 0 (by omega) (by omega) (by omega) (by omega) (by omega)

theorem eb_way_69_1 {i x : Int32} {I I2 : px_I} {L L2 : px_L} (h : pb_way i I L x I2 L2) : I2 69 1 = I 69 1 := by
  unfold pb_way at h
  exact h.1 69 1 (by omega) (by omega) (by omega) (by omega) (by omega)

theorem eb_way_69_2 {i x : Int32} {I I2 : px_I} {L L2 : px_L} (h : pb_way i I L x I2 L2) : I2 69 2 = I 69 2 := by
  unfold pb_way at h
  exact h.1 69 2 (by omega) (by omega) (by omega) (by omega) (by omega)

theorem ek_way_103_21 {w x : Int32} {I I2 : px_I} {L L2 : px_L} (h : pk_way w I L x I2 L2) : I2 103 21 = I 103 21 := by
  unfold pk_way at h
  obtain ⟨rfl, h⟩ := h
  rcases h with ⟨a1, a2, rfl⟩ | ⟨a1, a2, a3⟩
  · rfl
  · exact a2 103 21 (by omega) (by omega)

theorem eL_way_103 {w x : Int32} {I I2 : px_I} {L L2 : px_L} (h : pk_way w I L x I2 L2) : L2 103 = L 103 := by
  unfold pk_way at h
  rw [h.1]

theorem eb_fault_69_0 {x9 x : Int32} {I I2 : px_I} {L L2 : px_L} (h : pb_fault x9 I L x I2 L2) : I2 69 0 = I 69 0 := by
  unfold pb_fault at h
  rw [h.1]

theorem eb_fault_69_1 {x9 x : Int32} {I I2 : px_I} {L L2 : px_L} (h : pb_fault x9 I L x I2 L2) : I2 69 1 = I 69 1 := by
  unfold pb_fault at h
  rw [h.1]

theorem eb_fault_69_2 {x9 x : Int32} {I I2 : px_I} {L L2 : px_L} (h : pb_fault x9 I L x I2 L2) : I2 69 2 = I 69 2 := by
  unfold pb_fault at h
  rw [h.1]

theorem ek_fault_103_21 {x9 x : Int32} {I I2 : px_I} {L L2 : px_L} (h : pk_fault x9 I L x I2 L2) : I2 103 21 = I 103 21 := by
  unfold pk_fault at h
  rw [h.1]

theorem eL_fault_103 {x9 x : Int32} {I I2 : px_I} {L L2 : px_L} (h : pk_fault x9 I L x I2 L2) : L2 103 = L 103 := by
  unfold pk_fault at h
  rw [h.2.1]

theorem eb_tools_69_0 {a b c d e x : Int32} {I I2 : px_I} {L L2 : px_L} (h : pb_tools a b c d e I L x I2 L2) : I2 69 0 = I 69 0 := by
  unfold pb_tools at h
  obtain ⟨rfl, h⟩ := h
  rcases h with ⟨a1, rfl, a2⟩ | ⟨a1, rfl, rfl⟩
  · rw [a2 69 (by decide)]; (repeat rw [px_u_out (by omega)])
  · rfl

theorem eb_tools_69_1 {a b c d e x : Int32} {I I2 : px_I} {L L2 : px_L} (h : pb_tools a b c d e I L x I2 L2) : I2 69 1 = I 69 1 := by
  unfold pb_tools at h
  obtain ⟨rfl, h⟩ := h
  rcases h with ⟨a1, rfl, a2⟩ | ⟨a1, rfl, rfl⟩
  · rw [a2 69 (by decide)]; (repeat rw [px_u_out (by omega)])
  · rfl

theorem eb_tools_69_2 {a b c d e x : Int32} {I I2 : px_I} {L L2 : px_L} (h : pb_tools a b c d e I L x I2 L2) : I2 69 2 = I 69 2 := by
  unfold pb_tools at h
  obtain ⟨rfl, h⟩ := h
  rcases h with ⟨a1, rfl, a2⟩ | ⟨a1, rfl, rfl⟩
  · rw [a2 69 (by decide)]; (repeat rw [px_u_out (by omega)])
  · rfl

theorem ek_tools_103_21 {a b c d e x : Int32} {I I2 : px_I} {L L2 : px_L} (h : pk_tools a b c d e I L x I2 L2) : I2 103 21 = I 103 21 := by
  unfold pk_tools at h
  obtain ⟨rfl, h⟩ := h
  rcases h with ⟨a1, rfl, rfl⟩ | ⟨a1, rfl, rfl⟩
  · (repeat rw [px_u_out (by omega)])
  · rfl

theorem eL_tools_103 {a b c d e x : Int32} {I I2 : px_I} {L L2 : px_L} (h : pk_tools a b c d e I L x I2 L2) : L2 103 = L 103 := by
  unfold pk_tools at h
  rw [h.1]

theorem eb_run_69_0 {w h a x : Int32} {I I2 : px_I} {L L2 : px_L} (h : pb_run w h a I L x I2 L2) : I2 69 0 = I 69 0 := by
  unfold pb_run at h
  exact h.1 69 0 (by omega) (by omega) (by omega) (by omega) (by omega) (by omega) (by omega)

theorem eb_run_69_1 {w h a x : Int32} {I I2 : px_I} {L L2 : px_L} (h : pb_run w h a I L x I2 L2) : I2 69 1 = I 69 1 := by
  unfold pb_run at h
  exact h.1 69 1 (by omega) (by omega) (by omega) (by omega) (by omega) (by omega) (by omega)

theorem eb_run_69_2 {w h a x : Int32} {I I2 : px_I} {L L2 : px_L} (h : pb_run w h a I L x I2 L2) : I2 69 2 = I 69 2 := by
  unfold pb_run at h
  exact h.1 69 2 (by omega) (by omega) (by omega) (by omega) (by omega) (by omega) (by omega)

theorem ek_run_103_21 {w h a x : Int32} {I I2 : px_I} {L L2 : px_L} (h : pk_run w h a I L x I2 L2) : I2 103 21 = I 103 21 := by
  unfold pk_run at h
  exact h.1 103 21 (by omega) (by omega) (by omega)

theorem eL_run_103 {w h a x : Int32} {I I2 : px_I} {L L2 : px_L} (h : pk_run w h a I L x I2 L2) : L2 103 = L 103 := by
  unfold pk_run at h
  rw [h.2 103 (by omega) (by omega) (by omega) (by omega) (by omega)]

theorem eb_meeting_69_0 {a f b t x9 h x : Int32} {I I2 : px_I} {L L2 : px_L} (h : pb_meeting a f b t x9 h I L x I2 L2) : I2 69 0 = I 69 0 := by
  unfold pb_meeting at h
  exact h.1 69 0 (by omega) (by omega) (by omega) (by omega) (by omega) (by omega) (by omega)

theorem eb_meeting_69_1 {a f b t x9 h x : Int32} {I I2 : px_I} {L L2 : px_L} (h : pb_meeting a f b t x9 h I L x I2 L2) : I2 69 1 = I 69 1 := by
  unfold pb_meeting at h
  exact h.1 69 1 (by omega) (by omega) (by omega) (by omega) (by omega) (by omega) (by omega)

theorem eb_meeting_69_2 {a f b t x9 h x : Int32} {I I2 : px_I} {L L2 : px_L} (h : pb_meeting a f b t x9 h I L x I2 L2) : I2 69 2 = I 69 2 := by
  unfold pb_meeting at h
  exact h.1 69 2 (by omega) (by omega) (by omega) (by omega) (by omega) (by omega) (by omega)

theorem ek_meeting_103_21 {a f b t x9 h x : Int32} {I I2 : px_I} {L L2 : px_L} (h : pk_meeting a f b t x9 h I L x I2 L2) : I2 103 21 = I 103 21 := by
  unfold pk_meeting at h
  exact h.1 103 21 (by omega) (by omega) (by omega)

theorem eL_meeting_103 {a f b t x9 h x : Int32} {I I2 : px_I} {L L2 : px_L} (h : pk_meeting a f b t x9 h I L x I2 L2) : L2 103 = L 103 := by
  unfold pk_meeting at h
  rw [h.2 103 (by omega) (by omega) (by omega) (by omega) (by omega)]

theorem eb_there_69_0 {a lo hi x : Int32} {I I2 : px_I} {L L2 : px_L} (h : pb_there a lo hi I L x I2 L2) : I2 69 0 = I 69 0 := by
  unfold pb_there at h
  obtain ⟨rfl, h⟩ := h
  rcases h with ⟨a1, rfl, rfl⟩ | ⟨a1, rfl, rfl⟩
  · (repeat rw [px_u_out (by omega)])
  · rfl

theorem eb_there_69_1 {a lo hi x : Int32} {I I2 : px_I} {L L2 : px_L} (h : pb_there a lo hi I L x I2 L2) : I2 69 1 = I 69 1 := by
  unfold pb_there at h
  obtain ⟨rfl, h⟩ := h
  rcases h with ⟨a1, rfl, rfl⟩ | ⟨a1, rfl, rfl⟩
  · (repeat rw [px_u_out (by omega)])
  · rfl

theorem eb_there_69_2 {a lo hi x : Int32} {I I2 : px_I} {L L2 : px_L} (h : pb_there a lo hi I L x I2 L2) : I2 69 2 = I 69 2 := by
  unfold pb_there at h
  obtain ⟨rfl, h⟩ := h
  rcases h with ⟨a1, rfl, rfl⟩ | ⟨a1, rfl, rfl⟩
  · (repeat rw [px_u_out (by omega)])
  · rfl

theorem ek_there_103_21 {a lo hi x : Int32} {I I2 : px_I} {L L2 : px_L} (h : pk_there a lo hi I L x I2 L2) : I2 103 21 = I 103 21 := by
  unfold pk_there at h
  obtain ⟨rfl, h⟩ := h
  rcases h with ⟨a1, rfl, rfl⟩ | ⟨a1, rfl, rfl⟩
  · (repeat rw [px_u_out (by omega)])
  · rfl

theorem eL_there_103 {a lo hi x : Int32} {I I2 : px_I} {L L2 : px_L} (h : pk_there a lo hi I L x I2 L2) : L2 103 = L 103 := by
  unfold pk_there at h
  rw [h.1]

theorem eb_fits_69_0 {a f b t x : Int32} {I I2 : px_I} {L L2 : px_L} (h : pb_fits a f b t I L x I2 L2) : I2 69 0 = I 69 0 := by
  unfold pb_fits at h
  exact h.1 69 0 (by omega) (by omega) (by omega) (by omega) (by omega) (by omega) (by omega)

theorem eb_fits_69_1 {a f b t x : Int32} {I I2 : px_I} {L L2 : px_L} (h : pb_fits a f b t I L x I2 L2) : I2 69 1 = I 69 1 := by
  unfold pb_fits at h
  exact h.1 69 1 (by omega) (by omega) (by omega) (by omega) (by omega) (by omega) (by omega)

theorem eb_fits_69_2 {a f b t x : Int32} {I I2 : px_I} {L L2 : px_L} (h : pb_fits a f b t I L x I2 L2) : I2 69 2 = I 69 2 := by
  unfold pb_fits at h
  exact h.1 69 2 (by omega) (by omega) (by omega) (by omega) (by omega) (by omega) (by omega)

theorem ek_fits_103_21 {a f b t x : Int32} {I I2 : px_I} {L L2 : px_L} (h : pk_fits a f b t I L x I2 L2) : I2 103 21 = I 103 21 := by
  unfold pk_fits at h
  exact h.1 103 21 (by omega) (by omega) (by omega)

theorem eL_fits_103 {a f b t x : Int32} {I I2 : px_I} {L L2 : px_L} (h : pk_fits a f b t I L x I2 L2) : L2 103 = L 103 := by
  unfold pk_fits at h
  rw [h.2 103 (by omega) (by omega) (by omega) (by omega) (by omega)]

theorem eb_ways_69_0 {a f b t x9 x : Int32} {I I2 : px_I} {L L2 : px_L} (h : pb_ways a f b t x9 I L x I2 L2) : I2 69 0 = I 69 0 := by
  unfold pb_ways at h
  exact h.1 69 0 (by omega) (by omega) (by omega) (by omega) (by omega) (by omega) (by omega)

theorem eb_ways_69_1 {a f b t x9 x : Int32} {I I2 : px_I} {L L2 : px_L} (h : pb_ways a f b t x9 I L x I2 L2) : I2 69 1 = I 69 1 := by
  unfold pb_ways at h
  exact h.1 69 1 (by omega) (by omega) (by omega) (by omega) (by omega) (by omega) (by omega)

theorem eb_ways_69_2 {a f b t x9 x : Int32} {I I2 : px_I} {L L2 : px_L} (h : pb_ways a f b t x9 I L x I2 L2) : I2 69 2 = I 69 2 := by
  unfold pb_ways at h
  exact h.1 69 2 (by omega) (by omega) (by omega) (by omega) (by omega) (by omega) (by omega)

theorem ek_ways_103_21 {a f b t x9 x : Int32} {I I2 : px_I} {L L2 : px_L} (h : pk_ways a f b t x9 I L x I2 L2) : I2 103 21 = I 103 21 := by
  unfold pk_ways at h
  exact h.1 103 21 (by omega) (by omega) (by omega)

theorem eL_ways_103 {a f b t x9 x : Int32} {I I2 : px_I} {L L2 : px_L} (h : pk_ways a f b t x9 I L x I2 L2) : L2 103 = L 103 := by
  unfold pk_ways at h
  rw [h.2 103 (by omega) (by omega) (by omega) (by omega) (by omega)]

theorem eb_seek_69_0 {a b c d e f x : Int32} {I I2 : px_I} {L L2 : px_L} (h : pb_seek a b c d e f I L x I2 L2) : I2 69 0 = I 69 0 := by
  unfold pb_seek at h
  obtain ⟨rfl, h⟩ := h
  rcases h with ⟨a1, rfl, rfl⟩ | ⟨a1, rfl, rfl⟩
  · (repeat rw [px_u_out (by omega)])
  · rfl

theorem eb_seek_69_1 {a b c d e f x : Int32} {I I2 : px_I} {L L2 : px_L} (h : pb_seek a b c d e f I L x I2 L2) : I2 69 1 = I 69 1 := by
  unfold pb_seek at h
  obtain ⟨rfl, h⟩ := h
  rcases h with ⟨a1, rfl, rfl⟩ | ⟨a1, rfl, rfl⟩
  · (repeat rw [px_u_out (by omega)])
  · rfl

theorem eb_seek_69_2 {a b c d e f x : Int32} {I I2 : px_I} {L L2 : px_L} (h : pb_seek a b c d e f I L x I2 L2) : I2 69 2 = I 69 2 := by
  unfold pb_seek at h
  obtain ⟨rfl, h⟩ := h
  rcases h with ⟨a1, rfl, rfl⟩ | ⟨a1, rfl, rfl⟩
  · (repeat rw [px_u_out (by omega)])
  · rfl

theorem ek_seek_103_21 {a b c d e f x : Int32} {I I2 : px_I} {L L2 : px_L} (h : pk_seek a b c d e f I L x I2 L2) : I2 103 21 = I 103 21 := by
  unfold pk_seek at h
  obtain ⟨rfl, h⟩ := h
  rcases h with ⟨a1, rfl, rfl⟩ | ⟨a1, rfl, rfl⟩
  · (repeat rw [px_u_out (by omega)])
  · rfl

theorem eL_seek_103 {a b c d e f x : Int32} {I I2 : px_I} {L L2 : px_L} (h : pk_seek a b c d e f I L x I2 L2) : L2 103 = L 103 := by
  unfold pk_seek at h
  rw [h.1]

theorem eb_detour_69_0 {a o h x : Int32} {I I2 : px_I} {L L2 : px_L} (h : pb_detour a o h I L x I2 L2) : I2 69 0 = I 69 0 := by
  unfold pb_detour at h
  rw [h.1]

theorem eb_detour_69_1 {a o h x : Int32} {I I2 : px_I} {L L2 : px_L} (h : pb_detour a o h I L x I2 L2) : I2 69 1 = I 69 1 := by
  unfold pb_detour at h
  rw [h.1]

theorem eb_detour_69_2 {a o h x : Int32} {I I2 : px_I} {L L2 : px_L} (h : pb_detour a o h I L x I2 L2) : I2 69 2 = I 69 2 := by
  unfold pb_detour at h
  rw [h.1]

theorem ek_detour_103_21 {a o lo x : Int32} {I I2 : px_I} {L L2 : px_L} (h : pk_detour a o lo I L x I2 L2) : I2 103 21 = I 103 21 := by
  unfold pk_detour at h
  rw [h.1]

theorem eL_detour_103 {a o lo x : Int32} {I I2 : px_I} {L L2 : px_L} (h : pk_detour a o lo I L x I2 L2) : L2 103 = L 103 := by
  unfold pk_detour at h
  rw [h.2 103 (by omega) (by omega)]

theorem eb_table_69_0 {c v x : Int32} {I I2 : px_I} {L L2 : px_L} (h : pb_table c v I L x I2 L2) : I2 69 0 = I 69 0 := by
  unfold pb_table at h
  obtain ⟨rfl, h⟩ := h
  rcases h with ⟨a1, rfl, rfl⟩ | ⟨a1, rfl, rfl⟩
  · (repeat rw [px_u_out (by omega)])
  · rfl

theorem eb_table_69_1 {c v x : Int32} {I I2 : px_I} {L L2 : px_L} (h : pb_table c v I L x I2 L2) : I2 69 1 = I 69 1 := by
  unfold pb_table at h
  obtain ⟨rfl, h⟩ := h
  rcases h with ⟨a1, rfl, rfl⟩ | ⟨a1, rfl, rfl⟩
  · (repeat rw [px_u_out (by omega)])
  · rfl

theorem eb_table_69_2 {c v x : Int32} {I I2 : px_I} {L L2 : px_L} (h : pb_table c v I L x I2 L2) : I2 69 2 = I 69 2 := by
  unfold pb_table at h
  obtain ⟨rfl, h⟩ := h
  rcases h with ⟨a1, rfl, rfl⟩ | ⟨a1, rfl, rfl⟩
  · (repeat rw [px_u_out (by omega)])
  · rfl

theorem ek_table_103_21 {c v x : Int32} {I I2 : px_I} {L L2 : px_L} (h : pk_table c v I L x I2 L2) : I2 103 21 = I 103 21 := by
  unfold pk_table at h
  obtain ⟨rfl, h⟩ := h
  rcases h with ⟨a1, rfl, rfl⟩ | ⟨a1, rfl, rfl⟩
  · (repeat rw [px_u_out (by omega)])
  · rfl

theorem eL_table_103 {c v x : Int32} {I I2 : px_I} {L L2 : px_L} (h : pk_table c v I L x I2 L2) : L2 103 = L 103 := by
  unfold pk_table at h
  rw [h.1]

theorem eb_repair_69_0 {g p y x : Int32} {I I2 : px_I} {L L2 : px_L} (h : pb_repair g p y I L x I2 L2) : I2 69 0 = I 69 0 := by
  unfold pb_repair at h
  obtain ⟨rfl, h⟩ := h
  rcases h with ⟨G, g1, rfl, rfl⟩ | ⟨a1, rfl, rfl⟩
  · have g2 := g1.1
    have gG : G = 41 ∨ G = 55 := by unfold bG at g2; omega
    unfold cRep; (repeat rw [px_u_out (by omega)])
  · rfl

theorem eb_repair_69_1 {g p y x : Int32} {I I2 : px_I} {L L2 : px_L} (h : pb_repair g p y I L x I2 L2) : I2 69 1 = I 69 1 := by
  unfold pb_repair at h
  obtain ⟨rfl, h⟩ := h
  rcases h with ⟨G, g1, rfl, rfl⟩ | ⟨a1, rfl, rfl⟩
  · have g2 := g1.1
    have gG : G = 41 ∨ G = 55 := by unfold bG at g2; omega
    unfold cRep; (repeat rw [px_u_out (by omega)])
  · rfl

theorem eb_repair_69_2 {g p y x : Int32} {I I2 : px_I} {L L2 : px_L} (h : pb_repair g p y I L x I2 L2) : I2 69 2 = I 69 2 := by
  unfold pb_repair at h
  obtain ⟨rfl, h⟩ := h
  rcases h with ⟨G, g1, rfl, rfl⟩ | ⟨a1, rfl, rfl⟩
  · have g2 := g1.1
    have gG : G = 41 ∨ G = 55 := by unfold bG at g2; omega
    unfold cRep; (repeat rw [px_u_out (by omega)])
  · rfl

theorem ek_repair_103_21 {g p y x : Int32} {I I2 : px_I} {L L2 : px_L} (h : pk_repair g p y I L x I2 L2) : I2 103 21 = I 103 21 := by
  unfold pk_repair at h
  obtain ⟨rfl, h⟩ := h
  rcases h with ⟨a1, rfl, rfl⟩ | ⟨a1, rfl, rfl⟩
  · (repeat rw [px_u_out (by omega)])
  · rfl

theorem eL_repair_103 {g p y x : Int32} {I I2 : px_I} {L L2 : px_L} (h : pk_repair g p y I L x I2 L2) : L2 103 = L 103 := by
  unfold pk_repair at h
  rw [h.1]

theorem eb_lime_69_0 {v x : Int32} {I I2 : px_I} {L L2 : px_L} (h : pb_lime v I L x I2 L2) : I2 69 0 = I 69 0 := by
  unfold pb_lime at h
  obtain ⟨rfl, h⟩ := h
  rcases h with ⟨a1, rfl, rfl⟩ | ⟨a1, rfl, rfl⟩
  · (repeat rw [px_u_out (by omega)])
  · rfl

theorem eb_lime_69_1 {v x : Int32} {I I2 : px_I} {L L2 : px_L} (h : pb_lime v I L x I2 L2) : I2 69 1 = I 69 1 := by
  unfold pb_lime at h
  obtain ⟨rfl, h⟩ := h
  rcases h with ⟨a1, rfl, rfl⟩ | ⟨a1, rfl, rfl⟩
  · (repeat rw [px_u_out (by omega)])
  · rfl

theorem eb_lime_69_2 {v x : Int32} {I I2 : px_I} {L L2 : px_L} (h : pb_lime v I L x I2 L2) : I2 69 2 = I 69 2 := by
  unfold pb_lime at h
  obtain ⟨rfl, h⟩ := h
  rcases h with ⟨a1, rfl, rfl⟩ | ⟨a1, rfl, rfl⟩
  · (repeat rw [px_u_out (by omega)])
  · rfl

theorem ek_lime_103_21 {v x : Int32} {I I2 : px_I} {L L2 : px_L} (h : pk_lime v I L x I2 L2) : I2 103 21 = I 103 21 := by
  unfold pk_lime at h
  obtain ⟨rfl, h⟩ := h
  rcases h with ⟨a1, a2, rfl, rfl⟩ | ⟨a1, rfl, rfl⟩
  · (repeat rw [px_u_out (by omega)])
  · rfl

theorem eL_lime_103 {v x : Int32} {I I2 : px_I} {L L2 : px_L} (h : pk_lime v I L x I2 L2) : L2 103 = L 103 := by
  unfold pk_lime at h
  rw [h.1]

theorem eb_flow_69_0 {g y k h x : Int32} {I I2 : px_I} {L L2 : px_L} (h : pb_flow g y k h I L x I2 L2) : I2 69 0 = I 69 0 := by
  unfold pb_flow at h
  exact h.1 69 0 (by omega)

theorem eb_flow_69_1 {g y k h x : Int32} {I I2 : px_I} {L L2 : px_L} (h : pb_flow g y k h I L x I2 L2) : I2 69 1 = I 69 1 := by
  unfold pb_flow at h
  exact h.1 69 1 (by omega)

theorem eb_flow_69_2 {g y k h x : Int32} {I I2 : px_I} {L L2 : px_L} (h : pb_flow g y k h I L x I2 L2) : I2 69 2 = I 69 2 := by
  unfold pb_flow at h
  exact h.1 69 2 (by omega)

theorem ek_flow_103_21 {g y k h x : Int32} {I I2 : px_I} {L L2 : px_L} (h : pk_flow g y k h I L x I2 L2) : I2 103 21 = I 103 21 := by
  unfold pk_flow at h
  exact h.1 103 21 (by omega)

theorem eL_flow_103 {g y k h x : Int32} {I I2 : px_I} {L L2 : px_L} (h : pk_flow g y k h I L x I2 L2) : L2 103 = L 103 := by
  unfold pk_flow at h
  rw [h.2 103 (by omega)]

theorem eb_narrow_69_0 {g y k x : Int32} {I I2 : px_I} {L L2 : px_L} (h : pb_narrow g y k I L x I2 L2) : I2 69 0 = I 69 0 := by
  unfold pb_narrow at h
  exact h.1 69 0 (by omega)

theorem eb_narrow_69_1 {g y k x : Int32} {I I2 : px_I} {L L2 : px_L} (h : pb_narrow g y k I L x I2 L2) : I2 69 1 = I 69 1 := by
  unfold pb_narrow at h
  exact h.1 69 1 (by omega)

theorem eb_narrow_69_2 {g y k x : Int32} {I I2 : px_I} {L L2 : px_L} (h : pb_narrow g y k I L x I2 L2) : I2 69 2 = I 69 2 := by
  unfold pb_narrow at h
  exact h.1 69 2 (by omega)

theorem ek_narrow_103_21 {g y k x : Int32} {I I2 : px_I} {L L2 : px_L} (h : pk_narrow g y k I L x I2 L2) : I2 103 21 = I 103 21 := by
  unfold pk_narrow at h
  exact h.1 103 21 (by omega)

theorem eL_narrow_103 {g y k x : Int32} {I I2 : px_I} {L L2 : px_L} (h : pk_narrow g y k I L x I2 L2) : L2 103 = L 103 := by
  unfold pk_narrow at h
  rw [h.2 103 (by omega)]

theorem eb_about_69_0 {w x : Int32} {I I2 : px_I} {L L2 : px_L} (h : pb_about w I L x I2 L2) : I2 69 0 = I 69 0 := by
  unfold pb_about at h
  rw [h.1]

theorem eb_about_69_1 {w x : Int32} {I I2 : px_I} {L L2 : px_L} (h : pb_about w I L x I2 L2) : I2 69 1 = I 69 1 := by
  unfold pb_about at h
  rw [h.1]

theorem eb_about_69_2 {w x : Int32} {I I2 : px_I} {L L2 : px_L} (h : pb_about w I L x I2 L2) : I2 69 2 = I 69 2 := by
  unfold pb_about at h
  rw [h.1]

theorem ek_about_103_21 {w x : Int32} {I I2 : px_I} {L L2 : px_L} (h : pk_about w I L x I2 L2) : I2 103 21 = I 103 21 := by
  unfold pk_about at h
  rw [h.1]

theorem eL_about_103 {w x : Int32} {I I2 : px_I} {L L2 : px_L} (h : pk_about w I L x I2 L2) : L2 103 = L 103 := by
  unfold pk_about at h
  rw [h.2.1]

theorem eb_days_41_15 {x9 x : Int32} {I I2 : px_I} {L L2 : px_L} (h : pb_days x9 I L x I2 L2) : I2 41 15 = I 41 15 := by
  unfold pb_days at h
  obtain ⟨rfl, h⟩ := h
  rcases h with ⟨a1, a2, rfl, rfl⟩ | ⟨a1, rfl, rfl⟩
  · (repeat rw [px_u_out (by omega)])
  · rfl

theorem eb_days_55_15 {x9 x : Int32} {I I2 : px_I} {L L2 : px_L} (h : pb_days x9 I L x I2 L2) : I2 55 15 = I 55 15 := by
  unfold pb_days at h
  obtain ⟨rfl, h⟩ := h
  rcases h with ⟨a1, a2, rfl, rfl⟩ | ⟨a1, rfl, rfl⟩
  · (repeat rw [px_u_out (by omega)])
  · rfl

theorem ek_days_103_63 {x9 x : Int32} {I I2 : px_I} {L L2 : px_L} (h : pk_days x9 I L x I2 L2) : I2 103 63 = I 103 63 := by
  unfold pk_days at h
  obtain ⟨rfl, h⟩ := h
  rcases h with ⟨a1, a2, a3, rfl, rfl⟩ | ⟨a1, rfl, rfl⟩
  · (repeat rw [px_u_out (by omega)])
  · rfl

theorem eb_station_41_15 { x : Int32} {I I2 : px_I} {L L2 : px_L} (h : pb_station  I L x I2 L2) : I2 41 15 = I 41 15 := by
  unfold pb_station at h
  obtain ⟨rfl, h⟩ := h
  rcases h with ⟨a1, rfl, rfl⟩ | ⟨a1, rfl, rfl⟩
  · (repeat rw [px_u_out (by omega)])
  · rfl

theorem eb_station_55_15 { x : Int32} {I I2 : px_I} {L L2 : px_L} (h : pb_station  I L x I2 L2) : I2 55 15 = I 55 15 := by
  unfold pb_station at h
  obtain ⟨rfl, h⟩ := h
  rcases h with ⟨a1, rfl, rfl⟩ | ⟨a1, rfl, rfl⟩
  · (repeat rw [px_u_out (by omega)])
  · rfl

theorem ek_station_103_63 { x : Int32} {I I2 : px_I} {L L2 : px_L} (h : pk_station  I L x I2 L2) : I2 103 63 = I 103 63 := by
  unfold pk_station at h
  obtain ⟨rfl, h⟩ := h
  rcases h with ⟨a1, rfl, rfl⟩ | ⟨a1, rfl, rfl⟩
  · (repeat rw [px_u_out (by omega)])
  · rfl

theorem eb_sight_41_15 {a f t lo hi x : Int32} {I I2 : px_I} {L L2 : px_L} (h : pb_sight a f t lo hi I L x I2 L2) : I2 41 15 = I 41 15 := by
  unfold pb_sight at h
  obtain ⟨rfl, h⟩ := h
  rcases h with ⟨a1, rfl, rfl⟩ | ⟨a1, rfl, rfl⟩
  · (repeat rw [px_u_out (by omega)])
  · rfl

theorem eb_sight_55_15 {a f t lo hi x : Int32} {I I2 : px_I} {L L2 : px_L} (h : pb_sight a f t lo hi I L x I2 L2) : I2 55 15 = I 55 15 := by
  unfold pb_sight at h
  obtain ⟨rfl, h⟩ := h
  rcases h with ⟨a1, rfl, rfl⟩ | ⟨a1, rfl, rfl⟩
  · (repeat rw [px_u_out (by omega)])
  · rfl

theorem ek_sight_103_63 {a f t lo hi x : Int32} {I I2 : px_I} {L L2 : px_L} (h : pk_sight a f t lo hi I L x I2 L2) : I2 103 63 = I 103 63 := by
  unfold pk_sight at h
  obtain ⟨rfl, h⟩ := h
  rcases h with ⟨a1, rfl, rfl⟩ | ⟨a1, rfl, rfl⟩
  · (repeat rw [px_u_out (by omega)])
  · rfl

theorem eb_closed_41_15 {a k x : Int32} {I I2 : px_I} {L L2 : px_L} (h : pb_closed a k I L x I2 L2) : I2 41 15 = I 41 15 := by
  unfold pb_closed at h
  obtain ⟨rfl, h⟩ := h
  rfl

theorem eb_closed_55_15 {a k x : Int32} {I I2 : px_I} {L L2 : px_L} (h : pb_closed a k I L x I2 L2) : I2 55 15 = I 55 15 := by
  unfold pb_closed at h
  obtain ⟨rfl, h⟩ := h
  rfl

theorem ek_closed_103_63 {a k x : Int32} {I I2 : px_I} {L L2 : px_L} (h : pk_closed a k I L x I2 L2) : I2 103 63 = I 103 63 := by
  unfold pk_closed at h
  exact h.1 103 63 (by omega)

theorem eb_span_41_15 {a t k h x : Int32} {I I2 : px_I} {L L2 : px_L} (h : pb_span a t k h I L x I2 L2) : I2 41 15 = I 41 15 := by
  unfold pb_span at h
  obtain ⟨rfl, h⟩ := h
  rfl

theorem eb_span_55_15 {a t k h x : Int32} {I I2 : px_I} {L L2 : px_L} (h : pb_span a t k h I L x I2 L2) : I2 55 15 = I 55 15 := by
  unfold pb_span at h
  obtain ⟨rfl, h⟩ := h
  rfl

theorem ek_span_103_63 {a t k h x : Int32} {I I2 : px_I} {L L2 : px_L} (h : pk_span a t k h I L x I2 L2) : I2 103 63 = I 103 63 := by
  unfold pk_span at h
  exact h.1 103 63 (by omega)

theorem eb_gap_41_15 {a f t k h x : Int32} {I I2 : px_I} {L L2 : px_L} (h : pb_gap a f t k h I L x I2 L2) : I2 41 15 = I 41 15 := by
  unfold pb_gap at h
  obtain ⟨rfl, h⟩ := h
  rfl

theorem eb_gap_55_15 {a f t k h x : Int32} {I I2 : px_I} {L L2 : px_L} (h : pb_gap a f t k h I L x I2 L2) : I2 55 15 = I 55 15 := by
  unfold pb_gap at h
  obtain ⟨rfl, h⟩ := h
  rfl

theorem ek_gap_103_63 {a f t k h x : Int32} {I I2 : px_I} {L L2 : px_L} (h : pk_gap a f t k h I L x I2 L2) : I2 103 63 = I 103 63 := by
  unfold pk_gap at h
  exact h.1 103 63 (by omega)

theorem eb_blamed_41_15 {a k i x : Int32} {I I2 : px_I} {L L2 : px_L} (h : pb_blamed a k i I L x I2 L2) : I2 41 15 = I 41 15 := by
  unfold pb_blamed at h
  obtain ⟨rfl, h⟩ := h
  rfl

theorem eb_blamed_55_15 {a k i x : Int32} {I I2 : px_I} {L L2 : px_L} (h : pb_blamed a k i I L x I2 L2) : I2 55 15 = I 55 15 := by
  unfold pb_blamed at h
  obtain ⟨rfl, h⟩ := h
  rfl

theorem ek_blamed_103_63 {a k i x : Int32} {I I2 : px_I} {L L2 : px_L} (h : pk_blamed a k i I L x I2 L2) : I2 103 63 = I 103 63 := by
  unfold pk_blamed at h
  exact h.1 103 63 (by omega)

theorem eb_reach_41_15 {g lo hi sl fa w st x : Int32} {I I2 : px_I} {L L2 : px_L} (h : pb_reach g lo hi sl fa w st I L x I2 L2) : I2 41 15 = I 41 15 := by
  unfold pb_reach at h
  obtain ⟨rfl, h⟩ := h
  rcases h with ⟨G, ⟨g1, g2, g3⟩, rfl, rfl⟩ | ⟨a1, rfl, rfl⟩
  · have gG : G = 41 ∨ G = 55 := by unfold bG at g1; omega
    rcases gG with rfl | rfl
    · rw [cReach_f (G := 41) (by omega)]
    · rw [cReach_o (G := 55) (by omega)]
  · rfl

theorem eb_reach_55_15 {g lo hi sl fa w st x : Int32} {I I2 : px_I} {L L2 : px_L} (h : pb_reach g lo hi sl fa w st I L x I2 L2) : I2 55 15 = I 55 15 := by
  unfold pb_reach at h
  obtain ⟨rfl, h⟩ := h
  rcases h with ⟨G, ⟨g1, g2, g3⟩, rfl, rfl⟩ | ⟨a1, rfl, rfl⟩
  · have gG : G = 41 ∨ G = 55 := by unfold bG at g1; omega
    rcases gG with rfl | rfl
    · rw [cReach_o (G := 41) (by omega)]
    · rw [cReach_f (G := 55) (by omega)]
  · rfl

theorem ek_reach_103_63 {g lo hi sl fa w st x : Int32} {I I2 : px_I} {L L2 : px_L} (h : pk_reach g lo hi sl fa w st I L x I2 L2) : I2 103 63 = I 103 63 := by
  unfold pk_reach at h
  obtain ⟨rfl, h⟩ := h
  rcases h with ⟨a1, rfl, rfl⟩ | ⟨a1, rfl, rfl⟩
  · unfold mReach; (repeat rw [px_u_out (by omega)])
  · rfl

theorem eb_mouth_41_15 {g st x : Int32} {I I2 : px_I} {L L2 : px_L} (h : pb_mouth g st I L x I2 L2) : I2 41 15 = I 41 15 := by
  unfold pb_mouth at h
  obtain ⟨rfl, h⟩ := h
  rcases h with ⟨G, g1, rfl⟩ | rfl
  · have gG : G = 41 ∨ G = 55 := by unfold bG at g1; omega
    (repeat rw [px_u_out (by omega)])
  · rfl

theorem eb_mouth_55_15 {g st x : Int32} {I I2 : px_I} {L L2 : px_L} (h : pb_mouth g st I L x I2 L2) : I2 55 15 = I 55 15 := by
  unfold pb_mouth at h
  obtain ⟨rfl, h⟩ := h
  rcases h with ⟨G, g1, rfl⟩ | rfl
  · have gG : G = 41 ∨ G = 55 := by unfold bG at g1; omega
    (repeat rw [px_u_out (by omega)])
  · rfl

theorem ek_mouth_103_63 {g st x : Int32} {I I2 : px_I} {L L2 : px_L} (h : pk_mouth g st I L x I2 L2) : I2 103 63 = I 103 63 := by
  unfold pk_mouth at h
  obtain ⟨rfl, h⟩ := h
  rcases h with ⟨a1, a2, rfl, rfl⟩ | ⟨a1, rfl, rfl⟩
  · (repeat rw [px_u_out (by omega)])
  · rfl

theorem eb_mark_41_15 {g p f t x : Int32} {I I2 : px_I} {L L2 : px_L} (h : pb_mark g p f t I L x I2 L2) : I2 41 15 = I 41 15 := by
  unfold pb_mark at h
  obtain ⟨rfl, h⟩ := h
  rcases h with ⟨G, g1, rfl, rfl⟩ | ⟨a1, rfl, rfl⟩
  · have g2 := g1.1
    have gG : G = 41 ∨ G = 55 := by unfold bG at g2; omega
    unfold cMark; (repeat rw [px_u_out (by omega)])
  · rfl

theorem eb_mark_55_15 {g p f t x : Int32} {I I2 : px_I} {L L2 : px_L} (h : pb_mark g p f t I L x I2 L2) : I2 55 15 = I 55 15 := by
  unfold pb_mark at h
  obtain ⟨rfl, h⟩ := h
  rcases h with ⟨G, g1, rfl, rfl⟩ | ⟨a1, rfl, rfl⟩
  · have g2 := g1.1
    have gG : G = 41 ∨ G = 55 := by unfold bG at g2; omega
    unfold cMark; (repeat rw [px_u_out (by omega)])
  · rfl

theorem ek_mark_103_63 {g p f t x : Int32} {I I2 : px_I} {L L2 : px_L} (h : pk_mark g p f t I L x I2 L2) : I2 103 63 = I 103 63 := by
  unfold pk_mark at h
  obtain ⟨rfl, h⟩ := h
  rcases h with ⟨a1, rfl, rfl⟩ | ⟨a1, rfl, rfl⟩
  · unfold mMark; (repeat rw [px_u_out (by omega)])
  · rfl

theorem eb_when_41_15 {g p h x : Int32} {I I2 : px_I} {L L2 : px_L} (h : pb_when g p h I L x I2 L2) : I2 41 15 = I 41 15 := by
  unfold pb_when at h
  obtain ⟨rfl, h⟩ := h
  rw [h 41 (by decide) (by decide) (by decide) (by decide)]

theorem eb_when_55_15 {g p h x : Int32} {I I2 : px_I} {L L2 : px_L} (h : pb_when g p h I L x I2 L2) : I2 55 15 = I 55 15 := by
  unfold pb_when at h
  obtain ⟨rfl, h⟩ := h
  rw [h 55 (by decide) (by decide) (by decide) (by decide)]

theorem ek_when_103_63 {g p h x : Int32} {I I2 : px_I} {L L2 : px_L} (h : pk_when g p h I L x I2 L2) : I2 103 63 = I 103 63 := by
  unfold pk_when at h
  exact h.1 103 63 (by omega)

theorem eb_between_41_15 {g p q h x : Int32} {I I2 : px_I} {L L2 : px_L} (h : pb_between g p q h I L x I2 L2) : I2 41 15 = I 41 15 := by
  unfold pb_between at h
  obtain ⟨rfl, h⟩ := h
  rw [h 41 (by decide) (by decide) (by decide) (by decide)]

theorem eb_between_55_15 {g p q h x : Int32} {I I2 : px_I} {L L2 : px_L} (h : pb_between g p q h I L x I2 L2) : I2 55 15 = I 55 15 := by
  unfold pb_between at h
  obtain ⟨rfl, h⟩ := h
  rw [h 55 (by decide) (by decide) (by decide) (by decide)]

theorem ek_between_103_63 {g p t h x : Int32} {I I2 : px_I} {L L2 : px_L} (h : pk_between g p t h I L x I2 L2) : I2 103 63 = I 103 63 := by
  unfold pk_between at h
  exact h.1 103 63 (by omega)

theorem eb_lamps_41_15 {g p h lo hi x : Int32} {I I2 : px_I} {L L2 : px_L} (h : pb_lamps g p h lo hi I L x I2 L2) : I2 41 15 = I 41 15 := by
  unfold pb_lamps at h
  rw [h.1]

theorem eb_lamps_55_15 {g p h lo hi x : Int32} {I I2 : px_I} {L L2 : px_L} (h : pb_lamps g p h lo hi I L x I2 L2) : I2 55 15 = I 55 15 := by
  unfold pb_lamps at h
  rw [h.1]

theorem ek_lamps_103_63 {g p h lo hi x : Int32} {I I2 : px_I} {L L2 : px_L} (h : pk_lamps g p h lo hi I L x I2 L2) : I2 103 63 = I 103 63 := by
  unfold pk_lamps at h
  rw [h.1]

theorem eb_count_41_15 {u lo hi x : Int32} {I I2 : px_I} {L L2 : px_L} (h : pb_count u lo hi I L x I2 L2) : I2 41 15 = I 41 15 := by
  unfold pb_count at h
  obtain ⟨rfl, h⟩ := h
  rcases h with ⟨a1, rfl, rfl⟩ | ⟨a1, rfl, rfl⟩
  · (repeat rw [px_u_out (by omega)])
  · rfl

theorem eb_count_55_15 {u lo hi x : Int32} {I I2 : px_I} {L L2 : px_L} (h : pb_count u lo hi I L x I2 L2) : I2 55 15 = I 55 15 := by
  unfold pb_count at h
  obtain ⟨rfl, h⟩ := h
  rcases h with ⟨a1, rfl, rfl⟩ | ⟨a1, rfl, rfl⟩
  · (repeat rw [px_u_out (by omega)])
  · rfl

theorem ek_count_103_63 {u lo hi x : Int32} {I I2 : px_I} {L L2 : px_L} (h : pk_count u lo hi I L x I2 L2) : I2 103 63 = I 103 63 := by
  unfold pk_count at h
  rcases h with ⟨a1, rfl, rfl, rfl⟩ | ⟨a1, rfl, rfl, rfl⟩
  · (repeat rw [px_u_out (by omega)])
  · rfl

theorem eb_unit_41_15 {h x : Int32} {I I2 : px_I} {L L2 : px_L} (h : pb_unit h I L x I2 L2) : I2 41 15 = I 41 15 := by
  unfold pb_unit at h
  rw [h.1]

theorem eb_unit_55_15 {h x : Int32} {I I2 : px_I} {L L2 : px_L} (h : pb_unit h I L x I2 L2) : I2 55 15 = I 55 15 := by
  unfold pb_unit at h
  rw [h.1]

theorem ek_unit_103_63 {h x : Int32} {I I2 : px_I} {L L2 : px_L} (h : pk_unit h I L x I2 L2) : I2 103 63 = I 103 63 := by
  unfold pk_unit at h
  rw [h.1]

theorem eb_feed_41_15 {a b c d e x : Int32} {I I2 : px_I} {L L2 : px_L} (h : pb_feed a b c d e I L x I2 L2) : I2 41 15 = I 41 15 := by
  unfold pb_feed at h
  obtain ⟨rfl, h⟩ := h
  rcases h with ⟨a1, rfl, rfl⟩ | ⟨a1, rfl, rfl⟩
  · rw [cApp_at _ _ 41 15 (by omega) (by omega), cApp_at _ _ 41 15 (by omega) (by omega), cApp_at _ _ 41 15 (by omega) (by omega), cApp_at _ _ 41 15 (by omega) (by omega), cApp_at _ _ 41 15 (by omega) (by omega)]
  · rfl

theorem eb_feed_55_15 {a b c d e x : Int32} {I I2 : px_I} {L L2 : px_L} (h : pb_feed a b c d e I L x I2 L2) : I2 55 15 = I 55 15 := by
  unfold pb_feed at h
  obtain ⟨rfl, h⟩ := h
  rcases h with ⟨a1, rfl, rfl⟩ | ⟨a1, rfl, rfl⟩
  · rw [cApp_at _ _ 55 15 (by omega) (by omega), cApp_at _ _ 55 15 (by omega) (by omega), cApp_at _ _ 55 15 (by omega) (by omega), cApp_at _ _ 55 15 (by omega) (by omega), cApp_at _ _ 55 15 (by omega) (by omega)]
  · rfl

theorem ek_feed_103_63 {a b c d e x : Int32} {I I2 : px_I} {L L2 : px_L} (h : pk_feed a b c d e I L x I2 L2) : I2 103 63 = I 103 63 := by
  unfold pk_feed at h
  obtain ⟨rfl, h⟩ := h
  rcases h with ⟨a1, rfl, rfl⟩ | ⟨a1, rfl, rfl⟩
  · rw [mPut_o (by omega) (by omega), mPut_o (by omega) (by omega), mPut_o (by omega) (by omega), mPut_o (by omega) (by omega), mPut_o (by omega) (by omega)]
  · rfl

theorem eb_end_41_15 {x9 x : Int32} {I I2 : px_I} {L L2 : px_L} (h : pb_end x9 I L x I2 L2) : I2 41 15 = I 41 15 := by
  unfold pb_end at h
  obtain ⟨rfl, h⟩ := h
  rcases h with ⟨a1, rfl, rfl⟩ | ⟨a1, rfl, rfl⟩
  · (repeat rw [px_u_out (by omega)])
  · rfl

theorem eb_end_55_15 {x9 x : Int32} {I I2 : px_I} {L L2 : px_L} (h : pb_end x9 I L x I2 L2) : I2 55 15 = I 55 15 := by
  unfold pb_end at h
  obtain ⟨rfl, h⟩ := h
  rcases h with ⟨a1, rfl, rfl⟩ | ⟨a1, rfl, rfl⟩
  · (repeat rw [px_u_out (by omega)])
  · rfl

theorem ek_end_103_63 {x9 x : Int32} {I I2 : px_I} {L L2 : px_L} (h : pk_end x9 I L x I2 L2) : I2 103 63 = I 103 63 := by
  unfold pk_end at h
  obtain ⟨rfl, h⟩ := h
  rcases h with ⟨a1, a2, rfl, rfl⟩ | ⟨a1, rfl, rfl⟩
  · (repeat rw [px_u_out (by omega)])
  · rfl

theorem eb_way_41_15 {i x : Int32} {I I2 : px_I} {L L2 : px_L} (h : pb_way i I L x I2 L2) : I2 41 15 = I 41 15 := by
  unfold pb_way at h
  exact h.1 41 15 (by omega) (by omega) (by omega) (by omega) (by omega)

theorem eb_way_55_15 {i x : Int32} {I I2 : px_I} {L L2 : px_L} (h : pb_way i I L x I2 L2) : I2 55 15 = I 55 15 := by
  unfold pb_way at h
  exact h.1 55 15 (by omega) (by omega) (by omega) (by omega) (by omega)

theorem ek_way_103_63 {w x : Int32} {I I2 : px_I} {L L2 : px_L} (h : pk_way w I L x I2 L2) : I2 103 63 = I 103 63 := by
  unfold pk_way at h
  obtain ⟨rfl, h⟩ := h
  rcases h with ⟨a1, a2, rfl⟩ | ⟨a1, a2, a3⟩
  · rfl
  · exact a2 103 63 (by omega) (by omega)

theorem eb_fault_41_15 {x9 x : Int32} {I I2 : px_I} {L L2 : px_L} (h : pb_fault x9 I L x I2 L2) : I2 41 15 = I 41 15 := by
  unfold pb_fault at h
  rw [h.1]

theorem eb_fault_55_15 {x9 x : Int32} {I I2 : px_I} {L L2 : px_L} (h : pb_fault x9 I L x I2 L2) : I2 55 15 = I 55 15 := by
  unfold pb_fault at h
  rw [h.1]

theorem ek_fault_103_63 {x9 x : Int32} {I I2 : px_I} {L L2 : px_L} (h : pk_fault x9 I L x I2 L2) : I2 103 63 = I 103 63 := by
  unfold pk_fault at h
  rw [h.1]

theorem eb_tools_41_15 {a b c d e x : Int32} {I I2 : px_I} {L L2 : px_L} (h : pb_tools a b c d e I L x I2 L2) : I2 41 15 = I 41 15 := by
  unfold pb_tools at h
  obtain ⟨rfl, h⟩ := h
  rcases h with ⟨a1, rfl, a2⟩ | ⟨a1, rfl, rfl⟩
  · rw [a2 41 (by decide)]; (repeat rw [px_u_out (by omega)])
  · rfl

theorem eb_tools_55_15 {a b c d e x : Int32} {I I2 : px_I} {L L2 : px_L} (h : pb_tools a b c d e I L x I2 L2) : I2 55 15 = I 55 15 := by
  unfold pb_tools at h
  obtain ⟨rfl, h⟩ := h
  rcases h with ⟨a1, rfl, a2⟩ | ⟨a1, rfl, rfl⟩
  · rw [a2 55 (by decide)]; (repeat rw [px_u_out (by omega)])
  · rfl

theorem ek_tools_103_63 {a b c d e x : Int32} {I I2 : px_I} {L L2 : px_L} (h : pk_tools a b c d e I L x I2 L2) : I2 103 63 = I 103 63 := by
  unfold pk_tools at h
  obtain ⟨rfl, h⟩ := h
  rcases h with ⟨a1, rfl, rfl⟩ | ⟨a1, rfl, rfl⟩
  · (repeat rw [px_u_out (by omega)])
  · rfl

theorem eb_run_41_15 {w h a x : Int32} {I I2 : px_I} {L L2 : px_L} (h : pb_run w h a I L x I2 L2) : I2 41 15 = I 41 15 := by
  unfold pb_run at h
  exact h.1 41 15 (by omega) (by omega) (by omega) (by omega) (by omega) (by omega) (by omega)

theorem eb_run_55_15 {w h a x : Int32} {I I2 : px_I} {L L2 : px_L} (h : pb_run w h a I L x I2 L2) : I2 55 15 = I 55 15 := by
  unfold pb_run at h
  exact h.1 55 15 (by omega) (by omega) (by omega) (by omega) (by omega) (by omega) (by omega)

theorem ek_run_103_63 {w h a x : Int32} {I I2 : px_I} {L L2 : px_L} (h : pk_run w h a I L x I2 L2) : I2 103 63 = I 103 63 := by
  unfold pk_run at h
  exact h.1 103 63 (by omega) (by omega) (by omega)

theorem eb_meeting_41_15 {a f b t x9 h x : Int32} {I I2 : px_I} {L L2 : px_L} (h : pb_meeting a f b t x9 h I L x I2 L2) : I2 41 15 = I 41 15 := by
  unfold pb_meeting at h
  exact h.1 41 15 (by omega) (by omega) (by omega) (by omega) (by omega) (by omega) (by omega)

theorem eb_meeting_55_15 {a f b t x9 h x : Int32} {I I2 : px_I} {L L2 : px_L} (h : pb_meeting a f b t x9 h I L x I2 L2) : I2 55 15 = I 55 15 := by
  unfold pb_meeting at h
  exact h.1 55 15 (by omega) (by omega) (by omega) (by omega) (by omega) (by omega) (by omega)

theorem ek_meeting_103_63 {a f b t x9 h x : Int32} {I I2 : px_I} {L L2 : px_L} (h : pk_meeting a f b t x9 h I L x I2 L2) : I2 103 63 = I 103 63 := by
  unfold pk_meeting at h
  exact h.1 103 63 (by omega) (by omega) (by omega)

theorem eb_there_41_15 {a lo hi x : Int32} {I I2 : px_I} {L L2 : px_L} (h : pb_there a lo hi I L x I2 L2) : I2 41 15 = I 41 15 := by
  unfold pb_there at h
  obtain ⟨rfl, h⟩ := h
  rcases h with ⟨a1, rfl, rfl⟩ | ⟨a1, rfl, rfl⟩
  · (repeat rw [px_u_out (by omega)])
  · rfl

theorem eb_there_55_15 {a lo hi x : Int32} {I I2 : px_I} {L L2 : px_L} (h : pb_there a lo hi I L x I2 L2) : I2 55 15 = I 55 15 := by
  unfold pb_there at h
  obtain ⟨rfl, h⟩ := h
  rcases h with ⟨a1, rfl, rfl⟩ | ⟨a1, rfl, rfl⟩
  · (repeat rw [px_u_out (by omega)])
  · rfl

theorem ek_there_103_63 {a lo hi x : Int32} {I I2 : px_I} {L L2 : px_L} (h : pk_there a lo hi I L x I2 L2) : I2 103 63 = I 103 63 := by
  unfold pk_there at h
  obtain ⟨rfl, h⟩ := h
  rcases h with ⟨a1, rfl, rfl⟩ | ⟨a1, rfl, rfl⟩
  · (repeat rw [px_u_out (by omega)])
  · rfl

theorem eb_fits_41_15 {a f b t x : Int32} {I I2 : px_I} {L L2 : px_L} (h : pb_fits a f b t I L x I2 L2) : I2 41 15 = I 41 15 := by
  unfold pb_fits at h
  exact h.1 41 15 (by omega) (by omega) (by omega) (by omega) (by omega) (by omega) (by omega)

theorem eb_fits_55_15 {a f b t x : Int32} {I I2 : px_I} {L L2 : px_L} (h : pb_fits a f b t I L x I2 L2) : I2 55 15 = I 55 15 := by
  unfold pb_fits at h
  exact h.1 55 15 (by omega) (by omega) (by omega) (by omega) (by omega) (by omega) (by omega)

theorem ek_fits_103_63 {a f b t x : Int32} {I I2 : px_I} {L L2 : px_L} (h : pk_fits a f b t I L x I2 L2) : I2 103 63 = I 103 63 := by
  unfold pk_fits at h
  exact h.1 103 63 (by omega) (by omega) (by omega)

theorem eb_ways_41_15 {a f b t x9 x : Int32} {I I2 : px_I} {L L2 : px_L} (h : pb_ways a f b t x9 I L x I2 L2) : I2 41 15 = I 41 15 := by
  unfold pb_ways at h
  exact h.1 41 15 (by omega) (by omega) (by omega) (by omega) (by omega) (by omega) (by omega)

theorem eb_ways_55_15 {a f b t x9 x : Int32} {I I2 : px_I} {L L2 : px_L} (h : pb_ways a f b t x9 I L x I2 L2) : I2 55 15 = I 55 15 := by
  unfold pb_ways at h
  exact h.1 55 15 (by omega) (by omega) (by omega) (by omega) (by omega) (by omega) (by omega)

theorem ek_ways_103_63 {a f b t x9 x : Int32} {I I2 : px_I} {L L2 : px_L} (h : pk_ways a f b t x9 I L x I2 L2) : I2 103 63 = I 103 63 := by
  unfold pk_ways at h
  exact h.1 103 63 (by omega) (by omega) (by omega)

theorem eb_seek_41_15 {a b c d e f x : Int32} {I I2 : px_I} {L L2 : px_L} (h : pb_seek a b c d e f I L x I2 L2) : I2 41 15 = I 41 15 := by
  unfold pb_seek at h
  obtain ⟨rfl, h⟩ := h
  rcases h with ⟨a1, rfl, rfl⟩ | ⟨a1, rfl, rfl⟩
  · (repeat rw [px_u_out (by omega)])
  · rfl

theorem eb_seek_55_15 {a b c d e f x : Int32} {I I2 : px_I} {L L2 : px_L} (h : pb_seek a b c d e f I L x I2 L2) : I2 55 15 = I 55 15 := by
  unfold pb_seek at h
  obtain ⟨rfl, h⟩ := h
  rcases h with ⟨a1, rfl, rfl⟩ | ⟨a1, rfl, rfl⟩
  · (repeat rw [px_u_out (by omega)])
  · rfl

theorem ek_seek_103_63 {a b c d e f x : Int32} {I I2 : px_I} {L L2 : px_L} (h : pk_seek a b c d e f I L x I2 L2) : I2 103 63 = I 103 63 := by
  unfold pk_seek at h
  obtain ⟨rfl, h⟩ := h
  rcases h with ⟨a1, rfl, rfl⟩ | ⟨a1, rfl, rfl⟩
  · (repeat rw [px_u_out (by omega)])
  · rfl

theorem eb_detour_41_15 {a o h x : Int32} {I I2 : px_I} {L L2 : px_L} (h : pb_detour a o h I L x I2 L2) : I2 41 15 = I 41 15 := by
  unfold pb_detour at h
  rw [h.1]

theorem eb_detour_55_15 {a o h x : Int32} {I I2 : px_I} {L L2 : px_L} (h : pb_detour a o h I L x I2 L2) : I2 55 15 = I 55 15 := by
  unfold pb_detour at h
  rw [h.1]

theorem ek_detour_103_63 {a o lo x : Int32} {I I2 : px_I} {L L2 : px_L} (h : pk_detour a o lo I L x I2 L2) : I2 103 63 = I 103 63 := by
  unfold pk_detour at h
  rw [h.1]

theorem eb_table_41_15 {c v x : Int32} {I I2 : px_I} {L L2 : px_L} (h : pb_table c v I L x I2 L2) : I2 41 15 = I 41 15 := by
  unfold pb_table at h
  obtain ⟨rfl, h⟩ := h
  rcases h with ⟨a1, rfl, rfl⟩ | ⟨a1, rfl, rfl⟩
  · (repeat rw [px_u_out (by omega)])
  · rfl

theorem eb_table_55_15 {c v x : Int32} {I I2 : px_I} {L L2 : px_L} (h : pb_table c v I L x I2 L2) : I2 55 15 = I 55 15 := by
  unfold pb_table at h
  obtain ⟨rfl, h⟩ := h
  rcases h with ⟨a1, rfl, rfl⟩ | ⟨a1, rfl, rfl⟩
  · (repeat rw [px_u_out (by omega)])
  · rfl

theorem ek_table_103_63 {c v x : Int32} {I I2 : px_I} {L L2 : px_L} (h : pk_table c v I L x I2 L2) : I2 103 63 = I 103 63 := by
  unfold pk_table at h
  obtain ⟨rfl, h⟩ := h
  rcases h with ⟨a1, rfl, rfl⟩ | ⟨a1, rfl, rfl⟩
  · (repeat rw [px_u_out (by omega)])
  · rfl

theorem eb_lime_41_15 {v x : Int32} {I I2 : px_I} {L L2 : px_L} (h : pb_lime v I L x I2 L2) : I2 41 15 = I 41 15 := by
  unfold pb_lime at h
  obtain ⟨rfl, h⟩ := h
  rcases h with ⟨a1, rfl, rfl⟩ | ⟨a1, rfl, rfl⟩
  · (repeat rw [px_u_out (by omega)])
  · rfl

theorem eb_lime_55_15 {v x : Int32} {I I2 : px_I} {L L2 : px_L} (h : pb_lime v I L x I2 L2) : I2 55 15 = I 55 15 := by
  unfold pb_lime at h
  obtain ⟨rfl, h⟩ := h
  rcases h with ⟨a1, rfl, rfl⟩ | ⟨a1, rfl, rfl⟩
  · (repeat rw [px_u_out (by omega)])
  · rfl

theorem ek_lime_103_63 {v x : Int32} {I I2 : px_I} {L L2 : px_L} (h : pk_lime v I L x I2 L2) : I2 103 63 = I 103 63 := by
  unfold pk_lime at h
  obtain ⟨rfl, h⟩ := h
  rcases h with ⟨a1, a2, rfl, rfl⟩ | ⟨a1, rfl, rfl⟩
  · (repeat rw [px_u_out (by omega)])
  · rfl

theorem eb_flow_41_15 {g y k h x : Int32} {I I2 : px_I} {L L2 : px_L} (h : pb_flow g y k h I L x I2 L2) : I2 41 15 = I 41 15 := by
  unfold pb_flow at h
  exact h.1 41 15 (by omega)

theorem eb_flow_55_15 {g y k h x : Int32} {I I2 : px_I} {L L2 : px_L} (h : pb_flow g y k h I L x I2 L2) : I2 55 15 = I 55 15 := by
  unfold pb_flow at h
  exact h.1 55 15 (by omega)

theorem ek_flow_103_63 {g y k h x : Int32} {I I2 : px_I} {L L2 : px_L} (h : pk_flow g y k h I L x I2 L2) : I2 103 63 = I 103 63 := by
  unfold pk_flow at h
  exact h.1 103 63 (by omega)

theorem eb_narrow_41_15 {g y k x : Int32} {I I2 : px_I} {L L2 : px_L} (h : pb_narrow g y k I L x I2 L2) : I2 41 15 = I 41 15 := by
  unfold pb_narrow at h
  exact h.1 41 15 (by omega)

theorem eb_narrow_55_15 {g y k x : Int32} {I I2 : px_I} {L L2 : px_L} (h : pb_narrow g y k I L x I2 L2) : I2 55 15 = I 55 15 := by
  unfold pb_narrow at h
  exact h.1 55 15 (by omega)

theorem ek_narrow_103_63 {g y k x : Int32} {I I2 : px_I} {L L2 : px_L} (h : pk_narrow g y k I L x I2 L2) : I2 103 63 = I 103 63 := by
  unfold pk_narrow at h
  exact h.1 103 63 (by omega)

theorem eb_about_41_15 {w x : Int32} {I I2 : px_I} {L L2 : px_L} (h : pb_about w I L x I2 L2) : I2 41 15 = I 41 15 := by
  unfold pb_about at h
  rw [h.1]

theorem eb_about_55_15 {w x : Int32} {I I2 : px_I} {L L2 : px_L} (h : pb_about w I L x I2 L2) : I2 55 15 = I 55 15 := by
  unfold pb_about at h
  rw [h.1]

theorem ek_about_103_63 {w x : Int32} {I I2 : px_I} {L L2 : px_L} (h : pk_about w I L x I2 L2) : I2 103 63 = I 103 63 := by
  unfold pk_about at h
  rw [h.1]

theorem eb_days_101_2 {x9 x : Int32} {I I2 : px_I} {L L2 : px_L} (h : pb_days x9 I L x I2 L2) : I2 101 2 = I 101 2 := by
  unfold pb_days at h
  obtain ⟨rfl, h⟩ := h
  rcases h with ⟨a1, a2, rfl, rfl⟩ | ⟨a1, rfl, rfl⟩
  · (repeat rw [px_u_out (by omega)])
  · rfl

theorem ek_days_103_68 {x9 x : Int32} {I I2 : px_I} {L L2 : px_L} (h : pk_days x9 I L x I2 L2) : I2 103 68 = I 103 68 := by
  unfold pk_days at h
  obtain ⟨rfl, h⟩ := h
  rcases h with ⟨a1, a2, a3, rfl, rfl⟩ | ⟨a1, rfl, rfl⟩
  · (repeat rw [px_u_out (by omega)])
  · rfl

theorem eb_station_101_2 { x : Int32} {I I2 : px_I} {L L2 : px_L} (h : pb_station  I L x I2 L2) : I2 101 2 = I 101 2 := by
  unfold pb_station at h
  obtain ⟨rfl, h⟩ := h
  rcases h with ⟨a1, rfl, rfl⟩ | ⟨a1, rfl, rfl⟩
  · (repeat rw [px_u_out (by omega)])
  · rfl

theorem ek_station_103_68 { x : Int32} {I I2 : px_I} {L L2 : px_L} (h : pk_station  I L x I2 L2) : I2 103 68 = I 103 68 := by
  unfold pk_station at h
  obtain ⟨rfl, h⟩ := h
  rcases h with ⟨a1, rfl, rfl⟩ | ⟨a1, rfl, rfl⟩
  · (repeat rw [px_u_out (by omega)])
  · rfl

theorem eb_sight_101_2 {a f t lo hi x : Int32} {I I2 : px_I} {L L2 : px_L} (h : pb_sight a f t lo hi I L x I2 L2) : I2 101 2 = I 101 2 := by
  unfold pb_sight at h
  obtain ⟨rfl, h⟩ := h
  rcases h with ⟨a1, rfl, rfl⟩ | ⟨a1, rfl, rfl⟩
  · (repeat rw [px_u_out (by omega)])
  · rfl

theorem ek_sight_103_68 {a f t lo hi x : Int32} {I I2 : px_I} {L L2 : px_L} (h : pk_sight a f t lo hi I L x I2 L2) : I2 103 68 = I 103 68 := by
  unfold pk_sight at h
  obtain ⟨rfl, h⟩ := h
  rcases h with ⟨a1, rfl, rfl⟩ | ⟨a1, rfl, rfl⟩
  · (repeat rw [px_u_out (by omega)])
  · rfl

theorem eb_closed_101_2 {a k x : Int32} {I I2 : px_I} {L L2 : px_L} (h : pb_closed a k I L x I2 L2) : I2 101 2 = I 101 2 := by
  unfold pb_closed at h
  obtain ⟨rfl, h⟩ := h
  rfl

theorem ek_closed_103_68 {a k x : Int32} {I I2 : px_I} {L L2 : px_L} (h : pk_closed a k I L x I2 L2) : I2 103 68 = I 103 68 := by
  unfold pk_closed at h
  exact h.1 103 68 (by omega)

theorem eb_span_101_2 {a t k h x : Int32} {I I2 : px_I} {L L2 : px_L} (h : pb_span a t k h I L x I2 L2) : I2 101 2 = I 101 2 := by
  unfold pb_span at h
  obtain ⟨rfl, h⟩ := h
  rfl

theorem ek_span_103_68 {a t k h x : Int32} {I I2 : px_I} {L L2 : px_L} (h : pk_span a t k h I L x I2 L2) : I2 103 68 = I 103 68 := by
  unfold pk_span at h
  exact h.1 103 68 (by omega)

theorem eb_gap_101_2 {a f t k h x : Int32} {I I2 : px_I} {L L2 : px_L} (h : pb_gap a f t k h I L x I2 L2) : I2 101 2 = I 101 2 := by
  unfold pb_gap at h
  obtain ⟨rfl, h⟩ := h
  rfl

theorem ek_gap_103_68 {a f t k h x : Int32} {I I2 : px_I} {L L2 : px_L} (h : pk_gap a f t k h I L x I2 L2) : I2 103 68 = I 103 68 := by
  unfold pk_gap at h
  exact h.1 103 68 (by omega)

theorem eb_blamed_101_2 {a k i x : Int32} {I I2 : px_I} {L L2 : px_L} (h : pb_blamed a k i I L x I2 L2) : I2 101 2 = I 101 2 := by
  unfold pb_blamed at h
  obtain ⟨rfl, h⟩ := h
  rfl

theorem ek_blamed_103_68 {a k i x : Int32} {I I2 : px_I} {L L2 : px_L} (h : pk_blamed a k i I L x I2 L2) : I2 103 68 = I 103 68 := by
  unfold pk_blamed at h
  exact h.1 103 68 (by omega)

theorem eb_reach_101_2 {g lo hi sl fa w st x : Int32} {I I2 : px_I} {L L2 : px_L} (h : pb_reach g lo hi sl fa w st I L x I2 L2) : I2 101 2 = I 101 2 := by
  unfold pb_reach at h
  obtain ⟨rfl, h⟩ := h
  rcases h with ⟨G, ⟨g1, g2, g3⟩, rfl, rfl⟩ | ⟨a1, rfl, rfl⟩
  · have gG : G = 41 ∨ G = 55 := by unfold bG at g1; omega
    rw [cReach_o (by omega)]
  · rfl

theorem ek_reach_103_68 {g lo hi sl fa w st x : Int32} {I I2 : px_I} {L L2 : px_L} (h : pk_reach g lo hi sl fa w st I L x I2 L2) : I2 103 68 = I 103 68 := by
  unfold pk_reach at h
  obtain ⟨rfl, h⟩ := h
  rcases h with ⟨a1, rfl, rfl⟩ | ⟨a1, rfl, rfl⟩
  · unfold mReach; (repeat rw [px_u_out (by omega)])
  · rfl

theorem eb_mouth_101_2 {g st x : Int32} {I I2 : px_I} {L L2 : px_L} (h : pb_mouth g st I L x I2 L2) : I2 101 2 = I 101 2 := by
  unfold pb_mouth at h
  obtain ⟨rfl, h⟩ := h
  rcases h with ⟨G, g1, rfl⟩ | rfl
  · have gG : G = 41 ∨ G = 55 := by unfold bG at g1; omega
    (repeat rw [px_u_out (by omega)])
  · rfl

theorem ek_mouth_103_68 {g st x : Int32} {I I2 : px_I} {L L2 : px_L} (h : pk_mouth g st I L x I2 L2) : I2 103 68 = I 103 68 := by
  unfold pk_mouth at h
  obtain ⟨rfl, h⟩ := h
  rcases h with ⟨a1, a2, rfl, rfl⟩ | ⟨a1, rfl, rfl⟩
  · (repeat rw [px_u_out (by omega)])
  · rfl

theorem eb_mark_101_2 {g p f t x : Int32} {I I2 : px_I} {L L2 : px_L} (h : pb_mark g p f t I L x I2 L2) : I2 101 2 = I 101 2 := by
  unfold pb_mark at h
  obtain ⟨rfl, h⟩ := h
  rcases h with ⟨G, g1, rfl, rfl⟩ | ⟨a1, rfl, rfl⟩
  · have g2 := g1.1
    have gG : G = 41 ∨ G = 55 := by unfold bG at g2; omega
    unfold cMark; (repeat rw [px_u_out (by omega)])
  · rfl

theorem ek_mark_103_68 {g p f t x : Int32} {I I2 : px_I} {L L2 : px_L} (h : pk_mark g p f t I L x I2 L2) : I2 103 68 = I 103 68 := by
  unfold pk_mark at h
  obtain ⟨rfl, h⟩ := h
  rcases h with ⟨a1, rfl, rfl⟩ | ⟨a1, rfl, rfl⟩
  · unfold mMark; (repeat rw [px_u_out (by omega)])
  · rfl

theorem eb_when_101_2 {g p h x : Int32} {I I2 : px_I} {L L2 : px_L} (h : pb_when g p h I L x I2 L2) : I2 101 2 = I 101 2 := by
  unfold pb_when at h
  obtain ⟨rfl, h⟩ := h
  rw [h 101 (by decide) (by decide) (by decide) (by decide)]

theorem ek_when_103_68 {g p h x : Int32} {I I2 : px_I} {L L2 : px_L} (h : pk_when g p h I L x I2 L2) : I2 103 68 = I 103 68 := by
  unfold pk_when at h
  exact h.1 103 68 (by omega)

theorem eb_between_101_2 {g p q h x : Int32} {I I2 : px_I} {L L2 : px_L} (h : pb_between g p q h I L x I2 L2) : I2 101 2 = I 101 2 := by
  unfold pb_between at h
  obtain ⟨rfl, h⟩ := h
  rw [h 101 (by decide) (by decide) (by decide) (by decide)]

theorem ek_between_103_68 {g p t h x : Int32} {I I2 : px_I} {L L2 : px_L} (h : pk_between g p t h I L x I2 L2) : I2 103 68 = I 103 68 := by
  unfold pk_between at h
  exact h.1 103 68 (by omega)

theorem eb_lamps_101_2 {g p h lo hi x : Int32} {I I2 : px_I} {L L2 : px_L} (h : pb_lamps g p h lo hi I L x I2 L2) : I2 101 2 = I 101 2 := by
  unfold pb_lamps at h
  rw [h.1]

theorem ek_lamps_103_68 {g p h lo hi x : Int32} {I I2 : px_I} {L L2 : px_L} (h : pk_lamps g p h lo hi I L x I2 L2) : I2 103 68 = I 103 68 := by
  unfold pk_lamps at h
  rw [h.1]

theorem eb_count_101_2 {u lo hi x : Int32} {I I2 : px_I} {L L2 : px_L} (h : pb_count u lo hi I L x I2 L2) : I2 101 2 = I 101 2 := by
  unfold pb_count at h
  obtain ⟨rfl, h⟩ := h
  rcases h with ⟨a1, rfl, rfl⟩ | ⟨a1, rfl, rfl⟩
  · (repeat rw [px_u_out (by omega)])
  · rfl

theorem ek_count_103_68 {u lo hi x : Int32} {I I2 : px_I} {L L2 : px_L} (h : pk_count u lo hi I L x I2 L2) : I2 103 68 = I 103 68 := by
  unfold pk_count at h
  rcases h with ⟨a1, rfl, rfl, rfl⟩ | ⟨a1, rfl, rfl, rfl⟩
  · (repeat rw [px_u_out (by omega)])
  · rfl

theorem eb_unit_101_2 {h x : Int32} {I I2 : px_I} {L L2 : px_L} (h : pb_unit h I L x I2 L2) : I2 101 2 = I 101 2 := by
  unfold pb_unit at h
  rw [h.1]

theorem ek_unit_103_68 {h x : Int32} {I I2 : px_I} {L L2 : px_L} (h : pk_unit h I L x I2 L2) : I2 103 68 = I 103 68 := by
  unfold pk_unit at h
  rw [h.1]

theorem eb_feed_101_2 {a b c d e x : Int32} {I I2 : px_I} {L L2 : px_L} (h : pb_feed a b c d e I L x I2 L2) : I2 101 2 = I 101 2 := by
  unfold pb_feed at h
  obtain ⟨rfl, h⟩ := h
  rcases h with ⟨a1, rfl, rfl⟩ | ⟨a1, rfl, rfl⟩
  · rw [cApp_at _ _ 101 2 (by omega) (by omega), cApp_at _ _ 101 2 (by omega) (by omega), cApp_at _ _ 101 2 (by omega) (by omega), cApp_at _ _ 101 2 (by omega) (by omega), cApp_at _ _ 101 2 (by omega) (by omega)]
  · rfl

theorem ek_feed_103_68 {a b c d e x : Int32} {I I2 : px_I} {L L2 : px_L} (h : pk_feed a b c d e I L x I2 L2) : I2 103 68 = I 103 68 := by
  unfold pk_feed at h
  obtain ⟨rfl, h⟩ := h
  rcases h with ⟨a1, rfl, rfl⟩ | ⟨a1, rfl, rfl⟩
  · rw [mPut_o (by omega) (by omega), mPut_o (by omega) (by omega), mPut_o (by omega) (by omega), mPut_o (by omega) (by omega), mPut_o (by omega) (by omega)]
  · rfl

theorem eb_end_101_2 {x9 x : Int32} {I I2 : px_I} {L L2 : px_L} (h : pb_end x9 I L x I2 L2) : I2 101 2 = I 101 2 := by
  unfold pb_end at h
  obtain ⟨rfl, h⟩ := h
  rcases h with ⟨a1, rfl, rfl⟩ | ⟨a1, rfl, rfl⟩
  · (repeat rw [px_u_out (by omega)])
  · rfl

theorem ek_end_103_68 {x9 x : Int32} {I I2 : px_I} {L L2 : px_L} (h : pk_end x9 I L x I2 L2) : I2 103 68 = I 103 68 := by
  unfold pk_end at h
  obtain ⟨rfl, h⟩ := h
  rcases h with ⟨a1, a2, rfl, rfl⟩ | ⟨a1, rfl, rfl⟩
  · (repeat rw [px_u_out (by omega)])
  · rfl

theorem eb_way_101_2 {i x : Int32} {I I2 : px_I} {L L2 : px_L} (h : pb_way i I L x I2 L2) : I2 101 2 = I 101 2 := by
  unfold pb_way at h
  exact h.1 101 2 (by omega) (by omega) (by omega) (by omega) (by omega)

theorem ek_way_103_68 {w x : Int32} {I I2 : px_I} {L L2 : px_L} (h : pk_way w I L x I2 L2) : I2 103 68 = I 103 68 := by
  unfold pk_way at h
  obtain ⟨rfl, h⟩ := h
  rcases h with ⟨a1, a2, rfl⟩ | ⟨a1, a2, a3⟩
  · rfl
  · exact a2 103 68 (by omega) (by omega)

theorem eb_fault_101_2 {x9 x : Int32} {I I2 : px_I} {L L2 : px_L} (h : pb_fault x9 I L x I2 L2) : I2 101 2 = I 101 2 := by
  unfold pb_fault at h
  rw [h.1]

theorem ek_fault_103_68 {x9 x : Int32} {I I2 : px_I} {L L2 : px_L} (h : pk_fault x9 I L x I2 L2) : I2 103 68 = I 103 68 := by
  unfold pk_fault at h
  rw [h.1]

theorem eb_tools_101_2 {a b c d e x : Int32} {I I2 : px_I} {L L2 : px_L} (h : pb_tools a b c d e I L x I2 L2) : I2 101 2 = I 101 2 := by
  unfold pb_tools at h
  obtain ⟨rfl, h⟩ := h
  rcases h with ⟨a1, rfl, a2⟩ | ⟨a1, rfl, rfl⟩
  · rw [a2 101 (by decide)]; (repeat rw [px_u_out (by omega)])
  · rfl

theorem ek_tools_103_68 {a b c d e x : Int32} {I I2 : px_I} {L L2 : px_L} (h : pk_tools a b c d e I L x I2 L2) : I2 103 68 = I 103 68 := by
  unfold pk_tools at h
  obtain ⟨rfl, h⟩ := h
  rcases h with ⟨a1, rfl, rfl⟩ | ⟨a1, rfl, rfl⟩
  · (repeat rw [px_u_out (by omega)])
  · rfl

theorem eb_run_101_2 {w h a x : Int32} {I I2 : px_I} {L L2 : px_L} (h : pb_run w h a I L x I2 L2) : I2 101 2 = I 101 2 := by
  unfold pb_run at h
  exact h.1 101 2 (by omega) (by omega) (by omega) (by omega) (by omega) (by omega) (by omega)

theorem ek_run_103_68 {w h a x : Int32} {I I2 : px_I} {L L2 : px_L} (h : pk_run w h a I L x I2 L2) : I2 103 68 = I 103 68 := by
  unfold pk_run at h
  exact h.1 103 68 (by omega) (by omega) (by omega)

theorem eb_meeting_101_2 {a f b t x9 h x : Int32} {I I2 : px_I} {L L2 : px_L} (h : pb_meeting a f b t x9 h I L x I2 L2) : I2 101 2 = I 101 2 := by
  unfold pb_meeting at h
  exact h.1 101 2 (by omega) (by omega) (by omega) (by omega) (by omega) (by omega) (by omega)

theorem ek_meeting_103_68 {a f b t x9 h x : Int32} {I I2 : px_I} {L L2 : px_L} (h : pk_meeting a f b t x9 h I L x I2 L2) : I2 103 68 = I 103 68 := by
  unfold pk_meeting at h
  exact h.1 103 68 (by omega) (by omega) (by omega)

theorem eb_there_101_2 {a lo hi x : Int32} {I I2 : px_I} {L L2 : px_L} (h : pb_there a lo hi I L x I2 L2) : I2 101 2 = I 101 2 := by
  unfold pb_there at h
  obtain ⟨rfl, h⟩ := h
  rcases h with ⟨a1, rfl, rfl⟩ | ⟨a1, rfl, rfl⟩
  · (repeat rw [px_u_out (by omega)])
  · rfl

theorem ek_there_103_68 {a lo hi x : Int32} {I I2 : px_I} {L L2 : px_L} (h : pk_there a lo hi I L x I2 L2) : I2 103 68 = I 103 68 := by
  unfold pk_there at h
  obtain ⟨rfl, h⟩ := h
  rcases h with ⟨a1, rfl, rfl⟩ | ⟨a1, rfl, rfl⟩
  · (repeat rw [px_u_out (by omega)])
  · rfl

theorem eb_fits_101_2 {a f b t x : Int32} {I I2 : px_I} {L L2 : px_L} (h : pb_fits a f b t I L x I2 L2) : I2 101 2 = I 101 2 := by
  unfold pb_fits at h
  exact h.1 101 2 (by omega) (by omega) (by omega) (by omega) (by omega) (by omega) (by omega)

theorem ek_fits_103_68 {a f b t x : Int32} {I I2 : px_I} {L L2 : px_L} (h : pk_fits a f b t I L x I2 L2) : I2 103 68 = I 103 68 := by
  unfold pk_fits at h
  exact h.1 103 68 (by omega) (by omega) (by omega)

theorem eb_ways_101_2 {a f b t x9 x : Int32} {I I2 : px_I} {L L2 : px_L} (h : pb_ways a f b t x9 I L x I2 L2) : I2 101 2 = I 101 2 := by
  unfold pb_ways at h
  exact h.1 101 2 (by omega) (by omega) (by omega) (by omega) (by omega) (by omega) (by omega)

theorem ek_ways_103_68 {a f b t x9 x : Int32} {I I2 : px_I} {L L2 : px_L} (h : pk_ways a f b t x9 I L x I2 L2) : I2 103 68 = I 103 68 := by
  unfold pk_ways at h
  exact h.1 103 68 (by omega) (by omega) (by omega)

theorem eb_seek_101_2 {a b c d e f x : Int32} {I I2 : px_I} {L L2 : px_L} (h : pb_seek a b c d e f I L x I2 L2) : I2 101 2 = I 101 2 := by
  unfold pb_seek at h
  obtain ⟨rfl, h⟩ := h
  rcases h with ⟨a1, rfl, rfl⟩ | ⟨a1, rfl, rfl⟩
  · (repeat rw [px_u_out (by omega)])
  · rfl

theorem ek_seek_103_68 {a b c d e f x : Int32} {I I2 : px_I} {L L2 : px_L} (h : pk_seek a b c d e f I L x I2 L2) : I2 103 68 = I 103 68 := by
  unfold pk_seek at h
  obtain ⟨rfl, h⟩ := h
  rcases h with ⟨a1, rfl, rfl⟩ | ⟨a1, rfl, rfl⟩
  · (repeat rw [px_u_out (by omega)])
  · rfl

theorem eb_detour_101_2 {a o h x : Int32} {I I2 : px_I} {L L2 : px_L} (h : pb_detour a o h I L x I2 L2) : I2 101 2 = I 101 2 := by
  unfold pb_detour at h
  rw [h.1]

theorem ek_detour_103_68 {a o lo x : Int32} {I I2 : px_I} {L L2 : px_L} (h : pk_detour a o lo I L x I2 L2) : I2 103 68 = I 103 68 := by
  unfold pk_detour at h
  rw [h.1]

theorem eb_table_101_2 {c v x : Int32} {I I2 : px_I} {L L2 : px_L} (h : pb_table c v I L x I2 L2) : I2 101 2 = I 101 2 := by
  unfold pb_table at h
  obtain ⟨rfl, h⟩ := h
  rcases h with ⟨a1, rfl, rfl⟩ | ⟨a1, rfl, rfl⟩
  · (repeat rw [px_u_out (by omega)])
  · rfl

theorem ek_table_103_68 {c v x : Int32} {I I2 : px_I} {L L2 : px_L} (h : pk_table c v I L x I2 L2) : I2 103 68 = I 103 68 := by
  unfold pk_table at h
  obtain ⟨rfl, h⟩ := h
  rcases h with ⟨a1, rfl, rfl⟩ | ⟨a1, rfl, rfl⟩
  · (repeat rw [px_u_out (by omega)])
  · rfl

theorem eb_repair_101_2 {g p y x : Int32} {I I2 : px_I} {L L2 : px_L} (h : pb_repair g p y I L x I2 L2) : I2 101 2 = I 101 2 := by
  unfold pb_repair at h
  obtain ⟨rfl, h⟩ := h
  rcases h with ⟨G, g1, rfl, rfl⟩ | ⟨a1, rfl, rfl⟩
  · have g2 := g1.1
    have gG : G = 41 ∨ G = 55 := by unfold bG at g2; omega
    unfold cRep; (repeat rw [px_u_out (by omega)])
  · rfl

theorem ek_repair_103_68 {g p y x : Int32} {I I2 : px_I} {L L2 : px_L} (h : pk_repair g p y I L x I2 L2) : I2 103 68 = I 103 68 := by
  unfold pk_repair at h
  obtain ⟨rfl, h⟩ := h
  rcases h with ⟨a1, rfl, rfl⟩ | ⟨a1, rfl, rfl⟩
  · (repeat rw [px_u_out (by omega)])
  · rfl

theorem eb_flow_101_2 {g y k h x : Int32} {I I2 : px_I} {L L2 : px_L} (h : pb_flow g y k h I L x I2 L2) : I2 101 2 = I 101 2 := by
  unfold pb_flow at h
  exact h.1 101 2 (by omega)

theorem ek_flow_103_68 {g y k h x : Int32} {I I2 : px_I} {L L2 : px_L} (h : pk_flow g y k h I L x I2 L2) : I2 103 68 = I 103 68 := by
  unfold pk_flow at h
  exact h.1 103 68 (by omega)

theorem eb_narrow_101_2 {g y k x : Int32} {I I2 : px_I} {L L2 : px_L} (h : pb_narrow g y k I L x I2 L2) : I2 101 2 = I 101 2 := by
  unfold pb_narrow at h
  exact h.1 101 2 (by omega)

theorem ek_narrow_103_68 {g y k x : Int32} {I I2 : px_I} {L L2 : px_L} (h : pk_narrow g y k I L x I2 L2) : I2 103 68 = I 103 68 := by
  unfold pk_narrow at h
  exact h.1 103 68 (by omega)

theorem eb_about_101_2 {w x : Int32} {I I2 : px_I} {L L2 : px_L} (h : pb_about w I L x I2 L2) : I2 101 2 = I 101 2 := by
  unfold pb_about at h
  rw [h.1]

theorem ek_about_103_68 {w x : Int32} {I I2 : px_I} {L L2 : px_L} (h : pk_about w I L x I2 L2) : I2 103 68 = I 103 68 := by
  unfold pk_about at h
  rw [h.1]

theorem eb_days_102_r {x9 x : Int32} {I I2 : px_I} {L L2 : px_L} (h : pb_days x9 I L x I2 L2) : I2 102 = I 102 := by
  unfold pb_days at h
  obtain ⟨rfl, h⟩ := h
  rcases h with ⟨a1, a2, rfl, rfl⟩ | ⟨a1, rfl, rfl⟩
  · (repeat rw [px_u_ne (by omega)])
  · rfl

theorem ek_days_138_r {x9 x : Int32} {I I2 : px_I} {L L2 : px_L} (h : pk_days x9 I L x I2 L2) : I2 138 = I 138 := by
  unfold pk_days at h
  obtain ⟨rfl, h⟩ := h
  rcases h with ⟨a1, a2, a3, rfl, rfl⟩ | ⟨a1, rfl, rfl⟩
  · (repeat rw [px_u_ne (by omega)])
  · rfl

theorem eb_station_102_r { x : Int32} {I I2 : px_I} {L L2 : px_L} (h : pb_station  I L x I2 L2) : I2 102 = I 102 := by
  unfold pb_station at h
  obtain ⟨rfl, h⟩ := h
  rcases h with ⟨a1, rfl, rfl⟩ | ⟨a1, rfl, rfl⟩
  · (repeat rw [px_u_ne (by omega)])
  · rfl

theorem ek_station_138_r { x : Int32} {I I2 : px_I} {L L2 : px_L} (h : pk_station  I L x I2 L2) : I2 138 = I 138 := by
  unfold pk_station at h
  obtain ⟨rfl, h⟩ := h
  rcases h with ⟨a1, rfl, rfl⟩ | ⟨a1, rfl, rfl⟩
  · (repeat rw [px_u_ne (by omega)])
  · rfl

theorem eb_sight_102_r {a f t lo hi x : Int32} {I I2 : px_I} {L L2 : px_L} (h : pb_sight a f t lo hi I L x I2 L2) : I2 102 = I 102 := by
  unfold pb_sight at h
  obtain ⟨rfl, h⟩ := h
  rcases h with ⟨a1, rfl, rfl⟩ | ⟨a1, rfl, rfl⟩
  · (repeat rw [px_u_ne (by omega)])
  · rfl

theorem ek_sight_138_r {a f t lo hi x : Int32} {I I2 : px_I} {L L2 : px_L} (h : pk_sight a f t lo hi I L x I2 L2) : I2 138 = I 138 := by
  unfold pk_sight at h
  obtain ⟨rfl, h⟩ := h
  rcases h with ⟨a1, rfl, rfl⟩ | ⟨a1, rfl, rfl⟩
  · (repeat rw [px_u_ne (by omega)])
  · rfl

theorem eb_closed_102_r {a k x : Int32} {I I2 : px_I} {L L2 : px_L} (h : pb_closed a k I L x I2 L2) : I2 102 = I 102 := by
  unfold pb_closed at h
  obtain ⟨rfl, h⟩ := h
  rfl

theorem ek_closed_138_r {a k x : Int32} {I I2 : px_I} {L L2 : px_L} (h : pk_closed a k I L x I2 L2) : I2 138 = I 138 := by
  unfold pk_closed at h
  exact funext fun j => h.1 138 j (by omega)

theorem eb_span_102_r {a t k h x : Int32} {I I2 : px_I} {L L2 : px_L} (h : pb_span a t k h I L x I2 L2) : I2 102 = I 102 := by
  unfold pb_span at h
  obtain ⟨rfl, h⟩ := h
  rfl

theorem ek_span_138_r {a t k h x : Int32} {I I2 : px_I} {L L2 : px_L} (h : pk_span a t k h I L x I2 L2) : I2 138 = I 138 := by
  unfold pk_span at h
  exact funext fun j => h.1 138 j (by omega)

theorem eb_gap_102_r {a f t k h x : Int32} {I I2 : px_I} {L L2 : px_L} (h : pb_gap a f t k h I L x I2 L2) : I2 102 = I 102 := by
  unfold pb_gap at h
  obtain ⟨rfl, h⟩ := h
  rfl

theorem ek_gap_138_r {a f t k h x : Int32} {I I2 : px_I} {L L2 : px_L} (h : pk_gap a f t k h I L x I2 L2) : I2 138 = I 138 := by
  unfold pk_gap at h
  exact funext fun j => h.1 138 j (by omega)

theorem eb_blamed_102_r {a k i x : Int32} {I I2 : px_I} {L L2 : px_L} (h : pb_blamed a k i I L x I2 L2) : I2 102 = I 102 := by
  unfold pb_blamed at h
  obtain ⟨rfl, h⟩ := h
  rfl

theorem ek_blamed_138_r {a k i x : Int32} {I I2 : px_I} {L L2 : px_L} (h : pk_blamed a k i I L x I2 L2) : I2 138 = I 138 := by
  unfold pk_blamed at h
  exact funext fun j => h.1 138 j (by omega)

theorem eb_reach_102_r {g lo hi sl fa w st x : Int32} {I I2 : px_I} {L L2 : px_L} (h : pb_reach g lo hi sl fa w st I L x I2 L2) : I2 102 = I 102 := by
  unfold pb_reach at h
  obtain ⟨rfl, h⟩ := h
  rcases h with ⟨G, ⟨g1, g2, g3⟩, rfl, rfl⟩ | ⟨a1, rfl, rfl⟩
  · have gG : G = 41 ∨ G = 55 := by unfold bG at g1; omega
    rw [cReach_o (by omega)]
  · rfl

theorem ek_reach_138_r {g lo hi sl fa w st x : Int32} {I I2 : px_I} {L L2 : px_L} (h : pk_reach g lo hi sl fa w st I L x I2 L2) : I2 138 = I 138 := by
  unfold pk_reach at h
  obtain ⟨rfl, h⟩ := h
  rcases h with ⟨a1, rfl, rfl⟩ | ⟨a1, rfl, rfl⟩
  · unfold mReach; (repeat rw [px_u_ne (by omega)])
  · rfl

theorem eb_mouth_102_r {g st x : Int32} {I I2 : px_I} {L L2 : px_L} (h : pb_mouth g st I L x I2 L2) : I2 102 = I 102 := by
  unfold pb_mouth at h
  obtain ⟨rfl, h⟩ := h
  rcases h with ⟨G, g1, rfl⟩ | rfl
  · have gG : G = 41 ∨ G = 55 := by unfold bG at g1; omega
    (repeat rw [px_u_ne (by omega)])
  · rfl

theorem ek_mouth_138_r {g st x : Int32} {I I2 : px_I} {L L2 : px_L} (h : pk_mouth g st I L x I2 L2) : I2 138 = I 138 := by
  unfold pk_mouth at h
  obtain ⟨rfl, h⟩ := h
  rcases h with ⟨a1, a2, rfl, rfl⟩ | ⟨a1, rfl, rfl⟩
  · (repeat rw [px_u_ne (by omega)])
  · rfl

theorem eb_mark_102_r {g p f t x : Int32} {I I2 : px_I} {L L2 : px_L} (h : pb_mark g p f t I L x I2 L2) : I2 102 = I 102 := by
  unfold pb_mark at h
  obtain ⟨rfl, h⟩ := h
  rcases h with ⟨G, g1, rfl, rfl⟩ | ⟨a1, rfl, rfl⟩
  · have g2 := g1.1
    have gG : G = 41 ∨ G = 55 := by unfold bG at g2; omega
    unfold cMark; (repeat rw [px_u_ne (by omega)])
  · rfl

theorem ek_mark_138_r {g p f t x : Int32} {I I2 : px_I} {L L2 : px_L} (h : pk_mark g p f t I L x I2 L2) : I2 138 = I 138 := by
  unfold pk_mark at h
  obtain ⟨rfl, h⟩ := h
  rcases h with ⟨a1, rfl, rfl⟩ | ⟨a1, rfl, rfl⟩
  · unfold mMark; (repeat rw [px_u_ne (by omega)])
  · rfl

theorem eb_when_102_r {g p h x : Int32} {I I2 : px_I} {L L2 : px_L} (h : pb_when g p h I L x I2 L2) : I2 102 = I 102 := by
  unfold pb_when at h
  obtain ⟨rfl, h⟩ := h
  rw [h 102 (by decide) (by decide) (by decide) (by decide)]

theorem ek_when_138_r {g p h x : Int32} {I I2 : px_I} {L L2 : px_L} (h : pk_when g p h I L x I2 L2) : I2 138 = I 138 := by
  unfold pk_when at h
  exact funext fun j => h.1 138 j (by omega)

theorem eb_between_102_r {g p q h x : Int32} {I I2 : px_I} {L L2 : px_L} (h : pb_between g p q h I L x I2 L2) : I2 102 = I 102 := by
  unfold pb_between at h
  obtain ⟨rfl, h⟩ := h
  rw [h 102 (by decide) (by decide) (by decide) (by decide)]

theorem ek_between_138_r {g p t h x : Int32} {I I2 : px_I} {L L2 : px_L} (h : pk_between g p t h I L x I2 L2) : I2 138 = I 138 := by
  unfold pk_between at h
  exact funext fun j => h.1 138 j (by omega)

theorem eb_lamps_102_r {g p h lo hi x : Int32} {I I2 : px_I} {L L2 : px_L} (h : pb_lamps g p h lo hi I L x I2 L2) : I2 102 = I 102 := by
  unfold pb_lamps at h
  rw [h.1]

theorem ek_lamps_138_r {g p h lo hi x : Int32} {I I2 : px_I} {L L2 : px_L} (h : pk_lamps g p h lo hi I L x I2 L2) : I2 138 = I 138 := by
  unfold pk_lamps at h
  rw [h.1]

theorem eb_count_102_r {u lo hi x : Int32} {I I2 : px_I} {L L2 : px_L} (h : pb_count u lo hi I L x I2 L2) : I2 102 = I 102 := by
  unfold pb_count at h
  obtain ⟨rfl, h⟩ := h
  rcases h with ⟨a1, rfl, rfl⟩ | ⟨a1, rfl, rfl⟩
  · (repeat rw [px_u_ne (by omega)])
  · rfl

theorem ek_count_138_r {u lo hi x : Int32} {I I2 : px_I} {L L2 : px_L} (h : pk_count u lo hi I L x I2 L2) : I2 138 = I 138 := by
  unfold pk_count at h
  rcases h with ⟨a1, rfl, rfl, rfl⟩ | ⟨a1, rfl, rfl, rfl⟩
  · (repeat rw [px_u_ne (by omega)])
  · rfl

theorem eb_unit_102_r {h x : Int32} {I I2 : px_I} {L L2 : px_L} (h : pb_unit h I L x I2 L2) : I2 102 = I 102 := by
  unfold pb_unit at h
  rw [h.1]

theorem ek_unit_138_r {h x : Int32} {I I2 : px_I} {L L2 : px_L} (h : pk_unit h I L x I2 L2) : I2 138 = I 138 := by
  unfold pk_unit at h
  rw [h.1]

theorem eb_feed_102_r {a b c d e x : Int32} {I I2 : px_I} {L L2 : px_L} (h : pb_feed a b c d e I L x I2 L2) : I2 102 = I 102 := by
  unfold pb_feed at h
  obtain ⟨rfl, h⟩ := h
  rcases h with ⟨a1, rfl, rfl⟩ | ⟨a1, rfl, rfl⟩
  · rw [cApp_o _ _ (by omega) (by omega), cApp_o _ _ (by omega) (by omega), cApp_o _ _ (by omega) (by omega), cApp_o _ _ (by omega) (by omega), cApp_o _ _ (by omega) (by omega)]
  · rfl

theorem ek_feed_138_r {a b c d e x : Int32} {I I2 : px_I} {L L2 : px_L} (h : pk_feed a b c d e I L x I2 L2) : I2 138 = I 138 := by
  unfold pk_feed at h
  obtain ⟨rfl, h⟩ := h
  rcases h with ⟨a1, rfl, rfl⟩ | ⟨a1, rfl, rfl⟩
  · funext j; rw [mPut_o (by omega) (by omega), mPut_o (by omega) (by omega), mPut_o (by omega) (by omega), mPut_o (by omega) (by omega), mPut_o (by omega) (by omega)]
  · rfl

theorem eb_end_102_r {x9 x : Int32} {I I2 : px_I} {L L2 : px_L} (h : pb_end x9 I L x I2 L2) : I2 102 = I 102 := by
  unfold pb_end at h
  obtain ⟨rfl, h⟩ := h
  rcases h with ⟨a1, rfl, rfl⟩ | ⟨a1, rfl, rfl⟩
  · (repeat rw [px_u_ne (by omega)])
  · rfl

theorem ek_end_138_r {x9 x : Int32} {I I2 : px_I} {L L2 : px_L} (h : pk_end x9 I L x I2 L2) : I2 138 = I 138 := by
  unfold pk_end at h
  obtain ⟨rfl, h⟩ := h
  rcases h with ⟨a1, a2, rfl, rfl⟩ | ⟨a1, rfl, rfl⟩
  · (repeat rw [px_u_ne (by omega)])
  · rfl

theorem eb_way_102_r {i x : Int32} {I I2 : px_I} {L L2 : px_L} (h : pb_way i I L x I2 L2) : I2 102 = I 102 := by
  unfold pb_way at h
  exact funext fun j => h.1 102 j (by omega) (by omega) (by omega) (by omega) (by omega)

theorem ek_way_138_r {w x : Int32} {I I2 : px_I} {L L2 : px_L} (h : pk_way w I L x I2 L2) : I2 138 = I 138 := by
  unfold pk_way at h
  obtain ⟨rfl, h⟩ := h
  rcases h with ⟨a1, a2, rfl⟩ | ⟨a1, a2, a3⟩
  · rfl
  · exact funext fun j => a2 138 j (by omega) (by omega)

theorem eb_fault_102_r {x9 x : Int32} {I I2 : px_I} {L L2 : px_L} (h : pb_fault x9 I L x I2 L2) : I2 102 = I 102 := by
  unfold pb_fault at h
  rw [h.1]

theorem ek_fault_138_r {x9 x : Int32} {I I2 : px_I} {L L2 : px_L} (h : pk_fault x9 I L x I2 L2) : I2 138 = I 138 := by
  unfold pk_fault at h
  rw [h.1]

theorem eb_tools_102_r {a b c d e x : Int32} {I I2 : px_I} {L L2 : px_L} (h : pb_tools a b c d e I L x I2 L2) : I2 102 = I 102 := by
  unfold pb_tools at h
  obtain ⟨rfl, h⟩ := h
  rcases h with ⟨a1, rfl, a2⟩ | ⟨a1, rfl, rfl⟩
  · rw [a2 102 (by decide)]; (repeat rw [px_u_ne (by omega)])
  · rfl

theorem ek_tools_138_r {a b c d e x : Int32} {I I2 : px_I} {L L2 : px_L} (h : pk_tools a b c d e I L x I2 L2) : I2 138 = I 138 := by
  unfold pk_tools at h
  obtain ⟨rfl, h⟩ := h
  rcases h with ⟨a1, rfl, rfl⟩ | ⟨a1, rfl, rfl⟩
  · (repeat rw [px_u_ne (by omega)])
  · rfl

theorem eb_run_102_r {w h a x : Int32} {I I2 : px_I} {L L2 : px_L} (h : pb_run w h a I L x I2 L2) : I2 102 = I 102 := by
  unfold pb_run at h
  exact funext fun j => h.1 102 j (by omega) (by omega) (by omega) (by omega) (by omega) (by omega) (by omega)

theorem ek_run_138_r {w h a x : Int32} {I I2 : px_I} {L L2 : px_L} (h : pk_run w h a I L x I2 L2) : I2 138 = I 138 := by
  unfold pk_run at h
  exact funext fun j => h.1 138 j (by omega) (by omega) (by omega)

theorem eb_meeting_102_r {a f b t x9 h x : Int32} {I I2 : px_I} {L L2 : px_L} (h : pb_meeting a f b t x9 h I L x I2 L2) : I2 102 = I 102 := by
  unfold pb_meeting at h
  exact funext fun j => h.1 102 j (by omega) (by omega) (by omega) (by omega) (by omega) (by omega) (by omega)

theorem ek_meeting_138_r {a f b t x9 h x : Int32} {I I2 : px_I} {L L2 : px_L} (h : pk_meeting a f b t x9 h I L x I2 L2) : I2 138 = I 138 := by
  unfold pk_meeting at h
  exact funext fun j => h.1 138 j (by omega) (by omega) (by omega)

theorem eb_there_102_r {a lo hi x : Int32} {I I2 : px_I} {L L2 : px_L} (h : pb_there a lo hi I L x I2 L2) : I2 102 = I 102 := by
  unfold pb_there at h
  obtain ⟨rfl, h⟩ := h
  rcases h with ⟨a1, rfl, rfl⟩ | ⟨a1, rfl, rfl⟩
  · (repeat rw [px_u_ne (by omega)])
  · rfl

theorem ek_there_138_r {a lo hi x : Int32} {I I2 : px_I} {L L2 : px_L} (h : pk_there a lo hi I L x I2 L2) : I2 138 = I 138 := by
  unfold pk_there at h
  obtain ⟨rfl, h⟩ := h
  rcases h with ⟨a1, rfl, rfl⟩ | ⟨a1, rfl, rfl⟩
  · (repeat rw [px_u_ne (by omega)])
  · rfl

theorem eb_fits_102_r {a f b t x : Int32} {I I2 : px_I} {L L2 : px_L} (h : pb_fits a f b t I L x I2 L2) : I2 102 = I 102 := by
  unfold pb_fits at h
  exact funext fun j => h.1 102 j (by omega) (by omega) (by omega) (by omega) (by omega) (by omega) (by omega)

theorem ek_fits_138_r {a f b t x : Int32} {I I2 : px_I} {L L2 : px_L} (h : pk_fits a f b t I L x I2 L2) : I2 138 = I 138 := by
  unfold pk_fits at h
  exact funext fun j => h.1 138 j (by omega) (by omega) (by omega)

theorem eb_ways_102_r {a f b t x9 x : Int32} {I I2 : px_I} {L L2 : px_L} (h : pb_ways a f b t x9 I L x I2 L2) : I2 102 = I 102 := by
  unfold pb_ways at h
  exact funext fun j => h.1 102 j (by omega) (by omega) (by omega) (by omega) (by omega) (by omega) (by omega)

theorem ek_ways_138_r {a f b t x9 x : Int32} {I I2 : px_I} {L L2 : px_L} (h : pk_ways a f b t x9 I L x I2 L2) : I2 138 = I 138 := by
  unfold pk_ways at h
  exact funext fun j => h.1 138 j (by omega) (by omega) (by omega)

theorem eb_seek_102_r {a b c d e f x : Int32} {I I2 : px_I} {L L2 : px_L} (h : pb_seek a b c d e f I L x I2 L2) : I2 102 = I 102 := by
  unfold pb_seek at h
  obtain ⟨rfl, h⟩ := h
  rcases h with ⟨a1, rfl, rfl⟩ | ⟨a1, rfl, rfl⟩
  · (repeat rw [px_u_ne (by omega)])
  · rfl

theorem ek_seek_138_r {a b c d e f x : Int32} {I I2 : px_I} {L L2 : px_L} (h : pk_seek a b c d e f I L x I2 L2) : I2 138 = I 138 := by
  unfold pk_seek at h
  obtain ⟨rfl, h⟩ := h
  rcases h with ⟨a1, rfl, rfl⟩ | ⟨a1, rfl, rfl⟩
  · (repeat rw [px_u_ne (by omega)])
  · rfl

theorem eb_detour_102_r {a o h x : Int32} {I I2 : px_I} {L L2 : px_L} (h : pb_detour a o h I L x I2 L2) : I2 102 = I 102 := by
  unfold pb_detour at h
  rw [h.1]

theorem ek_detour_138_r {a o lo x : Int32} {I I2 : px_I} {L L2 : px_L} (h : pk_detour a o lo I L x I2 L2) : I2 138 = I 138 := by
  unfold pk_detour at h
  rw [h.1]

theorem eb_repair_102_r {g p y x : Int32} {I I2 : px_I} {L L2 : px_L} (h : pb_repair g p y I L x I2 L2) : I2 102 = I 102 := by
  unfold pb_repair at h
  obtain ⟨rfl, h⟩ := h
  rcases h with ⟨G, g1, rfl, rfl⟩ | ⟨a1, rfl, rfl⟩
  · have g2 := g1.1
    have gG : G = 41 ∨ G = 55 := by unfold bG at g2; omega
    unfold cRep; (repeat rw [px_u_ne (by omega)])
  · rfl

theorem ek_repair_138_r {g p y x : Int32} {I I2 : px_I} {L L2 : px_L} (h : pk_repair g p y I L x I2 L2) : I2 138 = I 138 := by
  unfold pk_repair at h
  obtain ⟨rfl, h⟩ := h
  rcases h with ⟨a1, rfl, rfl⟩ | ⟨a1, rfl, rfl⟩
  · (repeat rw [px_u_ne (by omega)])
  · rfl

theorem eb_lime_102_r {v x : Int32} {I I2 : px_I} {L L2 : px_L} (h : pb_lime v I L x I2 L2) : I2 102 = I 102 := by
  unfold pb_lime at h
  obtain ⟨rfl, h⟩ := h
  rcases h with ⟨a1, rfl, rfl⟩ | ⟨a1, rfl, rfl⟩
  · (repeat rw [px_u_ne (by omega)])
  · rfl

theorem ek_lime_138_r {v x : Int32} {I I2 : px_I} {L L2 : px_L} (h : pk_lime v I L x I2 L2) : I2 138 = I 138 := by
  unfold pk_lime at h
  obtain ⟨rfl, h⟩ := h
  rcases h with ⟨a1, a2, rfl, rfl⟩ | ⟨a1, rfl, rfl⟩
  · (repeat rw [px_u_ne (by omega)])
  · rfl

theorem eb_flow_102_r {g y k h x : Int32} {I I2 : px_I} {L L2 : px_L} (h : pb_flow g y k h I L x I2 L2) : I2 102 = I 102 := by
  unfold pb_flow at h
  exact funext fun j => h.1 102 j (by omega)

theorem ek_flow_138_r {g y k h x : Int32} {I I2 : px_I} {L L2 : px_L} (h : pk_flow g y k h I L x I2 L2) : I2 138 = I 138 := by
  unfold pk_flow at h
  exact funext fun j => h.1 138 j (by omega)

theorem eb_narrow_102_r {g y k x : Int32} {I I2 : px_I} {L L2 : px_L} (h : pb_narrow g y k I L x I2 L2) : I2 102 = I 102 := by
  unfold pb_narrow at h
  exact funext fun j => h.1 102 j (by omega)

theorem ek_narrow_138_r {g y k x : Int32} {I I2 : px_I} {L L2 : px_L} (h : pk_narrow g y k I L x I2 L2) : I2 138 = I 138 := by
  unfold pk_narrow at h
  exact funext fun j => h.1 138 j (by omega)

theorem eb_about_102_r {w x : Int32} {I I2 : px_I} {L L2 : px_L} (h : pb_about w I L x I2 L2) : I2 102 = I 102 := by
  unfold pb_about at h
  rw [h.1]

theorem ek_about_138_r {w x : Int32} {I I2 : px_I} {L L2 : px_L} (h : pk_about w I L x I2 L2) : I2 138 = I 138 := by
  unfold pk_about at h
  rw [h.1]

theorem eb_days_70_5 {x9 x : Int32} {I I2 : px_I} {L L2 : px_L} (h : pb_days x9 I L x I2 L2) : I2 70 5 = I 70 5 := by
  unfold pb_days at h
  obtain ⟨rfl, h⟩ := h
  rcases h with ⟨a1, a2, rfl, rfl⟩ | ⟨a1, rfl, rfl⟩
  · (repeat rw [px_u_out (by omega)])
  · rfl

theorem ek_days_103_25 {x9 x : Int32} {I I2 : px_I} {L L2 : px_L} (h : pk_days x9 I L x I2 L2) : I2 103 25 = I 103 25 := by
  unfold pk_days at h
  obtain ⟨rfl, h⟩ := h
  rcases h with ⟨a1, a2, a3, rfl, rfl⟩ | ⟨a1, rfl, rfl⟩
  · (repeat rw [px_u_out (by omega)])
  · rfl

theorem eb_station_70_5 { x : Int32} {I I2 : px_I} {L L2 : px_L} (h : pb_station  I L x I2 L2) : I2 70 5 = I 70 5 := by
  unfold pb_station at h
  obtain ⟨rfl, h⟩ := h
  rcases h with ⟨a1, rfl, rfl⟩ | ⟨a1, rfl, rfl⟩
  · (repeat rw [px_u_out (by omega)])
  · rfl

theorem ek_station_103_25 { x : Int32} {I I2 : px_I} {L L2 : px_L} (h : pk_station  I L x I2 L2) : I2 103 25 = I 103 25 := by
  unfold pk_station at h
  obtain ⟨rfl, h⟩ := h
  rcases h with ⟨a1, rfl, rfl⟩ | ⟨a1, rfl, rfl⟩
  · (repeat rw [px_u_out (by omega)])
  · rfl

theorem eb_sight_70_5 {a f t lo hi x : Int32} {I I2 : px_I} {L L2 : px_L} (h : pb_sight a f t lo hi I L x I2 L2) : I2 70 5 = I 70 5 := by
  unfold pb_sight at h
  obtain ⟨rfl, h⟩ := h
  rcases h with ⟨a1, rfl, rfl⟩ | ⟨a1, rfl, rfl⟩
  · (repeat rw [px_u_out (by omega)])
  · rfl

theorem ek_sight_103_25 {a f t lo hi x : Int32} {I I2 : px_I} {L L2 : px_L} (h : pk_sight a f t lo hi I L x I2 L2) : I2 103 25 = I 103 25 := by
  unfold pk_sight at h
  obtain ⟨rfl, h⟩ := h
  rcases h with ⟨a1, rfl, rfl⟩ | ⟨a1, rfl, rfl⟩
  · (repeat rw [px_u_out (by omega)])
  · rfl

theorem eb_closed_70_5 {a k x : Int32} {I I2 : px_I} {L L2 : px_L} (h : pb_closed a k I L x I2 L2) : I2 70 5 = I 70 5 := by
  unfold pb_closed at h
  obtain ⟨rfl, h⟩ := h
  rfl

theorem ek_closed_103_25 {a k x : Int32} {I I2 : px_I} {L L2 : px_L} (h : pk_closed a k I L x I2 L2) : I2 103 25 = I 103 25 := by
  unfold pk_closed at h
  exact h.1 103 25 (by omega)

theorem eb_span_70_5 {a t k h x : Int32} {I I2 : px_I} {L L2 : px_L} (h : pb_span a t k h I L x I2 L2) : I2 70 5 = I 70 5 := by
  unfold pb_span at h
  obtain ⟨rfl, h⟩ := h
  rfl

theorem ek_span_103_25 {a t k h x : Int32} {I I2 : px_I} {L L2 : px_L} (h : pk_span a t k h I L x I2 L2) : I2 103 25 = I 103 25 := by
  unfold pk_span at h
  exact h.1 103 25 (by omega)

theorem eb_gap_70_5 {a f t k h x : Int32} {I I2 : px_I} {L L2 : px_L} (h : pb_gap a f t k h I L x I2 L2) : I2 70 5 = I 70 5 := by
  unfold pb_gap at h
  obtain ⟨rfl, h⟩ := h
  rfl

theorem ek_gap_103_25 {a f t k h x : Int32} {I I2 : px_I} {L L2 : px_L} (h : pk_gap a f t k h I L x I2 L2) : I2 103 25 = I 103 25 := by
  unfold pk_gap at h
  exact h.1 103 25 (by omega)

theorem eb_blamed_70_5 {a k i x : Int32} {I I2 : px_I} {L L2 : px_L} (h : pb_blamed a k i I L x I2 L2) : I2 70 5 = I 70 5 := by
  unfold pb_blamed at h
  obtain ⟨rfl, h⟩ := h
  rfl

theorem ek_blamed_103_25 {a k i x : Int32} {I I2 : px_I} {L L2 : px_L} (h : pk_blamed a k i I L x I2 L2) : I2 103 25 = I 103 25 := by
  unfold pk_blamed at h
  exact h.1 103 25 (by omega)

theorem eb_reach_70_5 {g lo hi sl fa w st x : Int32} {I I2 : px_I} {L L2 : px_L} (h : pb_reach g lo hi sl fa w st I L x I2 L2) : I2 70 5 = I 70 5 := by
  unfold pb_reach at h
  obtain ⟨rfl, h⟩ := h
  rcases h with ⟨G, ⟨g1, g2, g3⟩, rfl, rfl⟩ | ⟨a1, rfl, rfl⟩
  · have gG : G = 41 ∨ G = 55 := by unfold bG at g1; omega
    rw [cReach_o (by omega)]
  · rfl

theorem ek_reach_103_25 {g lo hi sl fa w st x : Int32} {I I2 : px_I} {L L2 : px_L} (h : pk_reach g lo hi sl fa w st I L x I2 L2) : I2 103 25 = I 103 25 := by
  unfold pk_reach at h
  obtain ⟨rfl, h⟩ := h
  rcases h with ⟨a1, rfl, rfl⟩ | ⟨a1, rfl, rfl⟩
  · unfold mReach; (repeat rw [px_u_out (by omega)])
  · rfl

theorem eb_mouth_70_5 {g st x : Int32} {I I2 : px_I} {L L2 : px_L} (h : pb_mouth g st I L x I2 L2) : I2 70 5 = I 70 5 := by
  unfold pb_mouth at h
  obtain ⟨rfl, h⟩ := h
  rcases h with ⟨G, g1, rfl⟩ | rfl
  · have gG : G = 41 ∨ G = 55 := by unfold bG at g1; omega
    (repeat rw [px_u_out (by omega)])
  · rfl

theorem ek_mouth_103_25 {g st x : Int32} {I I2 : px_I} {L L2 : px_L} (h : pk_mouth g st I L x I2 L2) : I2 103 25 = I 103 25 := by
  unfold pk_mouth at h
  obtain ⟨rfl, h⟩ := h
  rcases h with ⟨a1, a2, rfl, rfl⟩ | ⟨a1, rfl, rfl⟩
  · (repeat rw [px_u_out (by omega)])
  · rfl

theorem eb_mark_70_5 {g p f t x : Int32} {I I2 : px_I} {L L2 : px_L} (h : pb_mark g p f t I L x I2 L2) : I2 70 5 = I 70 5 := by
  unfold pb_mark at h
  obtain ⟨rfl, h⟩ := h
  rcases h with ⟨G, g1, rfl, rfl⟩ | ⟨a1, rfl, rfl⟩
  · have g2 := g1.1
    have gG : G = 41 ∨ G = 55 := by unfold bG at g2; omega
    unfold cMark; (repeat rw [px_u_out (by omega)])
  · rfl

theorem ek_mark_103_25 {g p f t x : Int32} {I I2 : px_I} {L L2 : px_L} (h : pk_mark g p f t I L x I2 L2) : I2 103 25 = I 103 25 := by
  unfold pk_mark at h
  obtain ⟨rfl, h⟩ := h
  rcases h with ⟨a1, rfl, rfl⟩ | ⟨a1, rfl, rfl⟩
  · unfold mMark; (repeat rw [px_u_out (by omega)])
  · rfl

theorem eb_when_70_5 {g p h x : Int32} {I I2 : px_I} {L L2 : px_L} (h : pb_when g p h I L x I2 L2) : I2 70 5 = I 70 5 := by
  unfold pb_when at h
  obtain ⟨rfl, h⟩ := h
  rw [h 70 (by decide) (by decide) (by decide) (by decide)]

theorem ek_when_103_25 {g p h x : Int32} {I I2 : px_I} {L L2 : px_L} (h : pk_when g p h I L x I2 L2) : I2 103 25 = I 103 25 := by
  unfold pk_when at h
  exact h.1 103 25 (by omega)

theorem eb_between_70_5 {g p q h x : Int32} {I I2 : px_I} {L L2 : px_L} (h : pb_between g p q h I L x I2 L2) : I2 70 5 = I 70 5 := by
  unfold pb_between at h
  obtain ⟨rfl, h⟩ := h
  rw [h 70 (by decide) (by decide) (by decide) (by decide)]

theorem ek_between_103_25 {g p t h x : Int32} {I I2 : px_I} {L L2 : px_L} (h : pk_between g p t h I L x I2 L2) : I2 103 25 = I 103 25 := by
  unfold pk_between at h
  exact h.1 103 25 (by omega)

theorem eb_lamps_70_5 {g p h lo hi x : Int32} {I I2 : px_I} {L L2 : px_L} (h : pb_lamps g p h lo hi I L x I2 L2) : I2 70 5 = I 70 5 := by
  unfold pb_lamps at h
  rw [h.1]

theorem ek_lamps_103_25 {g p h lo hi x : Int32} {I I2 : px_I} {L L2 : px_L} (h : pk_lamps g p h lo hi I L x I2 L2) : I2 103 25 = I 103 25 := by
  unfold pk_lamps at h
  rw [h.1]

theorem eb_count_70_5 {u lo hi x : Int32} {I I2 : px_I} {L L2 : px_L} (h : pb_count u lo hi I L x I2 L2) : I2 70 5 = I 70 5 := by
  unfold pb_count at h
  obtain ⟨rfl, h⟩ := h
  rcases h with ⟨a1, rfl, rfl⟩ | ⟨a1, rfl, rfl⟩
  · (repeat rw [px_u_out (by omega)])
  · rfl

theorem ek_count_103_25 {u lo hi x : Int32} {I I2 : px_I} {L L2 : px_L} (h : pk_count u lo hi I L x I2 L2) : I2 103 25 = I 103 25 := by
  unfold pk_count at h
  rcases h with ⟨a1, rfl, rfl, rfl⟩ | ⟨a1, rfl, rfl, rfl⟩
  · (repeat rw [px_u_out (by omega)])
  · rfl

theorem eb_unit_70_5 {h x : Int32} {I I2 : px_I} {L L2 : px_L} (h : pb_unit h I L x I2 L2) : I2 70 5 = I 70 5 := by
  unfold pb_unit at h
  rw [h.1]

theorem ek_unit_103_25 {h x : Int32} {I I2 : px_I} {L L2 : px_L} (h : pk_unit h I L x I2 L2) : I2 103 25 = I 103 25 := by
  unfold pk_unit at h
  rw [h.1]

theorem eb_fault_70_5 {x9 x : Int32} {I I2 : px_I} {L L2 : px_L} (h : pb_fault x9 I L x I2 L2) : I2 70 5 = I 70 5 := by
  unfold pb_fault at h
  rw [h.1]

theorem ek_fault_103_25 {x9 x : Int32} {I I2 : px_I} {L L2 : px_L} (h : pk_fault x9 I L x I2 L2) : I2 103 25 = I 103 25 := by
  unfold pk_fault at h
  rw [h.1]

theorem eb_tools_70_5 {a b c d e x : Int32} {I I2 : px_I} {L L2 : px_L} (h : pb_tools a b c d e I L x I2 L2) : I2 70 5 = I 70 5 := by
  unfold pb_tools at h
  obtain ⟨rfl, h⟩ := h
  rcases h with ⟨a1, rfl, a2⟩ | ⟨a1, rfl, rfl⟩
  · rw [a2 70 (by decide)]; (repeat rw [px_u_out (by omega)])
  · rfl

theorem ek_tools_103_25 {a b c d e x : Int32} {I I2 : px_I} {L L2 : px_L} (h : pk_tools a b c d e I L x I2 L2) : I2 103 25 = I 103 25 := by
  unfold pk_tools at h
  obtain ⟨rfl, h⟩ := h
  rcases h with ⟨a1, rfl, rfl⟩ | ⟨a1, rfl, rfl⟩
  · (repeat rw [px_u_out (by omega)])
  · rfl

theorem eb_run_70_5 {w h a x : Int32} {I I2 : px_I} {L L2 : px_L} (h : pb_run w h a I L x I2 L2) : I2 70 5 = I 70 5 := by
  unfold pb_run at h
  exact h.1 70 5 (by omega) (by omega) (by omega) (by omega) (by omega) (by omega) (by omega)

theorem ek_run_103_25 {w h a x : Int32} {I I2 : px_I} {L L2 : px_L} (h : pk_run w h a I L x I2 L2) : I2 103 25 = I 103 25 := by
  unfold pk_run at h
  exact h.1 103 25 (by omega) (by omega) (by omega)

theorem eb_meeting_70_5 {a f b t x9 h x : Int32} {I I2 : px_I} {L L2 : px_L} (h : pb_meeting a f b t x9 h I L x I2 L2) : I2 70 5 = I 70 5 := by
  unfold pb_meeting at h
  exact h.1 70 5 (by omega) (by omega) (by omega) (by omega) (by omega) (by omega) (by omega)

theorem ek_meeting_103_25 {a f b t x9 h x : Int32} {I I2 : px_I} {L L2 : px_L} (h : pk_meeting a f b t x9 h I L x I2 L2) : I2 103 25 = I 103 25 := by
  unfold pk_meeting at h
  exact h.1 103 25 (by omega) (by omega) (by omega)

theorem eb_there_70_5 {a lo hi x : Int32} {I I2 : px_I} {L L2 : px_L} (h : pb_there a lo hi I L x I2 L2) : I2 70 5 = I 70 5 := by
  unfold pb_there at h
  obtain ⟨rfl, h⟩ := h
  rcases h with ⟨a1, rfl, rfl⟩ | ⟨a1, rfl, rfl⟩
  · (repeat rw [px_u_out (by omega)])
  · rfl

theorem ek_there_103_25 {a lo hi x : Int32} {I I2 : px_I} {L L2 : px_L} (h : pk_there a lo hi I L x I2 L2) : I2 103 25 = I 103 25 := by
  unfold pk_there at h
  obtain ⟨rfl, h⟩ := h
  rcases h with ⟨a1, rfl, rfl⟩ | ⟨a1, rfl, rfl⟩
  · (repeat rw [px_u_out (by omega)])
  · rfl

theorem eb_fits_70_5 {a f b t x : Int32} {I I2 : px_I} {L L2 : px_L} (h : pb_fits a f b t I L x I2 L2) : I2 70 5 = I 70 5 := by
  unfold pb_fits at h
  exact h.1 70 5 (by omega) (by omega) (by omega) (by omega) (by omega) (by omega) (by omega)

theorem ek_fits_103_25 {a f b t x : Int32} {I I2 : px_I} {L L2 : px_L} (h : pk_fits a f b t I L x I2 L2) : I2 103 25 = I 103 25 := by
  unfold pk_fits at h
  exact h.1 103 25 (by omega) (by omega) (by omega)

theorem eb_ways_70_5 {a f b t x9 x : Int32} {I I2 : px_I} {L L2 : px_L} (h : pb_ways a f b t x9 I L x I2 L2) : I2 70 5 = I 70 5 := by
  unfold pb_ways at h
  exact h.1 70 5 (by omega) (by omega) (by omega) (by omega) (by omega) (by omega) (by omega)

theorem ek_ways_103_25 {a f b t x9 x : Int32} {I I2 : px_I} {L L2 : px_L} (h : pk_ways a f b t x9 I L x I2 L2) : I2 103 25 = I 103 25 := by
  unfold pk_ways at h
  exact h.1 103 25 (by omega) (by omega) (by omega)

theorem eb_seek_70_5 {a b c d e f x : Int32} {I I2 : px_I} {L L2 : px_L} (h : pb_seek a b c d e f I L x I2 L2) : I2 70 5 = I 70 5 := by
  unfold pb_seek at h
  obtain ⟨rfl, h⟩ := h
  rcases h with ⟨a1, rfl, rfl⟩ | ⟨a1, rfl, rfl⟩
  · (repeat rw [px_u_out (by omega)])
  · rfl

theorem ek_seek_103_25 {a b c d e f x : Int32} {I I2 : px_I} {L L2 : px_L} (h : pk_seek a b c d e f I L x I2 L2) : I2 103 25 = I 103 25 := by
  unfold pk_seek at h
  obtain ⟨rfl, h⟩ := h
  rcases h with ⟨a1, rfl, rfl⟩ | ⟨a1, rfl, rfl⟩
  · (repeat rw [px_u_out (by omega)])
  · rfl

theorem eb_detour_70_5 {a o h x : Int32} {I I2 : px_I} {L L2 : px_L} (h : pb_detour a o h I L x I2 L2) : I2 70 5 = I 70 5 := by
  unfold pb_detour at h
  rw [h.1]

theorem ek_detour_103_25 {a o lo x : Int32} {I I2 : px_I} {L L2 : px_L} (h : pk_detour a o lo I L x I2 L2) : I2 103 25 = I 103 25 := by
  unfold pk_detour at h
  rw [h.1]

theorem eb_table_70_5 {c v x : Int32} {I I2 : px_I} {L L2 : px_L} (h : pb_table c v I L x I2 L2) : I2 70 5 = I 70 5 := by
  unfold pb_table at h
  obtain ⟨rfl, h⟩ := h
  rcases h with ⟨a1, rfl, rfl⟩ | ⟨a1, rfl, rfl⟩
  · (repeat rw [px_u_out (by omega)])
  · rfl

theorem ek_table_103_25 {c v x : Int32} {I I2 : px_I} {L L2 : px_L} (h : pk_table c v I L x I2 L2) : I2 103 25 = I 103 25 := by
  unfold pk_table at h
  obtain ⟨rfl, h⟩ := h
  rcases h with ⟨a1, rfl, rfl⟩ | ⟨a1, rfl, rfl⟩
  · (repeat rw [px_u_out (by omega)])
  · rfl

theorem eb_repair_70_5 {g p y x : Int32} {I I2 : px_I} {L L2 : px_L} (h : pb_repair g p y I L x I2 L2) : I2 70 5 = I 70 5 := by
  unfold pb_repair at h
  obtain ⟨rfl, h⟩ := h
  rcases h with ⟨G, g1, rfl, rfl⟩ | ⟨a1, rfl, rfl⟩
  · have g2 := g1.1
    have gG : G = 41 ∨ G = 55 := by unfold bG at g2; omega
    unfold cRep; (repeat rw [px_u_out (by omega)])
  · rfl

theorem ek_repair_103_25 {g p y x : Int32} {I I2 : px_I} {L L2 : px_L} (h : pk_repair g p y I L x I2 L2) : I2 103 25 = I 103 25 := by
  unfold pk_repair at h
  obtain ⟨rfl, h⟩ := h
  rcases h with ⟨a1, rfl, rfl⟩ | ⟨a1, rfl, rfl⟩
  · (repeat rw [px_u_out (by omega)])
  · rfl

theorem eb_lime_70_5 {v x : Int32} {I I2 : px_I} {L L2 : px_L} (h : pb_lime v I L x I2 L2) : I2 70 5 = I 70 5 := by
  unfold pb_lime at h
  obtain ⟨rfl, h⟩ := h
  rcases h with ⟨a1, rfl, rfl⟩ | ⟨a1, rfl, rfl⟩
  · (repeat rw [px_u_out (by omega)])
  · rfl

theorem ek_lime_103_25 {v x : Int32} {I I2 : px_I} {L L2 : px_L} (h : pk_lime v I L x I2 L2) : I2 103 25 = I 103 25 := by
  unfold pk_lime at h
  obtain ⟨rfl, h⟩ := h
  rcases h with ⟨a1, a2, rfl, rfl⟩ | ⟨a1, rfl, rfl⟩
  · (repeat rw [px_u_out (by omega)])
  · rfl

theorem eb_flow_70_5 {g y k h x : Int32} {I I2 : px_I} {L L2 : px_L} (h : pb_flow g y k h I L x I2 L2) : I2 70 5 = I 70 5 := by
  unfold pb_flow at h
  exact h.1 70 5 (by omega)

theorem ek_flow_103_25 {g y k h x : Int32} {I I2 : px_I} {L L2 : px_L} (h : pk_flow g y k h I L x I2 L2) : I2 103 25 = I 103 25 := by
  unfold pk_flow at h
  exact h.1 103 25 (by omega)

theorem eb_narrow_70_5 {g y k x : Int32} {I I2 : px_I} {L L2 : px_L} (h : pb_narrow g y k I L x I2 L2) : I2 70 5 = I 70 5 := by
  unfold pb_narrow at h
  exact h.1 70 5 (by omega)

theorem ek_narrow_103_25 {g y k x : Int32} {I I2 : px_I} {L L2 : px_L} (h : pk_narrow g y k I L x I2 L2) : I2 103 25 = I 103 25 := by
  unfold pk_narrow at h
  exact h.1 103 25 (by omega)

theorem eb_about_70_5 {w x : Int32} {I I2 : px_I} {L L2 : px_L} (h : pb_about w I L x I2 L2) : I2 70 5 = I 70 5 := by
  unfold pb_about at h
  rw [h.1]

theorem ek_about_103_25 {w x : Int32} {I I2 : px_I} {L L2 : px_L} (h : pk_about w I L x I2 L2) : I2 103 25 = I 103 25 := by
  unfold pk_about at h
  rw [h.1]

theorem eb_days_71_r {x9 x : Int32} {I I2 : px_I} {L L2 : px_L} (h : pb_days x9 I L x I2 L2) : I2 71 = I 71 := by
  unfold pb_days at h
  obtain ⟨rfl, h⟩ := h
  rcases h with ⟨a1, a2, rfl, rfl⟩ | ⟨a1, rfl, rfl⟩
  · (repeat rw [px_u_ne (by omega)])
  · rfl

theorem ek_days_121_r {x9 x : Int32} {I I2 : px_I} {L L2 : px_L} (h : pk_days x9 I L x I2 L2) : I2 121 = I 121 := by
  unfold pk_days at h
  obtain ⟨rfl, h⟩ := h
  rcases h with ⟨a1, a2, a3, rfl, rfl⟩ | ⟨a1, rfl, rfl⟩
  · (repeat rw [px_u_ne (by omega)])
  · rfl

theorem eb_station_71_r { x : Int32} {I I2 : px_I} {L L2 : px_L} (h : pb_station  I L x I2 L2) : I2 71 = I 71 := by
  unfold pb_station at h
  obtain ⟨rfl, h⟩ := h
  rcases h with ⟨a1, rfl, rfl⟩ | ⟨a1, rfl, rfl⟩
  · (repeat rw [px_u_ne (by omega)])
  · rfl

theorem ek_station_121_r { x : Int32} {I I2 : px_I} {L L2 : px_L} (h : pk_station  I L x I2 L2) : I2 121 = I 121 := by
  unfold pk_station at h
  obtain ⟨rfl, h⟩ := h
  rcases h with ⟨a1, rfl, rfl⟩ | ⟨a1, rfl, rfl⟩
  · (repeat rw [px_u_ne (by omega)])
  · rfl

theorem eb_sight_71_r {a f t lo hi x : Int32} {I I2 : px_I} {L L2 : px_L} (h : pb_sight a f t lo hi I L x I2 L2) : I2 71 = I 71 := by
  unfold pb_sight at h
  obtain ⟨rfl, h⟩ := h
  rcases h with ⟨a1, rfl, rfl⟩ | ⟨a1, rfl, rfl⟩
  · (repeat rw [px_u_ne (by omega)])
  · rfl

theorem ek_sight_121_r {a f t lo hi x : Int32} {I I2 : px_I} {L L2 : px_L} (h : pk_sight a f t lo hi I L x I2 L2) : I2 121 = I 121 := by
  unfold pk_sight at h
  obtain ⟨rfl, h⟩ := h
  rcases h with ⟨a1, rfl, rfl⟩ | ⟨a1, rfl, rfl⟩
  · (repeat rw [px_u_ne (by omega)])
  · rfl

theorem eb_closed_71_r {a k x : Int32} {I I2 : px_I} {L L2 : px_L} (h : pb_closed a k I L x I2 L2) : I2 71 = I 71 := by
  unfold pb_closed at h
  obtain ⟨rfl, h⟩ := h
  rfl

theorem ek_closed_121_r {a k x : Int32} {I I2 : px_I} {L L2 : px_L} (h : pk_closed a k I L x I2 L2) : I2 121 = I 121 := by
  unfold pk_closed at h
  exact funext fun j => h.1 121 j (by omega)

theorem eb_span_71_r {a t k h x : Int32} {I I2 : px_I} {L L2 : px_L} (h : pb_span a t k h I L x I2 L2) : I2 71 = I 71 := by
  unfold pb_span at h
  obtain ⟨rfl, h⟩ := h
  rfl

theorem ek_span_121_r {a t k h x : Int32} {I I2 : px_I} {L L2 : px_L} (h : pk_span a t k h I L x I2 L2) : I2 121 = I 121 := by
  unfold pk_span at h
  exact funext fun j => h.1 121 j (by omega)

theorem eb_gap_71_r {a f t k h x : Int32} {I I2 : px_I} {L L2 : px_L} (h : pb_gap a f t k h I L x I2 L2) : I2 71 = I 71 := by
  unfold pb_gap at h
  obtain ⟨rfl, h⟩ := h
  rfl

theorem ek_gap_121_r {a f t k h x : Int32} {I I2 : px_I} {L L2 : px_L} (h : pk_gap a f t k h I L x I2 L2) : I2 121 = I 121 := by
  unfold pk_gap at h
  exact funext fun j => h.1 121 j (by omega)

theorem eb_blamed_71_r {a k i x : Int32} {I I2 : px_I} {L L2 : px_L} (h : pb_blamed a k i I L x I2 L2) : I2 71 = I 71 := by
  unfold pb_blamed at h
  obtain ⟨rfl, h⟩ := h
  rfl

theorem ek_blamed_121_r {a k i x : Int32} {I I2 : px_I} {L L2 : px_L} (h : pk_blamed a k i I L x I2 L2) : I2 121 = I 121 := by
  unfold pk_blamed at h
  exact funext fun j => h.1 121 j (by omega)

theorem eb_reach_71_r {g lo hi sl fa w st x : Int32} {I I2 : px_I} {L L2 : px_L} (h : pb_reach g lo hi sl fa w st I L x I2 L2) : I2 71 = I 71 := by
  unfold pb_reach at h
  obtain ⟨rfl, h⟩ := h
  rcases h with ⟨G, ⟨g1, g2, g3⟩, rfl, rfl⟩ | ⟨a1, rfl, rfl⟩
  · have gG : G = 41 ∨ G = 55 := by unfold bG at g1; omega
    rw [cReach_o (by omega)]
  · rfl

theorem ek_reach_121_r {g lo hi sl fa w st x : Int32} {I I2 : px_I} {L L2 : px_L} (h : pk_reach g lo hi sl fa w st I L x I2 L2) : I2 121 = I 121 := by
  unfold pk_reach at h
  obtain ⟨rfl, h⟩ := h
  rcases h with ⟨a1, rfl, rfl⟩ | ⟨a1, rfl, rfl⟩
  · unfold mReach; (repeat rw [px_u_ne (by omega)])
  · rfl

theorem eb_mouth_71_r {g st x : Int32} {I I2 : px_I} {L L2 : px_L} (h : pb_mouth g st I L x I2 L2) : I2 71 = I 71 := by
  unfold pb_mouth at h
  obtain ⟨rfl, h⟩ := h
  rcases h with ⟨G, g1, rfl⟩ | rfl
  · have gG : G = 41 ∨ G = 55 := by unfold bG at g1; omega
    (repeat rw [px_u_ne (by omega)])
  · rfl

theorem ek_mouth_121_r {g st x : Int32} {I I2 : px_I} {L L2 : px_L} (h : pk_mouth g st I L x I2 L2) : I2 121 = I 121 := by
  unfold pk_mouth at h
  obtain ⟨rfl, h⟩ := h
  rcases h with ⟨a1, a2, rfl, rfl⟩ | ⟨a1, rfl, rfl⟩
  · (repeat rw [px_u_ne (by omega)])
  · rfl

theorem eb_mark_71_r {g p f t x : Int32} {I I2 : px_I} {L L2 : px_L} (h : pb_mark g p f t I L x I2 L2) : I2 71 = I 71 := by
  unfold pb_mark at h
  obtain ⟨rfl, h⟩ := h
  rcases h with ⟨G, g1, rfl, rfl⟩ | ⟨a1, rfl, rfl⟩
  · have g2 := g1.1
    have gG : G = 41 ∨ G = 55 := by unfold bG at g2; omega
    unfold cMark; (repeat rw [px_u_ne (by omega)])
  · rfl

theorem ek_mark_121_r {g p f t x : Int32} {I I2 : px_I} {L L2 : px_L} (h : pk_mark g p f t I L x I2 L2) : I2 121 = I 121 := by
  unfold pk_mark at h
  obtain ⟨rfl, h⟩ := h
  rcases h with ⟨a1, rfl, rfl⟩ | ⟨a1, rfl, rfl⟩
  · unfold mMark; (repeat rw [px_u_ne (by omega)])
  · rfl

theorem eb_when_71_r {g p h x : Int32} {I I2 : px_I} {L L2 : px_L} (h : pb_when g p h I L x I2 L2) : I2 71 = I 71 := by
  unfold pb_when at h
  obtain ⟨rfl, h⟩ := h
  rw [h 71 (by decide) (by decide) (by decide) (by decide)]

theorem ek_when_121_r {g p h x : Int32} {I I2 : px_I} {L L2 : px_L} (h : pk_when g p h I L x I2 L2) : I2 121 = I 121 := by
  unfold pk_when at h
  exact funext fun j => h.1 121 j (by omega)

theorem eb_between_71_r {g p q h x : Int32} {I I2 : px_I} {L L2 : px_L} (h : pb_between g p q h I L x I2 L2) : I2 71 = I 71 := by
  unfold pb_between at h
  obtain ⟨rfl, h⟩ := h
  rw [h 71 (by decide) (by decide) (by decide) (by decide)]

theorem ek_between_121_r {g p t h x : Int32} {I I2 : px_I} {L L2 : px_L} (h : pk_between g p t h I L x I2 L2) : I2 121 = I 121 := by
  unfold pk_between at h
  exact funext fun j => h.1 121 j (by omega)

theorem eb_lamps_71_r {g p h lo hi x : Int32} {I I2 : px_I} {L L2 : px_L} (h : pb_lamps g p h lo hi I L x I2 L2) : I2 71 = I 71 := by
  unfold pb_lamps at h
  rw [h.1]

theorem ek_lamps_121_r {g p h lo hi x : Int32} {I I2 : px_I} {L L2 : px_L} (h : pk_lamps g p h lo hi I L x I2 L2) : I2 121 = I 121 := by
  unfold pk_lamps at h
  rw [h.1]

theorem eb_count_71_r {u lo hi x : Int32} {I I2 : px_I} {L L2 : px_L} (h : pb_count u lo hi I L x I2 L2) : I2 71 = I 71 := by
  unfold pb_count at h
  obtain ⟨rfl, h⟩ := h
  rcases h with ⟨a1, rfl, rfl⟩ | ⟨a1, rfl, rfl⟩
  · (repeat rw [px_u_ne (by omega)])
  · rfl

theorem ek_count_121_r {u lo hi x : Int32} {I I2 : px_I} {L L2 : px_L} (h : pk_count u lo hi I L x I2 L2) : I2 121 = I 121 := by
  unfold pk_count at h
  rcases h with ⟨a1, rfl, rfl, rfl⟩ | ⟨a1, rfl, rfl, rfl⟩
  · (repeat rw [px_u_ne (by omega)])
  · rfl

theorem eb_unit_71_r {h x : Int32} {I I2 : px_I} {L L2 : px_L} (h : pb_unit h I L x I2 L2) : I2 71 = I 71 := by
  unfold pb_unit at h
  rw [h.1]

theorem ek_unit_121_r {h x : Int32} {I I2 : px_I} {L L2 : px_L} (h : pk_unit h I L x I2 L2) : I2 121 = I 121 := by
  unfold pk_unit at h
  rw [h.1]

theorem eb_end_71_r {x9 x : Int32} {I I2 : px_I} {L L2 : px_L} (h : pb_end x9 I L x I2 L2) : I2 71 = I 71 := by
  unfold pb_end at h
  obtain ⟨rfl, h⟩ := h
  rcases h with ⟨a1, rfl, rfl⟩ | ⟨a1, rfl, rfl⟩
  · (repeat rw [px_u_ne (by omega)])
  · rfl

theorem ek_end_121_r {x9 x : Int32} {I I2 : px_I} {L L2 : px_L} (h : pk_end x9 I L x I2 L2) : I2 121 = I 121 := by
  unfold pk_end at h
  obtain ⟨rfl, h⟩ := h
  rcases h with ⟨a1, a2, rfl, rfl⟩ | ⟨a1, rfl, rfl⟩
  · (repeat rw [px_u_ne (by omega)])
  · rfl

theorem eb_way_71_r {i x : Int32} {I I2 : px_I} {L L2 : px_L} (h : pb_way i I L x I2 L2) : I2 71 = I 71 := by
  unfold pb_way at h
  exact funext fun j => h.1 71 j (by omega) (by omega) (by omega) (by omega) (by omega)

theorem ek_way_121_r {w x : Int32} {I I2 : px_I} {L L2 : px_L} (h : pk_way w I L x I2 L2) : I2 121 = I 121 := by
  unfold pk_way at h
  obtain ⟨rfl, h⟩ := h
  rcases h with ⟨a1, a2, rfl⟩ | ⟨a1, a2, a3⟩
  · rfl
  · exact funext fun j => a2 121 j (by omega) (by omega)

theorem eb_fault_71_r {x9 x : Int32} {I I2 : px_I} {L L2 : px_L} (h : pb_fault x9 I L x I2 L2) : I2 71 = I 71 := by
  unfold pb_fault at h
  rw [h.1]

theorem ek_fault_121_r {x9 x : Int32} {I I2 : px_I} {L L2 : px_L} (h : pk_fault x9 I L x I2 L2) : I2 121 = I 121 := by
  unfold pk_fault at h
  rw [h.1]

theorem eb_tools_71_r {a b c d e x : Int32} {I I2 : px_I} {L L2 : px_L} (h : pb_tools a b c d e I L x I2 L2) : I2 71 = I 71 := by
  unfold pb_tools at h
  obtain ⟨rfl, h⟩ := h
  rcases h with ⟨a1, rfl, a2⟩ | ⟨a1, rfl, rfl⟩
  · rw [a2 71 (by decide)]; (repeat rw [px_u_ne (by omega)])
  · rfl

theorem ek_tools_121_r {a b c d e x : Int32} {I I2 : px_I} {L L2 : px_L} (h : pk_tools a b c d e I L x I2 L2) : I2 121 = I 121 := by
  unfold pk_tools at h
  obtain ⟨rfl, h⟩ := h
  rcases h with ⟨a1, rfl, rfl⟩ | ⟨a1, rfl, rfl⟩
  · (repeat rw [px_u_ne (by omega)])
  · rfl

theorem eb_run_71_r {w h a x : Int32} {I I2 : px_I} {L L2 : px_L} (h : pb_run w h a I L x I2 L2) : I2 71 = I 71 := by
  unfold pb_run at h
  exact funext fun j => h.1 71 j (by omega) (by omega) (by omega) (by omega) (by omega) (by omega) (by omega)

theorem ek_run_121_r {w h a x : Int32} {I I2 : px_I} {L L2 : px_L} (h : pk_run w h a I L x I2 L2) : I2 121 = I 121 := by
  unfold pk_run at h
  exact funext fun j => h.1 121 j (by omega) (by omega) (by omega)

theorem eb_meeting_71_r {a f b t x9 h x : Int32} {I I2 : px_I} {L L2 : px_L} (h : pb_meeting a f b t x9 h I L x I2 L2) : I2 71 = I 71 := by
  unfold pb_meeting at h
  exact funext fun j => h.1 71 j (by omega) (by omega) (by omega) (by omega) (by omega) (by omega) (by omega)

theorem ek_meeting_121_r {a f b t x9 h x : Int32} {I I2 : px_I} {L L2 : px_L} (h : pk_meeting a f b t x9 h I L x I2 L2) : I2 121 = I 121 := by
  unfold pk_meeting at h
  exact funext fun j => h.1 121 j (by omega) (by omega) (by omega)

theorem eb_there_71_r {a lo hi x : Int32} {I I2 : px_I} {L L2 : px_L} (h : pb_there a lo hi I L x I2 L2) : I2 71 = I 71 := by
  unfold pb_there at h
  obtain ⟨rfl, h⟩ := h
  rcases h with ⟨a1, rfl, rfl⟩ | ⟨a1, rfl, rfl⟩
  · (repeat rw [px_u_ne (by omega)])
  · rfl

theorem ek_there_121_r {a lo hi x : Int32} {I I2 : px_I} {L L2 : px_L} (h : pk_there a lo hi I L x I2 L2) : I2 121 = I 121 := by
  unfold pk_there at h
  obtain ⟨rfl, h⟩ := h
  rcases h with ⟨a1, rfl, rfl⟩ | ⟨a1, rfl, rfl⟩
  · (repeat rw [px_u_ne (by omega)])
  · rfl

theorem eb_fits_71_r {a f b t x : Int32} {I I2 : px_I} {L L2 : px_L} (h : pb_fits a f b t I L x I2 L2) : I2 71 = I 71 := by
  unfold pb_fits at h
  exact funext fun j => h.1 71 j (by omega) (by omega) (by omega) (by omega) (by omega) (by omega) (by omega)

theorem ek_fits_121_r {a f b t x : Int32} {I I2 : px_I} {L L2 : px_L} (h : pk_fits a f b t I L x I2 L2) : I2 121 = I 121 := by
  unfold pk_fits at h
  exact funext fun j => h.1 121 j (by omega) (by omega) (by omega)

theorem eb_ways_71_r {a f b t x9 x : Int32} {I I2 : px_I} {L L2 : px_L} (h : pb_ways a f b t x9 I L x I2 L2) : I2 71 = I 71 := by
  unfold pb_ways at h
  exact funext fun j => h.1 71 j (by omega) (by omega) (by omega) (by omega) (by omega) (by omega) (by omega)

theorem ek_ways_121_r {a f b t x9 x : Int32} {I I2 : px_I} {L L2 : px_L} (h : pk_ways a f b t x9 I L x I2 L2) : I2 121 = I 121 := by
  unfold pk_ways at h
  exact funext fun j => h.1 121 j (by omega) (by omega) (by omega)

theorem eb_seek_71_r {a b c d e f x : Int32} {I I2 : px_I} {L L2 : px_L} (h : pb_seek a b c d e f I L x I2 L2) : I2 71 = I 71 := by
  unfold pb_seek at h
  obtain ⟨rfl, h⟩ := h
  rcases h with ⟨a1, rfl, rfl⟩ | ⟨a1, rfl, rfl⟩
  · (repeat rw [px_u_ne (by omega)])
  · rfl

theorem ek_seek_121_r {a b c d e f x : Int32} {I I2 : px_I} {L L2 : px_L} (h : pk_seek a b c d e f I L x I2 L2) : I2 121 = I 121 := by
  unfold pk_seek at h
  obtain ⟨rfl, h⟩ := h
  rcases h with ⟨a1, rfl, rfl⟩ | ⟨a1, rfl, rfl⟩
  · (repeat rw [px_u_ne (by omega)])
  · rfl

theorem eb_detour_71_r {a o h x : Int32} {I I2 : px_I} {L L2 : px_L} (h : pb_detour a o h I L x I2 L2) : I2 71 = I 71 := by
  unfold pb_detour at h
  rw [h.1]

theorem ek_detour_121_r {a o lo x : Int32} {I I2 : px_I} {L L2 : px_L} (h : pk_detour a o lo I L x I2 L2) : I2 121 = I 121 := by
  unfold pk_detour at h
  rw [h.1]

theorem eb_table_71_r {c v x : Int32} {I I2 : px_I} {L L2 : px_L} (h : pb_table c v I L x I2 L2) : I2 71 = I 71 := by
  unfold pb_table at h
  obtain ⟨rfl, h⟩ := h
  rcases h with ⟨a1, rfl, rfl⟩ | ⟨a1, rfl, rfl⟩
  · (repeat rw [px_u_ne (by omega)])
  · rfl

theorem ek_table_121_r {c v x : Int32} {I I2 : px_I} {L L2 : px_L} (h : pk_table c v I L x I2 L2) : I2 121 = I 121 := by
  unfold pk_table at h
  obtain ⟨rfl, h⟩ := h
  rcases h with ⟨a1, rfl, rfl⟩ | ⟨a1, rfl, rfl⟩
  · (repeat rw [px_u_ne (by omega)])
  · rfl

theorem eb_repair_71_r {g p y x : Int32} {I I2 : px_I} {L L2 : px_L} (h : pb_repair g p y I L x I2 L2) : I2 71 = I 71 := by
  unfold pb_repair at h
  obtain ⟨rfl, h⟩ := h
  rcases h with ⟨G, g1, rfl, rfl⟩ | ⟨a1, rfl, rfl⟩
  · have g2 := g1.1
    have gG : G = 41 ∨ G = 55 := by unfold bG at g2; omega
    unfold cRep; (repeat rw [px_u_ne (by omega)])
  · rfl

theorem ek_repair_121_r {g p y x : Int32} {I I2 : px_I} {L L2 : px_L} (h : pk_repair g p y I L x I2 L2) : I2 121 = I 121 := by
  unfold pk_repair at h
  obtain ⟨rfl, h⟩ := h
  rcases h with ⟨a1, rfl, rfl⟩ | ⟨a1, rfl, rfl⟩
  · (repeat rw [px_u_ne (by omega)])
  · rfl

theorem eb_lime_71_r {v x : Int32} {I I2 : px_I} {L L2 : px_L} (h : pb_lime v I L x I2 L2) : I2 71 = I 71 := by
  unfold pb_lime at h
  obtain ⟨rfl, h⟩ := h
  rcases h with ⟨a1, rfl, rfl⟩ | ⟨a1, rfl, rfl⟩
  · (repeat rw [px_u_ne (by omega)])
  · rfl

theorem ek_lime_121_r {v x : Int32} {I I2 : px_I} {L L2 : px_L} (h : pk_lime v I L x I2 L2) : I2 121 = I 121 := by
  unfold pk_lime at h
  obtain ⟨rfl, h⟩ := h
  rcases h with ⟨a1, a2, rfl, rfl⟩ | ⟨a1, rfl, rfl⟩
  · (repeat rw [px_u_ne (by omega)])
  · rfl

theorem eb_flow_71_r {g y k h x : Int32} {I I2 : px_I} {L L2 : px_L} (h : pb_flow g y k h I L x I2 L2) : I2 71 = I 71 := by
  unfold pb_flow at h
  exact funext fun j => h.1 71 j (by omega)

theorem ek_flow_121_r {g y k h x : Int32} {I I2 : px_I} {L L2 : px_L} (h : pk_flow g y k h I L x I2 L2) : I2 121 = I 121 := by
  unfold pk_flow at h
  exact funext fun j => h.1 121 j (by omega)

theorem eb_narrow_71_r {g y k x : Int32} {I I2 : px_I} {L L2 : px_L} (h : pb_narrow g y k I L x I2 L2) : I2 71 = I 71 := by
  unfold pb_narrow at h
  exact funext fun j => h.1 71 j (by omega)

theorem ek_narrow_121_r {g y k x : Int32} {I I2 : px_I} {L L2 : px_L} (h : pk_narrow g y k I L x I2 L2) : I2 121 = I 121 := by
  unfold pk_narrow at h
  exact funext fun j => h.1 121 j (by omega)

theorem eb_about_71_r {w x : Int32} {I I2 : px_I} {L L2 : px_L} (h : pb_about w I L x I2 L2) : I2 71 = I 71 := by
  unfold pb_about at h
  rw [h.1]

theorem ek_about_121_r {w x : Int32} {I I2 : px_I} {L L2 : px_L} (h : pk_about w I L x I2 L2) : I2 121 = I 121 := by
  unfold pk_about at h
  rw [h.1]

theorem ek_days_129_r {x9 x : Int32} {I I2 : px_I} {L L2 : px_L} (h : pk_days x9 I L x I2 L2) : I2 129 = I 129 := by
  unfold pk_days at h
  obtain ⟨rfl, h⟩ := h
  rcases h with ⟨a1, a2, a3, rfl, rfl⟩ | ⟨a1, rfl, rfl⟩
  · (repeat rw [px_u_ne (by omega)])
  · rfl

theorem ek_station_129_r { x : Int32} {I I2 : px_I} {L L2 : px_L} (h : pk_station  I L x I2 L2) : I2 129 = I 129 := by
  unfold pk_station at h
  obtain ⟨rfl, h⟩ := h
  rcases h with ⟨a1, rfl, rfl⟩ | ⟨a1, rfl, rfl⟩
  · (repeat rw [px_u_ne (by omega)])
  · rfl

theorem ek_sight_129_r {a f t lo hi x : Int32} {I I2 : px_I} {L L2 : px_L} (h : pk_sight a f t lo hi I L x I2 L2) : I2 129 = I 129 := by
  unfold pk_sight at h
  obtain ⟨rfl, h⟩ := h
  rcases h with ⟨a1, rfl, rfl⟩ | ⟨a1, rfl, rfl⟩
  · (repeat rw [px_u_ne (by omega)])
  · rfl

theorem ek_closed_129_r {a k x : Int32} {I I2 : px_I} {L L2 : px_L} (h : pk_closed a k I L x I2 L2) : I2 129 = I 129 := by
  unfold pk_closed at h
  exact funext fun j => h.1 129 j (by omega)

theorem ek_span_129_r {a t k h x : Int32} {I I2 : px_I} {L L2 : px_L} (h : pk_span a t k h I L x I2 L2) : I2 129 = I 129 := by
  unfold pk_span at h
  exact funext fun j => h.1 129 j (by omega)

theorem ek_gap_129_r {a f t k h x : Int32} {I I2 : px_I} {L L2 : px_L} (h : pk_gap a f t k h I L x I2 L2) : I2 129 = I 129 := by
  unfold pk_gap at h
  exact funext fun j => h.1 129 j (by omega)

theorem ek_blamed_129_r {a k i x : Int32} {I I2 : px_I} {L L2 : px_L} (h : pk_blamed a k i I L x I2 L2) : I2 129 = I 129 := by
  unfold pk_blamed at h
  exact funext fun j => h.1 129 j (by omega)

theorem ek_reach_129_r {g lo hi sl fa w st x : Int32} {I I2 : px_I} {L L2 : px_L} (h : pk_reach g lo hi sl fa w st I L x I2 L2) : I2 129 = I 129 := by
  unfold pk_reach at h
  obtain ⟨rfl, h⟩ := h
  rcases h with ⟨a1, rfl, rfl⟩ | ⟨a1, rfl, rfl⟩
  · unfold mReach; (repeat rw [px_u_ne (by omega)])
  · rfl

theorem ek_mouth_129_r {g st x : Int32} {I I2 : px_I} {L L2 : px_L} (h : pk_mouth g st I L x I2 L2) : I2 129 = I 129 := by
  unfold pk_mouth at h
  obtain ⟨rfl, h⟩ := h
  rcases h with ⟨a1, a2, rfl, rfl⟩ | ⟨a1, rfl, rfl⟩
  · (repeat rw [px_u_ne (by omega)])
  · rfl

theorem ek_mark_129_r {g p f t x : Int32} {I I2 : px_I} {L L2 : px_L} (h : pk_mark g p f t I L x I2 L2) : I2 129 = I 129 := by
  unfold pk_mark at h
  obtain ⟨rfl, h⟩ := h
  rcases h with ⟨a1, rfl, rfl⟩ | ⟨a1, rfl, rfl⟩
  · unfold mMark; (repeat rw [px_u_ne (by omega)])
  · rfl

theorem ek_when_129_r {g p h x : Int32} {I I2 : px_I} {L L2 : px_L} (h : pk_when g p h I L x I2 L2) : I2 129 = I 129 := by
  unfold pk_when at h
  exact funext fun j => h.1 129 j (by omega)

theorem ek_between_129_r {g p t h x : Int32} {I I2 : px_I} {L L2 : px_L} (h : pk_between g p t h I L x I2 L2) : I2 129 = I 129 := by
  unfold pk_between at h
  exact funext fun j => h.1 129 j (by omega)

theorem ek_lamps_129_r {g p h lo hi x : Int32} {I I2 : px_I} {L L2 : px_L} (h : pk_lamps g p h lo hi I L x I2 L2) : I2 129 = I 129 := by
  unfold pk_lamps at h
  rw [h.1]

theorem ek_count_129_r {u lo hi x : Int32} {I I2 : px_I} {L L2 : px_L} (h : pk_count u lo hi I L x I2 L2) : I2 129 = I 129 := by
  unfold pk_count at h
  rcases h with ⟨a1, rfl, rfl, rfl⟩ | ⟨a1, rfl, rfl, rfl⟩
  · (repeat rw [px_u_ne (by omega)])
  · rfl

theorem ek_unit_129_r {h x : Int32} {I I2 : px_I} {L L2 : px_L} (h : pk_unit h I L x I2 L2) : I2 129 = I 129 := by
  unfold pk_unit at h
  rw [h.1]

theorem ek_feed_129_r {a b c d e x : Int32} {I I2 : px_I} {L L2 : px_L} (h : pk_feed a b c d e I L x I2 L2) : I2 129 = I 129 := by
  unfold pk_feed at h
  obtain ⟨rfl, h⟩ := h
  rcases h with ⟨a1, rfl, rfl⟩ | ⟨a1, rfl, rfl⟩
  · funext j; rw [mPut_o (by omega) (by omega), mPut_o (by omega) (by omega), mPut_o (by omega) (by omega), mPut_o (by omega) (by omega), mPut_o (by omega) (by omega)]
  · rfl

theorem ek_end_129_r {x9 x : Int32} {I I2 : px_I} {L L2 : px_L} (h : pk_end x9 I L x I2 L2) : I2 129 = I 129 := by
  unfold pk_end at h
  obtain ⟨rfl, h⟩ := h
  rcases h with ⟨a1, a2, rfl, rfl⟩ | ⟨a1, rfl, rfl⟩
  · (repeat rw [px_u_ne (by omega)])
  · rfl

theorem ek_fault_129_r {x9 x : Int32} {I I2 : px_I} {L L2 : px_L} (h : pk_fault x9 I L x I2 L2) : I2 129 = I 129 := by
  unfold pk_fault at h
  rw [h.1]

theorem ek_tools_129_r {a b c d e x : Int32} {I I2 : px_I} {L L2 : px_L} (h : pk_tools a b c d e I L x I2 L2) : I2 129 = I 129 := by
  unfold pk_tools at h
  obtain ⟨rfl, h⟩ := h
  rcases h with ⟨a1, rfl, rfl⟩ | ⟨a1, rfl, rfl⟩
  · (repeat rw [px_u_ne (by omega)])
  · rfl

theorem ek_run_129_r {w h a x : Int32} {I I2 : px_I} {L L2 : px_L} (h : pk_run w h a I L x I2 L2) : I2 129 = I 129 := by
  unfold pk_run at h
  exact funext fun j => h.1 129 j (by omega) (by omega) (by omega)

theorem ek_meeting_129_r {a f b t x9 h x : Int32} {I I2 : px_I} {L L2 : px_L} (h : pk_meeting a f b t x9 h I L x I2 L2) : I2 129 = I 129 := by
  unfold pk_meeting at h
  exact funext fun j => h.1 129 j (by omega) (by omega) (by omega)

theorem ek_there_129_r {a lo hi x : Int32} {I I2 : px_I} {L L2 : px_L} (h : pk_there a lo hi I L x I2 L2) : I2 129 = I 129 := by
  unfold pk_there at h
  obtain ⟨rfl, h⟩ := h
  rcases h with ⟨a1, rfl, rfl⟩ | ⟨a1, rfl, rfl⟩
  · (repeat rw [px_u_ne (by omega)])
  · rfl

theorem ek_fits_129_r {a f b t x : Int32} {I I2 : px_I} {L L2 : px_L} (h : pk_fits a f b t I L x I2 L2) : I2 129 = I 129 := by
  unfold pk_fits at h
  exact funext fun j => h.1 129 j (by omega) (by omega) (by omega)

theorem ek_ways_129_r {a f b t x9 x : Int32} {I I2 : px_I} {L L2 : px_L} (h : pk_ways a f b t x9 I L x I2 L2) : I2 129 = I 129 := by
  unfold pk_ways at h
  exact funext fun j => h.1 129 j (by omega) (by omega) (by omega)

theorem ek_seek_129_r {a b c d e f x : Int32} {I I2 : px_I} {L L2 : px_L} (h : pk_seek a b c d e f I L x I2 L2) : I2 129 = I 129 := by
  unfold pk_seek at h
  obtain ⟨rfl, h⟩ := h
  rcases h with ⟨a1, rfl, rfl⟩ | ⟨a1, rfl, rfl⟩
  · (repeat rw [px_u_ne (by omega)])
  · rfl

theorem ek_detour_129_r {a o lo x : Int32} {I I2 : px_I} {L L2 : px_L} (h : pk_detour a o lo I L x I2 L2) : I2 129 = I 129 := by
  unfold pk_detour at h
  rw [h.1]

theorem ek_table_129_r {c v x : Int32} {I I2 : px_I} {L L2 : px_L} (h : pk_table c v I L x I2 L2) : I2 129 = I 129 := by
  unfold pk_table at h
  obtain ⟨rfl, h⟩ := h
  rcases h with ⟨a1, rfl, rfl⟩ | ⟨a1, rfl, rfl⟩
  · (repeat rw [px_u_ne (by omega)])
  · rfl

theorem ek_repair_129_r {g p y x : Int32} {I I2 : px_I} {L L2 : px_L} (h : pk_repair g p y I L x I2 L2) : I2 129 = I 129 := by
  unfold pk_repair at h
  obtain ⟨rfl, h⟩ := h
  rcases h with ⟨a1, rfl, rfl⟩ | ⟨a1, rfl, rfl⟩
  · (repeat rw [px_u_ne (by omega)])
  · rfl

theorem ek_lime_129_r {v x : Int32} {I I2 : px_I} {L L2 : px_L} (h : pk_lime v I L x I2 L2) : I2 129 = I 129 := by
  unfold pk_lime at h
  obtain ⟨rfl, h⟩ := h
  rcases h with ⟨a1, a2, rfl, rfl⟩ | ⟨a1, rfl, rfl⟩
  · (repeat rw [px_u_ne (by omega)])
  · rfl

theorem ek_flow_129_r {g y k h x : Int32} {I I2 : px_I} {L L2 : px_L} (h : pk_flow g y k h I L x I2 L2) : I2 129 = I 129 := by
  unfold pk_flow at h
  exact funext fun j => h.1 129 j (by omega)

theorem ek_narrow_129_r {g y k x : Int32} {I I2 : px_I} {L L2 : px_L} (h : pk_narrow g y k I L x I2 L2) : I2 129 = I 129 := by
  unfold pk_narrow at h
  exact funext fun j => h.1 129 j (by omega)

theorem ek_about_129_r {w x : Int32} {I I2 : px_I} {L L2 : px_L} (h : pk_about w I L x I2 L2) : I2 129 = I 129 := by
  unfold pk_about at h
  rw [h.1]

def rel (I : px_I) (L : px_L) (R : px_R) : Prop := (I 32 10 = I 103 0) ∧ (I 33 7 = I 103 1) ∧ (I 33 8 = I 103 2) ∧ (I 41 13 = I 110 0) ∧ (I 55 13 = I 110 1) ∧ (I 41 14 + I 55 14 = I 103 16) ∧ (I 69 0 = I 103 21 ∧ (0 ≤ I 69 0 ∧ I 69 0 ≤ 30) ∧ (0 ≤ I 69 1 ∧ I 69 1 ≤ 2000009998) ∧ (0 ≤ I 69 2 ∧ I 69 2 ≤ 2000000000) ∧ ((I 69 0 = 0 ∧ I 69 1 = 0 ∧ I 69 2 = 2000000000) ∨ (I 69 0 ≠ 0 ∧ (L 103 22).toInt = (I 69 1).toInt ∧ (L 103 23).toInt = (I 69 2).toInt))) ∧ (I 41 15 + I 55 15 = I 103 63) ∧ (I 101 2 = I 103 68) ∧ (∀ k : Nat, I 102 k = I 138 k) ∧ (I 70 5 = I 103 25) ∧ (∀ j : Nat, nb (I 71 j) = nb (I 121 j)) ∧ (∀ k : Nat, k < 6 → I 129 k = (if (R 89 k).isSome = true then 1 else 0))

theorem relq_days {v0 : Int32} {x y : Int32} {n : Nat} {I I2 I3 : px_I} {L L2 L3 : px_L} {R : px_R} (hj : jJ n I R) (hr : rel I L R) (f1 : frB I I2 L L2) {R2 : px_R} (fR : kR R I2 R2) (p1 : pb_days v0 I L x I2 L2) (f2 : frK I2 I3 L2 L3) (p2 : pk_days v0 I2 L2 y I3 L3) : x = y ∧ (I3 32 10 = I3 103 0) := by
  have h_da : I 32 10 = I 103 0 := hr.1
  have h_st : I 33 7 = I 103 1 := hr.2.1
  have h_si : I 33 8 = I 103 2 := hr.2.2.1
  have h_pA : I 41 13 = I 110 0 := hr.2.2.2.1
  have h_pB : I 55 13 = I 110 1 := hr.2.2.2.2.1
  have h_mk : I 41 14 + I 55 14 = I 103 16 := hr.2.2.2.2.2.1
  have h_ct : I 69 0 = I 103 21 ∧ (0 ≤ I 69 0 ∧ I 69 0 ≤ 30) ∧ (0 ≤ I 69 1 ∧ I 69 1 ≤ 2000009998) ∧ (0 ≤ I 69 2 ∧ I 69 2 ≤ 2000000000) ∧ ((I 69 0 = 0 ∧ I 69 1 = 0 ∧ I 69 2 = 2000000000) ∨ (I 69 0 ≠ 0 ∧ (L 103 22).toInt = (I 69 1).toInt ∧ (L 103 23).toInt = (I 69 2).toInt)) := hr.2.2.2.2.2.2.1
  have h_rp : I 41 15 + I 55 15 = I 103 63 := hr.2.2.2.2.2.2.2.1
  have h_li : I 101 2 = I 103 68 := hr.2.2.2.2.2.2.2.2.1
  have h_tb : ∀ k : Nat, I 102 k = I 138 k := hr.2.2.2.2.2.2.2.2.2.1
  have h_fd : I 70 5 = I 103 25 := hr.2.2.2.2.2.2.2.2.2.2.1
  have h_by : ∀ j : Nat, nb (I 71 j) = nb (I 121 j) := hr.2.2.2.2.2.2.2.2.2.2.2.1
  have h_tw : ∀ k : Nat, k < 6 → I 129 k = (if (R 89 k).isSome = true then 1 else 0) := hr.2.2.2.2.2.2.2.2.2.2.2.2
  unfold pb_days at p1
  unfold pk_days at p2
  have e : I2 103 0 = I 32 10 := by rw [f1.1 103 (by omega) (by omega)]; exact h_da.symm
  have e3 : I3 32 10 = I2 32 10 := by rw [f2.1 32 (by omega)]
  rw [e] at p2
  rcases p1.2 with ⟨a1, a2, a3, a4⟩ | ⟨a1, a3, a4⟩
  · rcases p2.2 with ⟨b1, b2, b3, b4, b5⟩ | ⟨b1, b4, b5⟩
    · refine ⟨by rw [a3, b4], ?_⟩
      rw [e3, b5, a4, px_u_at, px_u_at]
    · exact absurd ⟨a1.1, a1.2, a2⟩ b1
  · rcases p2.2 with ⟨b1, b2, b3, b4, b5⟩ | ⟨b1, b4, b5⟩
    · exact absurd ⟨⟨b1, b2⟩, b3⟩ a1
    · refine ⟨by rw [a3, b4], ?_⟩
      rw [e3, b5, a4, ← e, a4]

theorem rel.days {v0 : Int32} {x y : Int32} {n : Nat} {I I2 I3 : px_I} {L L2 L3 : px_L} {R : px_R} (hj : jJ n I R) (hr : rel I L R) (f1 : frB I I2 L L2) {R2 : px_R} (fR : kR R I2 R2) (p1 : pb_days v0 I L x I2 L2) (f2 : frK I2 I3 L2 L3) (p2 : pk_days v0 I2 L2 y I3 L3) : rel I3 L3 R2 := by
  have hq0 := (relq_days hj hr f1 fR p1 f2 p2).2
  have f_33_7 : I3 33 7 = I 33 7 := by rw [f2.1 33 (by omega), eb_days_33_7 p1]
  have f_103_1 : I3 103 1 = I 103 1 := by rw [ek_days_103_1 p2, f1.1 103 (by omega) (by omega)]
  have f_33_8 : I3 33 8 = I 33 8 := by rw [f2.1 33 (by omega), eb_days_33_8 p1]
  have f_103_2 : I3 103 2 = I 103 2 := by rw [ek_days_103_2 p2, f1.1 103 (by omega) (by omega)]
  have f_41_13 : I3 41 13 = I 41 13 := by rw [f2.1 41 (by omega), eb_days_41_13 p1]
  have f_110_0 : I3 110 0 = I 110 0 := by rw [ek_days_110_0 p2, f1.1 110 (by omega) (by omega)]
  have f_55_13 : I3 55 13 = I 55 13 := by rw [f2.1 55 (by omega), eb_days_55_13 p1]
  have f_110_1 : I3 110 1 = I 110 1 := by rw [ek_days_110_1 p2, f1.1 110 (by omega) (by omega)]
  have f_41_14 : I3 41 14 = I 41 14 := by rw [f2.1 41 (by omega), eb_days_41_14 p1]
  have f_55_14 : I3 55 14 = I 55 14 := by rw [f2.1 55 (by omega), eb_days_55_14 p1]
  have f_103_16 : I3 103 16 = I 103 16 := by rw [ek_days_103_16 p2, f1.1 103 (by omega) (by omega)]
  have f_69_0 : I3 69 0 = I 69 0 := by rw [f2.1 69 (by omega), eb_days_69_0 p1]
  have f_69_1 : I3 69 1 = I 69 1 := by rw [f2.1 69 (by omega), eb_days_69_1 p1]
  have f_69_2 : I3 69 2 = I 69 2 := by rw [f2.1 69 (by omega), eb_days_69_2 p1]
  have f_103_21 : I3 103 21 = I 103 21 := by rw [ek_days_103_21 p2, f1.1 103 (by omega) (by omega)]
  have f_L : L3 103 = L 103 := (eL_days_103 p2).trans (f1.2 103 (by omega) (by omega))
  have f_41_15 : I3 41 15 = I 41 15 := by rw [f2.1 41 (by omega), eb_days_41_15 p1]
  have f_55_15 : I3 55 15 = I 55 15 := by rw [f2.1 55 (by omega), eb_days_55_15 p1]
  have f_103_63 : I3 103 63 = I 103 63 := by rw [ek_days_103_63 p2, f1.1 103 (by omega) (by omega)]
  have f_101_2 : I3 101 2 = I 101 2 := by rw [f2.1 101 (by omega), eb_days_101_2 p1]
  have f_103_68 : I3 103 68 = I 103 68 := by rw [ek_days_103_68 p2, f1.1 103 (by omega) (by omega)]
  have f_102_r : I3 102 = I 102 := by rw [f2.1 102 (by omega), eb_days_102_r p1]
  have f_138_r : I3 138 = I 138 := by rw [ek_days_138_r p2, f1.1 138 (by omega) (by omega)]
  have f_70_5 : I3 70 5 = I 70 5 := by rw [f2.1 70 (by omega), eb_days_70_5 p1]
  have f_103_25 : I3 103 25 = I 103 25 := by rw [ek_days_103_25 p2, f1.1 103 (by omega) (by omega)]
  have f_71_r : I3 71 = I 71 := by rw [f2.1 71 (by omega), eb_days_71_r p1]
  have f_121_r : I3 121 = I 121 := by rw [ek_days_121_r p2, f1.1 121 (by omega) (by omega)]
  have f_129_r : I3 129 = I 129 := by rw [ek_days_129_r p2, f1.1 129 (by omega) (by omega)]
  exact ⟨hq0, (by rw [f_33_7, f_103_1]; exact hr.2.1), (by rw [f_33_8, f_103_2]; exact hr.2.2.1), (by rw [f_41_13, f_110_0]; exact hr.2.2.2.1), (by rw [f_55_13, f_110_1]; exact hr.2.2.2.2.1), (by rw [f_41_14, f_55_14, f_103_16]; exact hr.2.2.2.2.2.1), (by rw [f_69_0, f_69_1, f_69_2, f_103_21, f_L]; exact hr.2.2.2.2.2.2.1), (by rw [f_41_15, f_55_15, f_103_63]; exact hr.2.2.2.2.2.2.2.1), (by rw [f_101_2, f_103_68]; exact hr.2.2.2.2.2.2.2.2.1), (by rw [f_102_r, f_138_r]; exact hr.2.2.2.2.2.2.2.2.2.1), (by rw [f_70_5, f_103_25]; exact hr.2.2.2.2.2.2.2.2.2.2.1), (by rw [f_71_r, f_121_r]; exact hr.2.2.2.2.2.2.2.2.2.2.2.1), (tw_eq f_129_r fR hr.2.2.2.2.2.2.2.2.2.2.2.2)⟩

theorem relq_station {x y : Int32} {n : Nat} {I I2 I3 : px_I} {L L2 L3 : px_L} {R : px_R} (hj : jJ n I R) (hr : rel I L R) (f1 : frB I I2 L L2) {R2 : px_R} (fR : kR R I2 R2) (p1 : pb_station  I L x I2 L2) (f2 : frK I2 I3 L2 L3) (p2 : pk_station  I2 L2 y I3 L3) : x = y ∧ (I3 33 7 = I3 103 1) := by
  have h_da : I 32 10 = I 103 0 := hr.1
  have h_st : I 33 7 = I 103 1 := hr.2.1
  have h_si : I 33 8 = I 103 2 := hr.2.2.1
  have h_pA : I 41 13 = I 110 0 := hr.2.2.2.1
  have h_pB : I 55 13 = I 110 1 := hr.2.2.2.2.1
  have h_mk : I 41 14 + I 55 14 = I 103 16 := hr.2.2.2.2.2.1
  have h_ct : I 69 0 = I 103 21 ∧ (0 ≤ I 69 0 ∧ I 69 0 ≤ 30) ∧ (0 ≤ I 69 1 ∧ I 69 1 ≤ 2000009998) ∧ (0 ≤ I 69 2 ∧ I 69 2 ≤ 2000000000) ∧ ((I 69 0 = 0 ∧ I 69 1 = 0 ∧ I 69 2 = 2000000000) ∨ (I 69 0 ≠ 0 ∧ (L 103 22).toInt = (I 69 1).toInt ∧ (L 103 23).toInt = (I 69 2).toInt)) := hr.2.2.2.2.2.2.1
  have h_rp : I 41 15 + I 55 15 = I 103 63 := hr.2.2.2.2.2.2.2.1
  have h_li : I 101 2 = I 103 68 := hr.2.2.2.2.2.2.2.2.1
  have h_tb : ∀ k : Nat, I 102 k = I 138 k := hr.2.2.2.2.2.2.2.2.2.1
  have h_fd : I 70 5 = I 103 25 := hr.2.2.2.2.2.2.2.2.2.2.1
  have h_by : ∀ j : Nat, nb (I 71 j) = nb (I 121 j) := hr.2.2.2.2.2.2.2.2.2.2.2.1
  have h_tw : ∀ k : Nat, k < 6 → I 129 k = (if (R 89 k).isSome = true then 1 else 0) := hr.2.2.2.2.2.2.2.2.2.2.2.2
  unfold pb_station at p1
  unfold pk_station at p2
  have s := hj.s
  unfold cSt at s
  have e : I2 103 1 = I 103 1 := by rw [f1.1 103 (by omega) (by omega)]
  have e3 : I3 33 7 = I2 33 7 := by rw [f2.1 33 (by omega)]
  rcases p1.2 with ⟨a1, a2, a3⟩ | ⟨a1, a2, a3⟩
  · rcases p2.2 with ⟨b1, b2, b3⟩ | ⟨b1, b2, b3⟩
    · exact ⟨by rw [a2, b2, e]; exact h_st, by rw [e3, b3, a3, px_u_at, px_u_at, ← a3, e, h_st]⟩
    · exact absurd (b1.symm.trans (e.trans h_st.symm)) (by grind)
  · rcases p2.2 with ⟨b1, b2, b3⟩ | ⟨b1, b2, b3⟩
    · exact absurd (e.trans h_st.symm) (by grind)
    · exact ⟨by rw [a2, b2], by rw [e3, b3, e, a3]; exact h_st⟩

theorem rel.station {x y : Int32} {n : Nat} {I I2 I3 : px_I} {L L2 L3 : px_L} {R : px_R} (hj : jJ n I R) (hr : rel I L R) (f1 : frB I I2 L L2) {R2 : px_R} (fR : kR R I2 R2) (p1 : pb_station  I L x I2 L2) (f2 : frK I2 I3 L2 L3) (p2 : pk_station  I2 L2 y I3 L3) : rel I3 L3 R2 := by
  have hq0 := (relq_station hj hr f1 fR p1 f2 p2).2
  have f_32_10 : I3 32 10 = I 32 10 := by rw [f2.1 32 (by omega), eb_station_32_10 p1]
  have f_103_0 : I3 103 0 = I 103 0 := by rw [ek_station_103_0 p2, f1.1 103 (by omega) (by omega)]
  have f_33_8 : I3 33 8 = I 33 8 := by rw [f2.1 33 (by omega), eb_station_33_8 p1]
  have f_103_2 : I3 103 2 = I 103 2 := by rw [ek_station_103_2 p2, f1.1 103 (by omega) (by omega)]
  have f_41_13 : I3 41 13 = I 41 13 := by rw [f2.1 41 (by omega), eb_station_41_13 p1]
  have f_110_0 : I3 110 0 = I 110 0 := by rw [ek_station_110_0 p2, f1.1 110 (by omega) (by omega)]
  have f_55_13 : I3 55 13 = I 55 13 := by rw [f2.1 55 (by omega), eb_station_55_13 p1]
  have f_110_1 : I3 110 1 = I 110 1 := by rw [ek_station_110_1 p2, f1.1 110 (by omega) (by omega)]
  have f_41_14 : I3 41 14 = I 41 14 := by rw [f2.1 41 (by omega), eb_station_41_14 p1]
  have f_55_14 : I3 55 14 = I 55 14 := by rw [f2.1 55 (by omega), eb_station_55_14 p1]
  have f_103_16 : I3 103 16 = I 103 16 := by rw [ek_station_103_16 p2, f1.1 103 (by omega) (by omega)]
  have f_69_0 : I3 69 0 = I 69 0 := by rw [f2.1 69 (by omega), eb_station_69_0 p1]
  have f_69_1 : I3 69 1 = I 69 1 := by rw [f2.1 69 (by omega), eb_station_69_1 p1]
  have f_69_2 : I3 69 2 = I 69 2 := by rw [f2.1 69 (by omega), eb_station_69_2 p1]
  have f_103_21 : I3 103 21 = I 103 21 := by rw [ek_station_103_21 p2, f1.1 103 (by omega) (by omega)]
  have f_L : L3 103 = L 103 := (eL_station_103 p2).trans (f1.2 103 (by omega) (by omega))
  have f_41_15 : I3 41 15 = I 41 15 := by rw [f2.1 41 (by omega), eb_station_41_15 p1]
  have f_55_15 : I3 55 15 = I 55 15 := by rw [f2.1 55 (by omega), eb_station_55_15 p1]
  have f_103_63 : I3 103 63 = I 103 63 := by rw [ek_station_103_63 p2, f1.1 103 (by omega) (by omega)]
  have f_101_2 : I3 101 2 = I 101 2 := by rw [f2.1 101 (by omega), eb_station_101_2 p1]
  have f_103_68 : I3 103 68 = I 103 68 := by rw [ek_station_103_68 p2, f1.1 103 (by omega) (by omega)]
  have f_102_r : I3 102 = I 102 := by rw [f2.1 102 (by omega), eb_station_102_r p1]
  have f_138_r : I3 138 = I 138 := by rw [ek_station_138_r p2, f1.1 138 (by omega) (by omega)]
  have f_70_5 : I3 70 5 = I 70 5 := by rw [f2.1 70 (by omega), eb_station_70_5 p1]
  have f_103_25 : I3 103 25 = I 103 25 := by rw [ek_station_103_25 p2, f1.1 103 (by omega) (by omega)]
  have f_71_r : I3 71 = I 71 := by rw [f2.1 71 (by omega), eb_station_71_r p1]
  have f_121_r : I3 121 = I 121 := by rw [ek_station_121_r p2, f1.1 121 (by omega) (by omega)]
  have f_129_r : I3 129 = I 129 := by rw [ek_station_129_r p2, f1.1 129 (by omega) (by omega)]
  exact ⟨(by rw [f_32_10, f_103_0]; exact hr.1), hq0, (by rw [f_33_8, f_103_2]; exact hr.2.2.1), (by rw [f_41_13, f_110_0]; exact hr.2.2.2.1), (by rw [f_55_13, f_110_1]; exact hr.2.2.2.2.1), (by rw [f_41_14, f_55_14, f_103_16]; exact hr.2.2.2.2.2.1), (by rw [f_69_0, f_69_1, f_69_2, f_103_21, f_L]; exact hr.2.2.2.2.2.2.1), (by rw [f_41_15, f_55_15, f_103_63]; exact hr.2.2.2.2.2.2.2.1), (by rw [f_101_2, f_103_68]; exact hr.2.2.2.2.2.2.2.2.1), (by rw [f_102_r, f_138_r]; exact hr.2.2.2.2.2.2.2.2.2.1), (by rw [f_70_5, f_103_25]; exact hr.2.2.2.2.2.2.2.2.2.2.1), (by rw [f_71_r, f_121_r]; exact hr.2.2.2.2.2.2.2.2.2.2.2.1), (tw_eq f_129_r fR hr.2.2.2.2.2.2.2.2.2.2.2.2)⟩

theorem relq_sight {v0 v1 v2 v3 v4 : Int32} {x y : Int32} {n : Nat} {I I2 I3 : px_I} {L L2 L3 : px_L} {R : px_R} (hj : jJ n I R) (hr : rel I L R) (f1 : frB I I2 L L2) {R2 : px_R} (fR : kR R I2 R2) (p1 : pb_sight v0 v1 v2 v3 v4 I L x I2 L2) (f2 : frK I2 I3 L2 L3) (p2 : pk_sight v0 v1 v2 v3 v4 I2 L2 y I3 L3) : x = y ∧ (I3 33 8 = I3 103 2) := by
  have h_da : I 32 10 = I 103 0 := hr.1
  have h_st : I 33 7 = I 103 1 := hr.2.1
  have h_si : I 33 8 = I 103 2 := hr.2.2.1
  have h_pA : I 41 13 = I 110 0 := hr.2.2.2.1
  have h_pB : I 55 13 = I 110 1 := hr.2.2.2.2.1
  have h_mk : I 41 14 + I 55 14 = I 103 16 := hr.2.2.2.2.2.1
  have h_ct : I 69 0 = I 103 21 ∧ (0 ≤ I 69 0 ∧ I 69 0 ≤ 30) ∧ (0 ≤ I 69 1 ∧ I 69 1 ≤ 2000009998) ∧ (0 ≤ I 69 2 ∧ I 69 2 ≤ 2000000000) ∧ ((I 69 0 = 0 ∧ I 69 1 = 0 ∧ I 69 2 = 2000000000) ∨ (I 69 0 ≠ 0 ∧ (L 103 22).toInt = (I 69 1).toInt ∧ (L 103 23).toInt = (I 69 2).toInt)) := hr.2.2.2.2.2.2.1
  have h_rp : I 41 15 + I 55 15 = I 103 63 := hr.2.2.2.2.2.2.2.1
  have h_li : I 101 2 = I 103 68 := hr.2.2.2.2.2.2.2.2.1
  have h_tb : ∀ k : Nat, I 102 k = I 138 k := hr.2.2.2.2.2.2.2.2.2.1
  have h_fd : I 70 5 = I 103 25 := hr.2.2.2.2.2.2.2.2.2.2.1
  have h_by : ∀ j : Nat, nb (I 71 j) = nb (I 121 j) := hr.2.2.2.2.2.2.2.2.2.2.2.1
  have h_tw : ∀ k : Nat, k < 6 → I 129 k = (if (R 89 k).isSome = true then 1 else 0) := hr.2.2.2.2.2.2.2.2.2.2.2.2
  unfold pb_sight at p1
  unfold pk_sight at p2
  have s := hj.s
  unfold cSt at s
  have e : I2 103 2 = I 103 2 := by rw [f1.1 103 (by omega) (by omega)]
  have e3 : I3 33 8 = I2 33 8 := by rw [f2.1 33 (by omega)]
  have e7 : I2 103 1 = I 33 7 := by rw [f1.1 103 (by omega) (by omega)]; exact h_st.symm
  have e8 : I2 103 2 = I 33 8 := e.trans h_si.symm
  rw [e7, e8] at p2
  rcases p1.2 with ⟨a1, a2, a3⟩ | ⟨a1, a2, a3⟩
  · rcases p2.2 with ⟨b1, b2, b3⟩ | ⟨b1, b2, b3⟩
    · exact ⟨by rw [a2, b2], by rw [e3, b3, px_u_at, a3, px_u_at]⟩
    · exact absurd ⟨a1.1, ⟨a1.2.2.1.1, by grind⟩, ⟨a1.2.2.2.1.1, by grind⟩, a1.2.2.2.2.1, ⟨a1.2.1.1, by grind⟩, a1.2.1.2, by grind⟩ b1
  · rcases p2.2 with ⟨b1, b2, b3⟩ | ⟨b1, b2, b3⟩
    · exact absurd ⟨b1.1, ⟨b1.2.2.2.2.1.1, b1.2.2.2.2.2.1⟩, ⟨b1.2.1.1, by grind⟩, ⟨b1.2.2.1.1, by grind⟩, b1.2.2.2.1, by grind⟩ a1
    · exact ⟨by rw [a2, b2], by rw [e3, b3, e8, a3]⟩

theorem rel.sight {v0 v1 v2 v3 v4 : Int32} {x y : Int32} {n : Nat} {I I2 I3 : px_I} {L L2 L3 : px_L} {R : px_R} (hj : jJ n I R) (hr : rel I L R) (f1 : frB I I2 L L2) {R2 : px_R} (fR : kR R I2 R2) (p1 : pb_sight v0 v1 v2 v3 v4 I L x I2 L2) (f2 : frK I2 I3 L2 L3) (p2 : pk_sight v0 v1 v2 v3 v4 I2 L2 y I3 L3) : rel I3 L3 R2 := by
  have hq0 := (relq_sight hj hr f1 fR p1 f2 p2).2
  have f_32_10 : I3 32 10 = I 32 10 := by rw [f2.1 32 (by omega), eb_sight_32_10 p1]
  have f_103_0 : I3 103 0 = I 103 0 := by rw [ek_sight_103_0 p2, f1.1 103 (by omega) (by omega)]
  have f_33_7 : I3 33 7 = I 33 7 := by rw [f2.1 33 (by omega), eb_sight_33_7 p1]
  have f_103_1 : I3 103 1 = I 103 1 := by rw [ek_sight_103_1 p2, f1.1 103 (by omega) (by omega)]
  have f_41_13 : I3 41 13 = I 41 13 := by rw [f2.1 41 (by omega), eb_sight_41_13 p1]
  have f_110_0 : I3 110 0 = I 110 0 := by rw [ek_sight_110_0 p2, f1.1 110 (by omega) (by omega)]
  have f_55_13 : I3 55 13 = I 55 13 := by rw [f2.1 55 (by omega), eb_sight_55_13 p1]
  have f_110_1 : I3 110 1 = I 110 1 := by rw [ek_sight_110_1 p2, f1.1 110 (by omega) (by omega)]
  have f_41_14 : I3 41 14 = I 41 14 := by rw [f2.1 41 (by omega), eb_sight_41_14 p1]
  have f_55_14 : I3 55 14 = I 55 14 := by rw [f2.1 55 (by omega), eb_sight_55_14 p1]
  have f_103_16 : I3 103 16 = I 103 16 := by rw [ek_sight_103_16 p2, f1.1 103 (by omega) (by omega)]
  have f_69_0 : I3 69 0 = I 69 0 := by rw [f2.1 69 (by omega), eb_sight_69_0 p1]
  have f_69_1 : I3 69 1 = I 69 1 := by rw [f2.1 69 (by omega), eb_sight_69_1 p1]
  have f_69_2 : I3 69 2 = I 69 2 := by rw [f2.1 69 (by omega), eb_sight_69_2 p1]
  have f_103_21 : I3 103 21 = I 103 21 := by rw [ek_sight_103_21 p2, f1.1 103 (by omega) (by omega)]
  have f_L : L3 103 = L 103 := (eL_sight_103 p2).trans (f1.2 103 (by omega) (by omega))
  have f_41_15 : I3 41 15 = I 41 15 := by rw [f2.1 41 (by omega), eb_sight_41_15 p1]
  have f_55_15 : I3 55 15 = I 55 15 := by rw [f2.1 55 (by omega), eb_sight_55_15 p1]
  have f_103_63 : I3 103 63 = I 103 63 := by rw [ek_sight_103_63 p2, f1.1 103 (by omega) (by omega)]
  have f_101_2 : I3 101 2 = I 101 2 := by rw [f2.1 101 (by omega), eb_sight_101_2 p1]
  have f_103_68 : I3 103 68 = I 103 68 := by rw [ek_sight_103_68 p2, f1.1 103 (by omega) (by omega)]
  have f_102_r : I3 102 = I 102 := by rw [f2.1 102 (by omega), eb_sight_102_r p1]
  have f_138_r : I3 138 = I 138 := by rw [ek_sight_138_r p2, f1.1 138 (by omega) (by omega)]
  have f_70_5 : I3 70 5 = I 70 5 := by rw [f2.1 70 (by omega), eb_sight_70_5 p1]
  have f_103_25 : I3 103 25 = I 103 25 := by rw [ek_sight_103_25 p2, f1.1 103 (by omega) (by omega)]
  have f_71_r : I3 71 = I 71 := by rw [f2.1 71 (by omega), eb_sight_71_r p1]
  have f_121_r : I3 121 = I 121 := by rw [ek_sight_121_r p2, f1.1 121 (by omega) (by omega)]
  have f_129_r : I3 129 = I 129 := by rw [ek_sight_129_r p2, f1.1 129 (by omega) (by omega)]
  exact ⟨(by rw [f_32_10, f_103_0]; exact hr.1), (by rw [f_33_7, f_103_1]; exact hr.2.1), hq0, (by rw [f_41_13, f_110_0]; exact hr.2.2.2.1), (by rw [f_55_13, f_110_1]; exact hr.2.2.2.2.1), (by rw [f_41_14, f_55_14, f_103_16]; exact hr.2.2.2.2.2.1), (by rw [f_69_0, f_69_1, f_69_2, f_103_21, f_L]; exact hr.2.2.2.2.2.2.1), (by rw [f_41_15, f_55_15, f_103_63]; exact hr.2.2.2.2.2.2.2.1), (by rw [f_101_2, f_103_68]; exact hr.2.2.2.2.2.2.2.2.1), (by rw [f_102_r, f_138_r]; exact hr.2.2.2.2.2.2.2.2.2.1), (by rw [f_70_5, f_103_25]; exact hr.2.2.2.2.2.2.2.2.2.2.1), (by rw [f_71_r, f_121_r]; exact hr.2.2.2.2.2.2.2.2.2.2.2.1), (tw_eq f_129_r fR hr.2.2.2.2.2.2.2.2.2.2.2.2)⟩

theorem rel.closed {v0 v1 : Int32} {x y : Int32} {n : Nat} {I I2 I3 : px_I} {L L2 L3 : px_L} {R : px_R} (hj : jJ n I R) (hr : rel I L R) (f1 : frB I I2 L L2) {R2 : px_R} (fR : kR R I2 R2) (p1 : pb_closed v0 v1 I L x I2 L2) (f2 : frK I2 I3 L2 L3) (p2 : pk_closed v0 v1 I2 L2 y I3 L3) : rel I3 L3 R2 := by
  have f_32_10 : I3 32 10 = I 32 10 := by rw [f2.1 32 (by omega), eb_closed_32_10 p1]
  have f_103_0 : I3 103 0 = I 103 0 := by rw [ek_closed_103_0 p2, f1.1 103 (by omega) (by omega)]
  have f_33_7 : I3 33 7 = I 33 7 := by rw [f2.1 33 (by omega), eb_closed_33_7 p1]
  have f_103_1 : I3 103 1 = I 103 1 := by rw [ek_closed_103_1 p2, f1.1 103 (by omega) (by omega)]
  have f_33_8 : I3 33 8 = I 33 8 := by rw [f2.1 33 (by omega), eb_closed_33_8 p1]
  have f_103_2 : I3 103 2 = I 103 2 := by rw [ek_closed_103_2 p2, f1.1 103 (by omega) (by omega)]
  have f_41_13 : I3 41 13 = I 41 13 := by rw [f2.1 41 (by omega), eb_closed_41_13 p1]
  have f_110_0 : I3 110 0 = I 110 0 := by rw [ek_closed_110_0 p2, f1.1 110 (by omega) (by omega)]
  have f_55_13 : I3 55 13 = I 55 13 := by rw [f2.1 55 (by omega), eb_closed_55_13 p1]
  have f_110_1 : I3 110 1 = I 110 1 := by rw [ek_closed_110_1 p2, f1.1 110 (by omega) (by omega)]
  have f_41_14 : I3 41 14 = I 41 14 := by rw [f2.1 41 (by omega), eb_closed_41_14 p1]
  have f_55_14 : I3 55 14 = I 55 14 := by rw [f2.1 55 (by omega), eb_closed_55_14 p1]
  have f_103_16 : I3 103 16 = I 103 16 := by rw [ek_closed_103_16 p2, f1.1 103 (by omega) (by omega)]
  have f_69_0 : I3 69 0 = I 69 0 := by rw [f2.1 69 (by omega), eb_closed_69_0 p1]
  have f_69_1 : I3 69 1 = I 69 1 := by rw [f2.1 69 (by omega), eb_closed_69_1 p1]
  have f_69_2 : I3 69 2 = I 69 2 := by rw [f2.1 69 (by omega), eb_closed_69_2 p1]
  have f_103_21 : I3 103 21 = I 103 21 := by rw [ek_closed_103_21 p2, f1.1 103 (by omega) (by omega)]
  have f_L : L3 103 = L 103 := (eL_closed_103 p2).trans (f1.2 103 (by omega) (by omega))
  have f_41_15 : I3 41 15 = I 41 15 := by rw [f2.1 41 (by omega), eb_closed_41_15 p1]
  have f_55_15 : I3 55 15 = I 55 15 := by rw [f2.1 55 (by omega), eb_closed_55_15 p1]
  have f_103_63 : I3 103 63 = I 103 63 := by rw [ek_closed_103_63 p2, f1.1 103 (by omega) (by omega)]
  have f_101_2 : I3 101 2 = I 101 2 := by rw [f2.1 101 (by omega), eb_closed_101_2 p1]
  have f_103_68 : I3 103 68 = I 103 68 := by rw [ek_closed_103_68 p2, f1.1 103 (by omega) (by omega)]
  have f_102_r : I3 102 = I 102 := by rw [f2.1 102 (by omega), eb_closed_102_r p1]
  have f_138_r : I3 138 = I 138 := by rw [ek_closed_138_r p2, f1.1 138 (by omega) (by omega)]
  have f_70_5 : I3 70 5 = I 70 5 := by rw [f2.1 70 (by omega), eb_closed_70_5 p1]
  have f_103_25 : I3 103 25 = I 103 25 := by rw [ek_closed_103_25 p2, f1.1 103 (by omega) (by omega)]
  have f_71_r : I3 71 = I 71 := by rw [f2.1 71 (by omega), eb_closed_71_r p1]
  have f_121_r : I3 121 = I 121 := by rw [ek_closed_121_r p2, f1.1 121 (by omega) (by omega)]
  have f_129_r : I3 129 = I 129 := by rw [ek_closed_129_r p2, f1.1 129 (by omega) (by omega)]
  exact ⟨(by rw [f_32_10, f_103_0]; exact hr.1), (by rw [f_33_7, f_103_1]; exact hr.2.1), (by rw [f_33_8, f_103_2]; exact hr.2.2.1), (by rw [f_41_13, f_110_0]; exact hr.2.2.2.1), (by rw [f_55_13, f_110_1]; exact hr.2.2.2.2.1), (by rw [f_41_14, f_55_14, f_103_16]; exact hr.2.2.2.2.2.1), (by rw [f_69_0, f_69_1, f_69_2, f_103_21, f_L]; exact hr.2.2.2.2.2.2.1), (by rw [f_41_15, f_55_15, f_103_63]; exact hr.2.2.2.2.2.2.2.1), (by rw [f_101_2, f_103_68]; exact hr.2.2.2.2.2.2.2.2.1), (by rw [f_102_r, f_138_r]; exact hr.2.2.2.2.2.2.2.2.2.1), (by rw [f_70_5, f_103_25]; exact hr.2.2.2.2.2.2.2.2.2.2.1), (by rw [f_71_r, f_121_r]; exact hr.2.2.2.2.2.2.2.2.2.2.2.1), (tw_eq f_129_r fR hr.2.2.2.2.2.2.2.2.2.2.2.2)⟩

theorem rel.span {v0 v1 v2 v3 : Int32} {x y : Int32} {n : Nat} {I I2 I3 : px_I} {L L2 L3 : px_L} {R : px_R} (hj : jJ n I R) (hr : rel I L R) (f1 : frB I I2 L L2) {R2 : px_R} (fR : kR R I2 R2) (p1 : pb_span v0 v1 v2 v3 I L x I2 L2) (f2 : frK I2 I3 L2 L3) (p2 : pk_span v0 v1 v2 v3 I2 L2 y I3 L3) : rel I3 L3 R2 := by
  have f_32_10 : I3 32 10 = I 32 10 := by rw [f2.1 32 (by omega), eb_span_32_10 p1]
  have f_103_0 : I3 103 0 = I 103 0 := by rw [ek_span_103_0 p2, f1.1 103 (by omega) (by omega)]
  have f_33_7 : I3 33 7 = I 33 7 := by rw [f2.1 33 (by omega), eb_span_33_7 p1]
  have f_103_1 : I3 103 1 = I 103 1 := by rw [ek_span_103_1 p2, f1.1 103 (by omega) (by omega)]
  have f_33_8 : I3 33 8 = I 33 8 := by rw [f2.1 33 (by omega), eb_span_33_8 p1]
  have f_103_2 : I3 103 2 = I 103 2 := by rw [ek_span_103_2 p2, f1.1 103 (by omega) (by omega)]
  have f_41_13 : I3 41 13 = I 41 13 := by rw [f2.1 41 (by omega), eb_span_41_13 p1]
  have f_110_0 : I3 110 0 = I 110 0 := by rw [ek_span_110_0 p2, f1.1 110 (by omega) (by omega)]
  have f_55_13 : I3 55 13 = I 55 13 := by rw [f2.1 55 (by omega), eb_span_55_13 p1]
  have f_110_1 : I3 110 1 = I 110 1 := by rw [ek_span_110_1 p2, f1.1 110 (by omega) (by omega)]
  have f_41_14 : I3 41 14 = I 41 14 := by rw [f2.1 41 (by omega), eb_span_41_14 p1]
  have f_55_14 : I3 55 14 = I 55 14 := by rw [f2.1 55 (by omega), eb_span_55_14 p1]
  have f_103_16 : I3 103 16 = I 103 16 := by rw [ek_span_103_16 p2, f1.1 103 (by omega) (by omega)]
  have f_69_0 : I3 69 0 = I 69 0 := by rw [f2.1 69 (by omega), eb_span_69_0 p1]
  have f_69_1 : I3 69 1 = I 69 1 := by rw [f2.1 69 (by omega), eb_span_69_1 p1]
  have f_69_2 : I3 69 2 = I 69 2 := by rw [f2.1 69 (by omega), eb_span_69_2 p1]
  have f_103_21 : I3 103 21 = I 103 21 := by rw [ek_span_103_21 p2, f1.1 103 (by omega) (by omega)]
  have f_L : L3 103 = L 103 := (eL_span_103 p2).trans (f1.2 103 (by omega) (by omega))
  have f_41_15 : I3 41 15 = I 41 15 := by rw [f2.1 41 (by omega), eb_span_41_15 p1]
  have f_55_15 : I3 55 15 = I 55 15 := by rw [f2.1 55 (by omega), eb_span_55_15 p1]
  have f_103_63 : I3 103 63 = I 103 63 := by rw [ek_span_103_63 p2, f1.1 103 (by omega) (by omega)]
  have f_101_2 : I3 101 2 = I 101 2 := by rw [f2.1 101 (by omega), eb_span_101_2 p1]
  have f_103_68 : I3 103 68 = I 103 68 := by rw [ek_span_103_68 p2, f1.1 103 (by omega) (by omega)]
  have f_102_r : I3 102 = I 102 := by rw [f2.1 102 (by omega), eb_span_102_r p1]
  have f_138_r : I3 138 = I 138 := by rw [ek_span_138_r p2, f1.1 138 (by omega) (by omega)]
  have f_70_5 : I3 70 5 = I 70 5 := by rw [f2.1 70 (by omega), eb_span_70_5 p1]
  have f_103_25 : I3 103 25 = I 103 25 := by rw [ek_span_103_25 p2, f1.1 103 (by omega) (by omega)]
  have f_71_r : I3 71 = I 71 := by rw [f2.1 71 (by omega), eb_span_71_r p1]
  have f_121_r : I3 121 = I 121 := by rw [ek_span_121_r p2, f1.1 121 (by omega) (by omega)]
  have f_129_r : I3 129 = I 129 := by rw [ek_span_129_r p2, f1.1 129 (by omega) (by omega)]
  exact ⟨(by rw [f_32_10, f_103_0]; exact hr.1), (by rw [f_33_7, f_103_1]; exact hr.2.1), (by rw [f_33_8, f_103_2]; exact hr.2.2.1), (by rw [f_41_13, f_110_0]; exact hr.2.2.2.1), (by rw [f_55_13, f_110_1]; exact hr.2.2.2.2.1), (by rw [f_41_14, f_55_14, f_103_16]; exact hr.2.2.2.2.2.1), (by rw [f_69_0, f_69_1, f_69_2, f_103_21, f_L]; exact hr.2.2.2.2.2.2.1), (by rw [f_41_15, f_55_15, f_103_63]; exact hr.2.2.2.2.2.2.2.1), (by rw [f_101_2, f_103_68]; exact hr.2.2.2.2.2.2.2.2.1), (by rw [f_102_r, f_138_r]; exact hr.2.2.2.2.2.2.2.2.2.1), (by rw [f_70_5, f_103_25]; exact hr.2.2.2.2.2.2.2.2.2.2.1), (by rw [f_71_r, f_121_r]; exact hr.2.2.2.2.2.2.2.2.2.2.2.1), (tw_eq f_129_r fR hr.2.2.2.2.2.2.2.2.2.2.2.2)⟩

theorem rel.gap {v0 v1 v2 v3 v4 : Int32} {x y : Int32} {n : Nat} {I I2 I3 : px_I} {L L2 L3 : px_L} {R : px_R} (hj : jJ n I R) (hr : rel I L R) (f1 : frB I I2 L L2) {R2 : px_R} (fR : kR R I2 R2) (p1 : pb_gap v0 v1 v2 v3 v4 I L x I2 L2) (f2 : frK I2 I3 L2 L3) (p2 : pk_gap v0 v1 v2 v3 v4 I2 L2 y I3 L3) : rel I3 L3 R2 := by
  have f_32_10 : I3 32 10 = I 32 10 := by rw [f2.1 32 (by omega), eb_gap_32_10 p1]
  have f_103_0 : I3 103 0 = I 103 0 := by rw [ek_gap_103_0 p2, f1.1 103 (by omega) (by omega)]
  have f_33_7 : I3 33 7 = I 33 7 := by rw [f2.1 33 (by omega), eb_gap_33_7 p1]
  have f_103_1 : I3 103 1 = I 103 1 := by rw [ek_gap_103_1 p2, f1.1 103 (by omega) (by omega)]
  have f_33_8 : I3 33 8 = I 33 8 := by rw [f2.1 33 (by omega), eb_gap_33_8 p1]
  have f_103_2 : I3 103 2 = I 103 2 := by rw [ek_gap_103_2 p2, f1.1 103 (by omega) (by omega)]
  have f_41_13 : I3 41 13 = I 41 13 := by rw [f2.1 41 (by omega), eb_gap_41_13 p1]
  have f_110_0 : I3 110 0 = I 110 0 := by rw [ek_gap_110_0 p2, f1.1 110 (by omega) (by omega)]
  have f_55_13 : I3 55 13 = I 55 13 := by rw [f2.1 55 (by omega), eb_gap_55_13 p1]
  have f_110_1 : I3 110 1 = I 110 1 := by rw [ek_gap_110_1 p2, f1.1 110 (by omega) (by omega)]
  have f_41_14 : I3 41 14 = I 41 14 := by rw [f2.1 41 (by omega), eb_gap_41_14 p1]
  have f_55_14 : I3 55 14 = I 55 14 := by rw [f2.1 55 (by omega), eb_gap_55_14 p1]
  have f_103_16 : I3 103 16 = I 103 16 := by rw [ek_gap_103_16 p2, f1.1 103 (by omega) (by omega)]
  have f_69_0 : I3 69 0 = I 69 0 := by rw [f2.1 69 (by omega), eb_gap_69_0 p1]
  have f_69_1 : I3 69 1 = I 69 1 := by rw [f2.1 69 (by omega), eb_gap_69_1 p1]
  have f_69_2 : I3 69 2 = I 69 2 := by rw [f2.1 69 (by omega), eb_gap_69_2 p1]
  have f_103_21 : I3 103 21 = I 103 21 := by rw [ek_gap_103_21 p2, f1.1 103 (by omega) (by omega)]
  have f_L : L3 103 = L 103 := (eL_gap_103 p2).trans (f1.2 103 (by omega) (by omega))
  have f_41_15 : I3 41 15 = I 41 15 := by rw [f2.1 41 (by omega), eb_gap_41_15 p1]
  have f_55_15 : I3 55 15 = I 55 15 := by rw [f2.1 55 (by omega), eb_gap_55_15 p1]
  have f_103_63 : I3 103 63 = I 103 63 := by rw [ek_gap_103_63 p2, f1.1 103 (by omega) (by omega)]
  have f_101_2 : I3 101 2 = I 101 2 := by rw [f2.1 101 (by omega), eb_gap_101_2 p1]
  have f_103_68 : I3 103 68 = I 103 68 := by rw [ek_gap_103_68 p2, f1.1 103 (by omega) (by omega)]
  have f_102_r : I3 102 = I 102 := by rw [f2.1 102 (by omega), eb_gap_102_r p1]
  have f_138_r : I3 138 = I 138 := by rw [ek_gap_138_r p2, f1.1 138 (by omega) (by omega)]
  have f_70_5 : I3 70 5 = I 70 5 := by rw [f2.1 70 (by omega), eb_gap_70_5 p1]
  have f_103_25 : I3 103 25 = I 103 25 := by rw [ek_gap_103_25 p2, f1.1 103 (by omega) (by omega)]
  have f_71_r : I3 71 = I 71 := by rw [f2.1 71 (by omega), eb_gap_71_r p1]
  have f_121_r : I3 121 = I 121 := by rw [ek_gap_121_r p2, f1.1 121 (by omega) (by omega)]
  have f_129_r : I3 129 = I 129 := by rw [ek_gap_129_r p2, f1.1 129 (by omega) (by omega)]
  exact ⟨(by rw [f_32_10, f_103_0]; exact hr.1), (by rw [f_33_7, f_103_1]; exact hr.2.1), (by rw [f_33_8, f_103_2]; exact hr.2.2.1), (by rw [f_41_13, f_110_0]; exact hr.2.2.2.1), (by rw [f_55_13, f_110_1]; exact hr.2.2.2.2.1), (by rw [f_41_14, f_55_14, f_103_16]; exact hr.2.2.2.2.2.1), (by rw [f_69_0, f_69_1, f_69_2, f_103_21, f_L]; exact hr.2.2.2.2.2.2.1), (by rw [f_41_15, f_55_15, f_103_63]; exact hr.2.2.2.2.2.2.2.1), (by rw [f_101_2, f_103_68]; exact hr.2.2.2.2.2.2.2.2.1), (by rw [f_102_r, f_138_r]; exact hr.2.2.2.2.2.2.2.2.2.1), (by rw [f_70_5, f_103_25]; exact hr.2.2.2.2.2.2.2.2.2.2.1), (by rw [f_71_r, f_121_r]; exact hr.2.2.2.2.2.2.2.2.2.2.2.1), (tw_eq f_129_r fR hr.2.2.2.2.2.2.2.2.2.2.2.2)⟩

theorem rel.blamed {v0 v1 v2 : Int32} {x y : Int32} {n : Nat} {I I2 I3 : px_I} {L L2 L3 : px_L} {R : px_R} (hj : jJ n I R) (hr : rel I L R) (f1 : frB I I2 L L2) {R2 : px_R} (fR : kR R I2 R2) (p1 : pb_blamed v0 v1 v2 I L x I2 L2) (f2 : frK I2 I3 L2 L3) (p2 : pk_blamed v0 v1 v2 I2 L2 y I3 L3) : rel I3 L3 R2 := by
  have f_32_10 : I3 32 10 = I 32 10 := by rw [f2.1 32 (by omega), eb_blamed_32_10 p1]
  have f_103_0 : I3 103 0 = I 103 0 := by rw [ek_blamed_103_0 p2, f1.1 103 (by omega) (by omega)]
  have f_33_7 : I3 33 7 = I 33 7 := by rw [f2.1 33 (by omega), eb_blamed_33_7 p1]
  have f_103_1 : I3 103 1 = I 103 1 := by rw [ek_blamed_103_1 p2, f1.1 103 (by omega) (by omega)]
  have f_33_8 : I3 33 8 = I 33 8 := by rw [f2.1 33 (by omega), eb_blamed_33_8 p1]
  have f_103_2 : I3 103 2 = I 103 2 := by rw [ek_blamed_103_2 p2, f1.1 103 (by omega) (by omega)]
  have f_41_13 : I3 41 13 = I 41 13 := by rw [f2.1 41 (by omega), eb_blamed_41_13 p1]
  have f_110_0 : I3 110 0 = I 110 0 := by rw [ek_blamed_110_0 p2, f1.1 110 (by omega) (by omega)]
  have f_55_13 : I3 55 13 = I 55 13 := by rw [f2.1 55 (by omega), eb_blamed_55_13 p1]
  have f_110_1 : I3 110 1 = I 110 1 := by rw [ek_blamed_110_1 p2, f1.1 110 (by omega) (by omega)]
  have f_41_14 : I3 41 14 = I 41 14 := by rw [f2.1 41 (by omega), eb_blamed_41_14 p1]
  have f_55_14 : I3 55 14 = I 55 14 := by rw [f2.1 55 (by omega), eb_blamed_55_14 p1]
  have f_103_16 : I3 103 16 = I 103 16 := by rw [ek_blamed_103_16 p2, f1.1 103 (by omega) (by omega)]
  have f_69_0 : I3 69 0 = I 69 0 := by rw [f2.1 69 (by omega), eb_blamed_69_0 p1]
  have f_69_1 : I3 69 1 = I 69 1 := by rw [f2.1 69 (by omega), eb_blamed_69_1 p1]
  have f_69_2 : I3 69 2 = I 69 2 := by rw [f2.1 69 (by omega), eb_blamed_69_2 p1]
  have f_103_21 : I3 103 21 = I 103 21 := by rw [ek_blamed_103_21 p2, f1.1 103 (by omega) (by omega)]
  have f_L : L3 103 = L 103 := (eL_blamed_103 p2).trans (f1.2 103 (by omega) (by omega))
  have f_41_15 : I3 41 15 = I 41 15 := by rw [f2.1 41 (by omega), eb_blamed_41_15 p1]
  have f_55_15 : I3 55 15 = I 55 15 := by rw [f2.1 55 (by omega), eb_blamed_55_15 p1]
  have f_103_63 : I3 103 63 = I 103 63 := by rw [ek_blamed_103_63 p2, f1.1 103 (by omega) (by omega)]
  have f_101_2 : I3 101 2 = I 101 2 := by rw [f2.1 101 (by omega), eb_blamed_101_2 p1]
  have f_103_68 : I3 103 68 = I 103 68 := by rw [ek_blamed_103_68 p2, f1.1 103 (by omega) (by omega)]
  have f_102_r : I3 102 = I 102 := by rw [f2.1 102 (by omega), eb_blamed_102_r p1]
  have f_138_r : I3 138 = I 138 := by rw [ek_blamed_138_r p2, f1.1 138 (by omega) (by omega)]
  have f_70_5 : I3 70 5 = I 70 5 := by rw [f2.1 70 (by omega), eb_blamed_70_5 p1]
  have f_103_25 : I3 103 25 = I 103 25 := by rw [ek_blamed_103_25 p2, f1.1 103 (by omega) (by omega)]
  have f_71_r : I3 71 = I 71 := by rw [f2.1 71 (by omega), eb_blamed_71_r p1]
  have f_121_r : I3 121 = I 121 := by rw [ek_blamed_121_r p2, f1.1 121 (by omega) (by omega)]
  have f_129_r : I3 129 = I 129 := by rw [ek_blamed_129_r p2, f1.1 129 (by omega) (by omega)]
  exact ⟨(by rw [f_32_10, f_103_0]; exact hr.1), (by rw [f_33_7, f_103_1]; exact hr.2.1), (by rw [f_33_8, f_103_2]; exact hr.2.2.1), (by rw [f_41_13, f_110_0]; exact hr.2.2.2.1), (by rw [f_55_13, f_110_1]; exact hr.2.2.2.2.1), (by rw [f_41_14, f_55_14, f_103_16]; exact hr.2.2.2.2.2.1), (by rw [f_69_0, f_69_1, f_69_2, f_103_21, f_L]; exact hr.2.2.2.2.2.2.1), (by rw [f_41_15, f_55_15, f_103_63]; exact hr.2.2.2.2.2.2.2.1), (by rw [f_101_2, f_103_68]; exact hr.2.2.2.2.2.2.2.2.1), (by rw [f_102_r, f_138_r]; exact hr.2.2.2.2.2.2.2.2.2.1), (by rw [f_70_5, f_103_25]; exact hr.2.2.2.2.2.2.2.2.2.2.1), (by rw [f_71_r, f_121_r]; exact hr.2.2.2.2.2.2.2.2.2.2.2.1), (tw_eq f_129_r fR hr.2.2.2.2.2.2.2.2.2.2.2.2)⟩

theorem relq_reach {v0 v1 v2 v3 v4 v5 v6 : Int32} {x y : Int32} {n : Nat} {I I2 I3 : px_I} {L L2 L3 : px_L} {R : px_R} (hj : jJ n I R) (hr : rel I L R) (f1 : frB I I2 L L2) {R2 : px_R} (fR : kR R I2 R2) (p1 : pb_reach v0 v1 v2 v3 v4 v5 v6 I L x I2 L2) (f2 : frK I2 I3 L2 L3) (p2 : pk_reach v0 v1 v2 v3 v4 v5 v6 I2 L2 y I3 L3) : x = y ∧ (I3 41 13 = I3 110 0) ∧ (I3 55 13 = I3 110 1) := by
  have h_da : I 32 10 = I 103 0 := hr.1
  have h_st : I 33 7 = I 103 1 := hr.2.1
  have h_si : I 33 8 = I 103 2 := hr.2.2.1
  have h_pA : I 41 13 = I 110 0 := hr.2.2.2.1
  have h_pB : I 55 13 = I 110 1 := hr.2.2.2.2.1
  have h_mk : I 41 14 + I 55 14 = I 103 16 := hr.2.2.2.2.2.1
  have h_ct : I 69 0 = I 103 21 ∧ (0 ≤ I 69 0 ∧ I 69 0 ≤ 30) ∧ (0 ≤ I 69 1 ∧ I 69 1 ≤ 2000009998) ∧ (0 ≤ I 69 2 ∧ I 69 2 ≤ 2000000000) ∧ ((I 69 0 = 0 ∧ I 69 1 = 0 ∧ I 69 2 = 2000000000) ∨ (I 69 0 ≠ 0 ∧ (L 103 22).toInt = (I 69 1).toInt ∧ (L 103 23).toInt = (I 69 2).toInt)) := hr.2.2.2.2.2.2.1
  have h_rp : I 41 15 + I 55 15 = I 103 63 := hr.2.2.2.2.2.2.2.1
  have h_li : I 101 2 = I 103 68 := hr.2.2.2.2.2.2.2.2.1
  have h_tb : ∀ k : Nat, I 102 k = I 138 k := hr.2.2.2.2.2.2.2.2.2.1
  have h_fd : I 70 5 = I 103 25 := hr.2.2.2.2.2.2.2.2.2.2.1
  have h_by : ∀ j : Nat, nb (I 71 j) = nb (I 121 j) := hr.2.2.2.2.2.2.2.2.2.2.2.1
  have h_tw : ∀ k : Nat, k < 6 → I 129 k = (if (R 89 k).isSome = true then 1 else 0) := hr.2.2.2.2.2.2.2.2.2.2.2.2
  unfold pb_reach at p1
  unfold pk_reach at p2
  have hl := hj.l
  unfold cGal at hl
  have e0 : I2 110 = I 110 := f1.1 110 (by omega) (by omega)
  have e1 : I2 103 = I 103 := f1.1 103 (by omega) (by omega)
  have hc : ∀ G, bG v0 G → I G 13 = I 110 v0.toNatClampNeg := by
    rintro G (⟨q1, q2⟩ | ⟨q1, q2⟩)
    · rw [q1, q2, px_n0]; exact h_pA
    · rw [q1, q2, px_n1]; exact h_pB
  have e5 : I3 41 = I2 41 := f2.1 41 (by omega)
  have e6 : I3 55 = I2 55 := f2.1 55 (by omega)
  rcases p1.2 with ⟨G, ⟨g1, g2, g3⟩, a2, a3⟩ | ⟨a1, a2, a3⟩
  · have c := hc G g1
    have m : mP0 I2 v0 = if I G 13 = 0 then 1 else I G 13 := by unfold mP0; rw [e0, c]
    rcases p2.2 with ⟨b1, b2, b3⟩ | ⟨b1, b2, b3⟩
    · refine ⟨by rw [a2, b2, m], ?_⟩
      rw [e5, e6, b3]
      rcases g1 with ⟨q1, q2⟩ | ⟨q1, q2⟩
      · subst q1; subst q2
        have k1 := @mReach_p I2 0 v1 v2 v3 v4 v5 v6
        rw [px_n0] at k1
        rw [k1, mReach_q (by decide), e0, m, a3, cReach_p, cReach_o (by omega)]
        exact ⟨rfl, h_pB⟩
      · subst q1; subst q2
        have k1 := @mReach_p I2 1 v1 v2 v3 v4 v5 v6
        rw [px_n1] at k1
        rw [k1, mReach_q (by decide), e0, m, a3, cReach_p, cReach_o (by omega)]
        exact ⟨h_pA, rfl⟩
    · refine absurd ?_ b1
      obtain ⟨r1, r2, r3, r4⟩ := g3
      refine ⟨bG_le g1, ⟨r1.1, by grind⟩, r1.2, ⟨r2.1, by grind⟩, r2.2, r3, ?_, ?_⟩
      · rw [e1, ← h_st]
        rcases g2 with h | h
        · exact Or.inl h
        · exact Or.inr ⟨h.1, by have s := hj.s; unfold cSt at s; grind⟩
      · rw [e0, ← c]; intro h; rw [h] at r4; exact absurd r4 (by decide)
  · rcases p2.2 with ⟨b1, b2, b3⟩ | ⟨b1, b2, b3⟩
    · refine absurd ?_ a1
      obtain ⟨r0, r1, r2, r3, r4, r5, r6, r7⟩ := b1
      obtain ⟨G, g1⟩ := bG_01 r0.1 r0.2
      have c := hc G g1
      rw [e0, ← c] at r7
      refine ⟨G, g1, ?_, ⟨r1.1, r2⟩, ⟨r3.1, r4⟩, r5, ?_⟩
      · rw [e1, ← h_st] at r6
        rcases r6 with h | h
        · exact Or.inl h
        · exact Or.inr ⟨h.1, by have s := hj.s; unfold cSt at s; grind⟩
      · have : I G 13 ≤ 20 := by rcases g1 with ⟨q1, q2⟩ | ⟨q1, q2⟩ <;> rw [q2] <;> first | exact hl.1.1.2 | exact hl.2.1.2
        grind
    · refine ⟨by rw [a2, b2], ?_⟩
      rw [e5, e6, b3, e0, a3]
      exact ⟨h_pA, h_pB⟩

theorem rel.reach {v0 v1 v2 v3 v4 v5 v6 : Int32} {x y : Int32} {n : Nat} {I I2 I3 : px_I} {L L2 L3 : px_L} {R : px_R} (hj : jJ n I R) (hr : rel I L R) (f1 : frB I I2 L L2) {R2 : px_R} (fR : kR R I2 R2) (p1 : pb_reach v0 v1 v2 v3 v4 v5 v6 I L x I2 L2) (f2 : frK I2 I3 L2 L3) (p2 : pk_reach v0 v1 v2 v3 v4 v5 v6 I2 L2 y I3 L3) : rel I3 L3 R2 := by
  have hq0 := (relq_reach hj hr f1 fR p1 f2 p2).2
  have f_32_10 : I3 32 10 = I 32 10 := by rw [f2.1 32 (by omega), eb_reach_32_10 p1]
  have f_103_0 : I3 103 0 = I 103 0 := by rw [ek_reach_103_0 p2, f1.1 103 (by omega) (by omega)]
  have f_33_7 : I3 33 7 = I 33 7 := by rw [f2.1 33 (by omega), eb_reach_33_7 p1]
  have f_103_1 : I3 103 1 = I 103 1 := by rw [ek_reach_103_1 p2, f1.1 103 (by omega) (by omega)]
  have f_33_8 : I3 33 8 = I 33 8 := by rw [f2.1 33 (by omega), eb_reach_33_8 p1]
  have f_103_2 : I3 103 2 = I 103 2 := by rw [ek_reach_103_2 p2, f1.1 103 (by omega) (by omega)]
  have f_41_14 : I3 41 14 = I 41 14 := by rw [f2.1 41 (by omega), eb_reach_41_14 p1]
  have f_55_14 : I3 55 14 = I 55 14 := by rw [f2.1 55 (by omega), eb_reach_55_14 p1]
  have f_103_16 : I3 103 16 = I 103 16 := by rw [ek_reach_103_16 p2, f1.1 103 (by omega) (by omega)]
  have f_69_0 : I3 69 0 = I 69 0 := by rw [f2.1 69 (by omega), eb_reach_69_0 p1]
  have f_69_1 : I3 69 1 = I 69 1 := by rw [f2.1 69 (by omega), eb_reach_69_1 p1]
  have f_69_2 : I3 69 2 = I 69 2 := by rw [f2.1 69 (by omega), eb_reach_69_2 p1]
  have f_103_21 : I3 103 21 = I 103 21 := by rw [ek_reach_103_21 p2, f1.1 103 (by omega) (by omega)]
  have f_L : L3 103 = L 103 := (eL_reach_103 p2).trans (f1.2 103 (by omega) (by omega))
  have f_41_15 : I3 41 15 = I 41 15 := by rw [f2.1 41 (by omega), eb_reach_41_15 p1]
  have f_55_15 : I3 55 15 = I 55 15 := by rw [f2.1 55 (by omega), eb_reach_55_15 p1]
  have f_103_63 : I3 103 63 = I 103 63 := by rw [ek_reach_103_63 p2, f1.1 103 (by omega) (by omega)]
  have f_101_2 : I3 101 2 = I 101 2 := by rw [f2.1 101 (by omega), eb_reach_101_2 p1]
  have f_103_68 : I3 103 68 = I 103 68 := by rw [ek_reach_103_68 p2, f1.1 103 (by omega) (by omega)]
  have f_102_r : I3 102 = I 102 := by rw [f2.1 102 (by omega), eb_reach_102_r p1]
  have f_138_r : I3 138 = I 138 := by rw [ek_reach_138_r p2, f1.1 138 (by omega) (by omega)]
  have f_70_5 : I3 70 5 = I 70 5 := by rw [f2.1 70 (by omega), eb_reach_70_5 p1]
  have f_103_25 : I3 103 25 = I 103 25 := by rw [ek_reach_103_25 p2, f1.1 103 (by omega) (by omega)]
  have f_71_r : I3 71 = I 71 := by rw [f2.1 71 (by omega), eb_reach_71_r p1]
  have f_121_r : I3 121 = I 121 := by rw [ek_reach_121_r p2, f1.1 121 (by omega) (by omega)]
  have f_129_r : I3 129 = I 129 := by rw [ek_reach_129_r p2, f1.1 129 (by omega) (by omega)]
  exact ⟨(by rw [f_32_10, f_103_0]; exact hr.1), (by rw [f_33_7, f_103_1]; exact hr.2.1), (by rw [f_33_8, f_103_2]; exact hr.2.2.1), hq0.1, hq0.2, (by rw [f_41_14, f_55_14, f_103_16]; exact hr.2.2.2.2.2.1), (by rw [f_69_0, f_69_1, f_69_2, f_103_21, f_L]; exact hr.2.2.2.2.2.2.1), (by rw [f_41_15, f_55_15, f_103_63]; exact hr.2.2.2.2.2.2.2.1), (by rw [f_101_2, f_103_68]; exact hr.2.2.2.2.2.2.2.2.1), (by rw [f_102_r, f_138_r]; exact hr.2.2.2.2.2.2.2.2.2.1), (by rw [f_70_5, f_103_25]; exact hr.2.2.2.2.2.2.2.2.2.2.1), (by rw [f_71_r, f_121_r]; exact hr.2.2.2.2.2.2.2.2.2.2.2.1), (tw_eq f_129_r fR hr.2.2.2.2.2.2.2.2.2.2.2.2)⟩

theorem rel.mouth {v0 v1 : Int32} {x y : Int32} {n : Nat} {I I2 I3 : px_I} {L L2 L3 : px_L} {R : px_R} (hj : jJ n I R) (hr : rel I L R) (f1 : frB I I2 L L2) {R2 : px_R} (fR : kR R I2 R2) (p1 : pb_mouth v0 v1 I L x I2 L2) (f2 : frK I2 I3 L2 L3) (p2 : pk_mouth v0 v1 I2 L2 y I3 L3) : rel I3 L3 R2 := by
  have f_32_10 : I3 32 10 = I 32 10 := by rw [f2.1 32 (by omega), eb_mouth_32_10 p1]
  have f_103_0 : I3 103 0 = I 103 0 := by rw [ek_mouth_103_0 p2, f1.1 103 (by omega) (by omega)]
  have f_33_7 : I3 33 7 = I 33 7 := by rw [f2.1 33 (by omega), eb_mouth_33_7 p1]
  have f_103_1 : I3 103 1 = I 103 1 := by rw [ek_mouth_103_1 p2, f1.1 103 (by omega) (by omega)]
  have f_33_8 : I3 33 8 = I 33 8 := by rw [f2.1 33 (by omega), eb_mouth_33_8 p1]
  have f_103_2 : I3 103 2 = I 103 2 := by rw [ek_mouth_103_2 p2, f1.1 103 (by omega) (by omega)]
  have f_41_13 : I3 41 13 = I 41 13 := by rw [f2.1 41 (by omega), eb_mouth_41_13 p1]
  have f_110_0 : I3 110 0 = I 110 0 := by rw [ek_mouth_110_0 p2, f1.1 110 (by omega) (by omega)]
  have f_55_13 : I3 55 13 = I 55 13 := by rw [f2.1 55 (by omega), eb_mouth_55_13 p1]
  have f_110_1 : I3 110 1 = I 110 1 := by rw [ek_mouth_110_1 p2, f1.1 110 (by omega) (by omega)]
  have f_41_14 : I3 41 14 = I 41 14 := by rw [f2.1 41 (by omega), eb_mouth_41_14 p1]
  have f_55_14 : I3 55 14 = I 55 14 := by rw [f2.1 55 (by omega), eb_mouth_55_14 p1]
  have f_103_16 : I3 103 16 = I 103 16 := by rw [ek_mouth_103_16 p2, f1.1 103 (by omega) (by omega)]
  have f_69_0 : I3 69 0 = I 69 0 := by rw [f2.1 69 (by omega), eb_mouth_69_0 p1]
  have f_69_1 : I3 69 1 = I 69 1 := by rw [f2.1 69 (by omega), eb_mouth_69_1 p1]
  have f_69_2 : I3 69 2 = I 69 2 := by rw [f2.1 69 (by omega), eb_mouth_69_2 p1]
  have f_103_21 : I3 103 21 = I 103 21 := by rw [ek_mouth_103_21 p2, f1.1 103 (by omega) (by omega)]
  have f_L : L3 103 = L 103 := (eL_mouth_103 p2).trans (f1.2 103 (by omega) (by omega))
  have f_41_15 : I3 41 15 = I 41 15 := by rw [f2.1 41 (by omega), eb_mouth_41_15 p1]
  have f_55_15 : I3 55 15 = I 55 15 := by rw [f2.1 55 (by omega), eb_mouth_55_15 p1]
  have f_103_63 : I3 103 63 = I 103 63 := by rw [ek_mouth_103_63 p2, f1.1 103 (by omega) (by omega)]
  have f_101_2 : I3 101 2 = I 101 2 := by rw [f2.1 101 (by omega), eb_mouth_101_2 p1]
  have f_103_68 : I3 103 68 = I 103 68 := by rw [ek_mouth_103_68 p2, f1.1 103 (by omega) (by omega)]
  have f_102_r : I3 102 = I 102 := by rw [f2.1 102 (by omega), eb_mouth_102_r p1]
  have f_138_r : I3 138 = I 138 := by rw [ek_mouth_138_r p2, f1.1 138 (by omega) (by omega)]
  have f_70_5 : I3 70 5 = I 70 5 := by rw [f2.1 70 (by omega), eb_mouth_70_5 p1]
  have f_103_25 : I3 103 25 = I 103 25 := by rw [ek_mouth_103_25 p2, f1.1 103 (by omega) (by omega)]
  have f_71_r : I3 71 = I 71 := by rw [f2.1 71 (by omega), eb_mouth_71_r p1]
  have f_121_r : I3 121 = I 121 := by rw [ek_mouth_121_r p2, f1.1 121 (by omega) (by omega)]
  have f_129_r : I3 129 = I 129 := by rw [ek_mouth_129_r p2, f1.1 129 (by omega) (by omega)]
  exact ⟨(by rw [f_32_10, f_103_0]; exact hr.1), (by rw [f_33_7, f_103_1]; exact hr.2.1), (by rw [f_33_8, f_103_2]; exact hr.2.2.1), (by rw [f_41_13, f_110_0]; exact hr.2.2.2.1), (by rw [f_55_13, f_110_1]; exact hr.2.2.2.2.1), (by rw [f_41_14, f_55_14, f_103_16]; exact hr.2.2.2.2.2.1), (by rw [f_69_0, f_69_1, f_69_2, f_103_21, f_L]; exact hr.2.2.2.2.2.2.1), (by rw [f_41_15, f_55_15, f_103_63]; exact hr.2.2.2.2.2.2.2.1), (by rw [f_101_2, f_103_68]; exact hr.2.2.2.2.2.2.2.2.1), (by rw [f_102_r, f_138_r]; exact hr.2.2.2.2.2.2.2.2.2.1), (by rw [f_70_5, f_103_25]; exact hr.2.2.2.2.2.2.2.2.2.2.1), (by rw [f_71_r, f_121_r]; exact hr.2.2.2.2.2.2.2.2.2.2.2.1), (tw_eq f_129_r fR hr.2.2.2.2.2.2.2.2.2.2.2.2)⟩

theorem relq_mark {v0 v1 v2 v3 : Int32} {x y : Int32} {n : Nat} {I I2 I3 : px_I} {L L2 L3 : px_L} {R : px_R} (hj : jJ n I R) (hr : rel I L R) (f1 : frB I I2 L L2) {R2 : px_R} (fR : kR R I2 R2) (p1 : pb_mark v0 v1 v2 v3 I L x I2 L2) (f2 : frK I2 I3 L2 L3) (p2 : pk_mark v0 v1 v2 v3 I2 L2 y I3 L3) : x = y ∧ (I3 41 14 + I3 55 14 = I3 103 16) := by
  have h_da : I 32 10 = I 103 0 := hr.1
  have h_st : I 33 7 = I 103 1 := hr.2.1
  have h_si : I 33 8 = I 103 2 := hr.2.2.1
  have h_pA : I 41 13 = I 110 0 := hr.2.2.2.1
  have h_pB : I 55 13 = I 110 1 := hr.2.2.2.2.1
  have h_mk : I 41 14 + I 55 14 = I 103 16 := hr.2.2.2.2.2.1
  have h_ct : I 69 0 = I 103 21 ∧ (0 ≤ I 69 0 ∧ I 69 0 ≤ 30) ∧ (0 ≤ I 69 1 ∧ I 69 1 ≤ 2000009998) ∧ (0 ≤ I 69 2 ∧ I 69 2 ≤ 2000000000) ∧ ((I 69 0 = 0 ∧ I 69 1 = 0 ∧ I 69 2 = 2000000000) ∨ (I 69 0 ≠ 0 ∧ (L 103 22).toInt = (I 69 1).toInt ∧ (L 103 23).toInt = (I 69 2).toInt)) := hr.2.2.2.2.2.2.1
  have h_rp : I 41 15 + I 55 15 = I 103 63 := hr.2.2.2.2.2.2.2.1
  have h_li : I 101 2 = I 103 68 := hr.2.2.2.2.2.2.2.2.1
  have h_tb : ∀ k : Nat, I 102 k = I 138 k := hr.2.2.2.2.2.2.2.2.2.1
  have h_fd : I 70 5 = I 103 25 := hr.2.2.2.2.2.2.2.2.2.2.1
  have h_by : ∀ j : Nat, nb (I 71 j) = nb (I 121 j) := hr.2.2.2.2.2.2.2.2.2.2.2.1
  have h_tw : ∀ k : Nat, k < 6 → I 129 k = (if (R 89 k).isSome = true then 1 else 0) := hr.2.2.2.2.2.2.2.2.2.2.2.2
  unfold pb_mark at p1
  unfold pk_mark at p2
  have hl := hj.l
  unfold cGal at hl
  have e0 : I2 110 = I 110 := f1.1 110 (by omega) (by omega)
  have e1 : I2 103 = I 103 := f1.1 103 (by omega) (by omega)
  have hc : ∀ G, bG v0 G → I G 13 = I 110 v0.toNatClampNeg := by
    rintro G (⟨q1, q2⟩ | ⟨q1, q2⟩)
    · rw [q1, q2, px_n0]; exact h_pA
    · rw [q1, q2, px_n1]; exact h_pB
  have hm := hj.m.2.2.2.1.1
  have e5 : I3 41 = I2 41 := f2.1 41 (by omega)
  have e6 : I3 55 = I2 55 := f2.1 55 (by omega)
  rcases p1.2 with ⟨G, ⟨g1, g2, g3, g4⟩, a2, a3⟩ | ⟨a1, a2, a3⟩
  · have c := hc G g1
    rcases p2.2 with ⟨b1, b2, b3⟩ | ⟨b1, b2, b3⟩
    · refine ⟨by rw [a2, b2, e1, ← h_mk], ?_⟩
      have k : I3 103 16 = I 103 16 + 1 := by rw [b3]; unfold mMark; rw [px_u_at, e1]
      rw [k, e5, e6, ← h_mk, a3]
      rcases g1 with ⟨q1, q2⟩ | ⟨q1, q2⟩
      · rw [q2]; unfold cMark; rw [px_u_at, px_u_ne (by omega), px_u_ne (by omega), px_u_ne (by omega)]; grind
      · rw [q2]; unfold cMark; rw [px_u_at, px_u_ne (by omega), px_u_ne (by omega), px_u_ne (by omega)]; grind
    · refine absurd ?_ b1
      unfold mPegOk
      rw [e0, e1, ← c, ← h_mk]
      exact ⟨⟨(bG_le g1).1, (bG_le g1).2, g3.1, by grind⟩, ⟨g4.1, by grind⟩, g4.2, by grind⟩
  · rcases p2.2 with ⟨b1, b2, b3⟩ | ⟨b1, b2, b3⟩
    · refine absurd ?_ a1
      obtain ⟨r0, r1, r2, r3⟩ := b1
      unfold mPegOk at r0
      obtain ⟨G, g1⟩ := bG_01 r0.1 r0.2.1
      have c := hc G g1
      rw [e0, ← c] at r0
      rw [e1] at r3
      have : 0 ≤ I G 13 := by rcases g1 with ⟨q1, q2⟩ | ⟨q1, q2⟩ <;> rw [q2] <;> first | exact hl.1.1.1 | exact hl.2.1.1
      exact ⟨G, g1, by grind, ⟨r0.2.2.1, by grind⟩, ⟨r1.1, r2⟩⟩
    · refine ⟨by rw [a2, b2], ?_⟩
      rw [e5, e6, b3, e1, a3]
      exact h_mk

theorem rel.mark {v0 v1 v2 v3 : Int32} {x y : Int32} {n : Nat} {I I2 I3 : px_I} {L L2 L3 : px_L} {R : px_R} (hj : jJ n I R) (hr : rel I L R) (f1 : frB I I2 L L2) {R2 : px_R} (fR : kR R I2 R2) (p1 : pb_mark v0 v1 v2 v3 I L x I2 L2) (f2 : frK I2 I3 L2 L3) (p2 : pk_mark v0 v1 v2 v3 I2 L2 y I3 L3) : rel I3 L3 R2 := by
  have hq0 := (relq_mark hj hr f1 fR p1 f2 p2).2
  have f_32_10 : I3 32 10 = I 32 10 := by rw [f2.1 32 (by omega), eb_mark_32_10 p1]
  have f_103_0 : I3 103 0 = I 103 0 := by rw [ek_mark_103_0 p2, f1.1 103 (by omega) (by omega)]
  have f_33_7 : I3 33 7 = I 33 7 := by rw [f2.1 33 (by omega), eb_mark_33_7 p1]
  have f_103_1 : I3 103 1 = I 103 1 := by rw [ek_mark_103_1 p2, f1.1 103 (by omega) (by omega)]
  have f_33_8 : I3 33 8 = I 33 8 := by rw [f2.1 33 (by omega), eb_mark_33_8 p1]
  have f_103_2 : I3 103 2 = I 103 2 := by rw [ek_mark_103_2 p2, f1.1 103 (by omega) (by omega)]
  have f_41_13 : I3 41 13 = I 41 13 := by rw [f2.1 41 (by omega), eb_mark_41_13 p1]
  have f_110_0 : I3 110 0 = I 110 0 := by rw [ek_mark_110_0 p2, f1.1 110 (by omega) (by omega)]
  have f_55_13 : I3 55 13 = I 55 13 := by rw [f2.1 55 (by omega), eb_mark_55_13 p1]
  have f_110_1 : I3 110 1 = I 110 1 := by rw [ek_mark_110_1 p2, f1.1 110 (by omega) (by omega)]
  have f_69_0 : I3 69 0 = I 69 0 := by rw [f2.1 69 (by omega), eb_mark_69_0 p1]
  have f_69_1 : I3 69 1 = I 69 1 := by rw [f2.1 69 (by omega), eb_mark_69_1 p1]
  have f_69_2 : I3 69 2 = I 69 2 := by rw [f2.1 69 (by omega), eb_mark_69_2 p1]
  have f_103_21 : I3 103 21 = I 103 21 := by rw [ek_mark_103_21 p2, f1.1 103 (by omega) (by omega)]
  have f_L : L3 103 = L 103 := (eL_mark_103 p2).trans (f1.2 103 (by omega) (by omega))
  have f_41_15 : I3 41 15 = I 41 15 := by rw [f2.1 41 (by omega), eb_mark_41_15 p1]
  have f_55_15 : I3 55 15 = I 55 15 := by rw [f2.1 55 (by omega), eb_mark_55_15 p1]
  have f_103_63 : I3 103 63 = I 103 63 := by rw [ek_mark_103_63 p2, f1.1 103 (by omega) (by omega)]
  have f_101_2 : I3 101 2 = I 101 2 := by rw [f2.1 101 (by omega), eb_mark_101_2 p1]
  have f_103_68 : I3 103 68 = I 103 68 := by rw [ek_mark_103_68 p2, f1.1 103 (by omega) (by omega)]
  have f_102_r : I3 102 = I 102 := by rw [f2.1 102 (by omega), eb_mark_102_r p1]
  have f_138_r : I3 138 = I 138 := by rw [ek_mark_138_r p2, f1.1 138 (by omega) (by omega)]
  have f_70_5 : I3 70 5 = I 70 5 := by rw [f2.1 70 (by omega), eb_mark_70_5 p1]
  have f_103_25 : I3 103 25 = I 103 25 := by rw [ek_mark_103_25 p2, f1.1 103 (by omega) (by omega)]
  have f_71_r : I3 71 = I 71 := by rw [f2.1 71 (by omega), eb_mark_71_r p1]
  have f_121_r : I3 121 = I 121 := by rw [ek_mark_121_r p2, f1.1 121 (by omega) (by omega)]
  have f_129_r : I3 129 = I 129 := by rw [ek_mark_129_r p2, f1.1 129 (by omega) (by omega)]
  exact ⟨(by rw [f_32_10, f_103_0]; exact hr.1), (by rw [f_33_7, f_103_1]; exact hr.2.1), (by rw [f_33_8, f_103_2]; exact hr.2.2.1), (by rw [f_41_13, f_110_0]; exact hr.2.2.2.1), (by rw [f_55_13, f_110_1]; exact hr.2.2.2.2.1), hq0, (by rw [f_69_0, f_69_1, f_69_2, f_103_21, f_L]; exact hr.2.2.2.2.2.2.1), (by rw [f_41_15, f_55_15, f_103_63]; exact hr.2.2.2.2.2.2.2.1), (by rw [f_101_2, f_103_68]; exact hr.2.2.2.2.2.2.2.2.1), (by rw [f_102_r, f_138_r]; exact hr.2.2.2.2.2.2.2.2.2.1), (by rw [f_70_5, f_103_25]; exact hr.2.2.2.2.2.2.2.2.2.2.1), (by rw [f_71_r, f_121_r]; exact hr.2.2.2.2.2.2.2.2.2.2.2.1), (tw_eq f_129_r fR hr.2.2.2.2.2.2.2.2.2.2.2.2)⟩

theorem rel.when {v0 v1 v2 : Int32} {x y : Int32} {n : Nat} {I I2 I3 : px_I} {L L2 L3 : px_L} {R : px_R} (hj : jJ n I R) (hr : rel I L R) (f1 : frB I I2 L L2) {R2 : px_R} (fR : kR R I2 R2) (p1 : pb_when v0 v1 v2 I L x I2 L2) (f2 : frK I2 I3 L2 L3) (p2 : pk_when v0 v1 v2 I2 L2 y I3 L3) : rel I3 L3 R2 := by
  have f_32_10 : I3 32 10 = I 32 10 := by rw [f2.1 32 (by omega), eb_when_32_10 p1]
  have f_103_0 : I3 103 0 = I 103 0 := by rw [ek_when_103_0 p2, f1.1 103 (by omega) (by omega)]
  have f_33_7 : I3 33 7 = I 33 7 := by rw [f2.1 33 (by omega), eb_when_33_7 p1]
  have f_103_1 : I3 103 1 = I 103 1 := by rw [ek_when_103_1 p2, f1.1 103 (by omega) (by omega)]
  have f_33_8 : I3 33 8 = I 33 8 := by rw [f2.1 33 (by omega), eb_when_33_8 p1]
  have f_103_2 : I3 103 2 = I 103 2 := by rw [ek_when_103_2 p2, f1.1 103 (by omega) (by omega)]
  have f_41_13 : I3 41 13 = I 41 13 := by rw [f2.1 41 (by omega), eb_when_41_13 p1]
  have f_110_0 : I3 110 0 = I 110 0 := by rw [ek_when_110_0 p2, f1.1 110 (by omega) (by omega)]
  have f_55_13 : I3 55 13 = I 55 13 := by rw [f2.1 55 (by omega), eb_when_55_13 p1]
  have f_110_1 : I3 110 1 = I 110 1 := by rw [ek_when_110_1 p2, f1.1 110 (by omega) (by omega)]
  have f_41_14 : I3 41 14 = I 41 14 := by rw [f2.1 41 (by omega), eb_when_41_14 p1]
  have f_55_14 : I3 55 14 = I 55 14 := by rw [f2.1 55 (by omega), eb_when_55_14 p1]
  have f_103_16 : I3 103 16 = I 103 16 := by rw [ek_when_103_16 p2, f1.1 103 (by omega) (by omega)]
  have f_69_0 : I3 69 0 = I 69 0 := by rw [f2.1 69 (by omega), eb_when_69_0 p1]
  have f_69_1 : I3 69 1 = I 69 1 := by rw [f2.1 69 (by omega), eb_when_69_1 p1]
  have f_69_2 : I3 69 2 = I 69 2 := by rw [f2.1 69 (by omega), eb_when_69_2 p1]
  have f_103_21 : I3 103 21 = I 103 21 := by rw [ek_when_103_21 p2, f1.1 103 (by omega) (by omega)]
  have f_L : L3 103 = L 103 := (eL_when_103 p2).trans (f1.2 103 (by omega) (by omega))
  have f_41_15 : I3 41 15 = I 41 15 := by rw [f2.1 41 (by omega), eb_when_41_15 p1]
  have f_55_15 : I3 55 15 = I 55 15 := by rw [f2.1 55 (by omega), eb_when_55_15 p1]
  have f_103_63 : I3 103 63 = I 103 63 := by rw [ek_when_103_63 p2, f1.1 103 (by omega) (by omega)]
  have f_101_2 : I3 101 2 = I 101 2 := by rw [f2.1 101 (by omega), eb_when_101_2 p1]
  have f_103_68 : I3 103 68 = I 103 68 := by rw [ek_when_103_68 p2, f1.1 103 (by omega) (by omega)]
  have f_102_r : I3 102 = I 102 := by rw [f2.1 102 (by omega), eb_when_102_r p1]
  have f_138_r : I3 138 = I 138 := by rw [ek_when_138_r p2, f1.1 138 (by omega) (by omega)]
  have f_70_5 : I3 70 5 = I 70 5 := by rw [f2.1 70 (by omega), eb_when_70_5 p1]
  have f_103_25 : I3 103 25 = I 103 25 := by rw [ek_when_103_25 p2, f1.1 103 (by omega) (by omega)]
  have f_71_r : I3 71 = I 71 := by rw [f2.1 71 (by omega), eb_when_71_r p1]
  have f_121_r : I3 121 = I 121 := by rw [ek_when_121_r p2, f1.1 121 (by omega) (by omega)]
  have f_129_r : I3 129 = I 129 := by rw [ek_when_129_r p2, f1.1 129 (by omega) (by omega)]
  exact ⟨(by rw [f_32_10, f_103_0]; exact hr.1), (by rw [f_33_7, f_103_1]; exact hr.2.1), (by rw [f_33_8, f_103_2]; exact hr.2.2.1), (by rw [f_41_13, f_110_0]; exact hr.2.2.2.1), (by rw [f_55_13, f_110_1]; exact hr.2.2.2.2.1), (by rw [f_41_14, f_55_14, f_103_16]; exact hr.2.2.2.2.2.1), (by rw [f_69_0, f_69_1, f_69_2, f_103_21, f_L]; exact hr.2.2.2.2.2.2.1), (by rw [f_41_15, f_55_15, f_103_63]; exact hr.2.2.2.2.2.2.2.1), (by rw [f_101_2, f_103_68]; exact hr.2.2.2.2.2.2.2.2.1), (by rw [f_102_r, f_138_r]; exact hr.2.2.2.2.2.2.2.2.2.1), (by rw [f_70_5, f_103_25]; exact hr.2.2.2.2.2.2.2.2.2.2.1), (by rw [f_71_r, f_121_r]; exact hr.2.2.2.2.2.2.2.2.2.2.2.1), (tw_eq f_129_r fR hr.2.2.2.2.2.2.2.2.2.2.2.2)⟩

theorem rel.between {v0 v1 v2 v3 : Int32} {x y : Int32} {n : Nat} {I I2 I3 : px_I} {L L2 L3 : px_L} {R : px_R} (hj : jJ n I R) (hr : rel I L R) (f1 : frB I I2 L L2) {R2 : px_R} (fR : kR R I2 R2) (p1 : pb_between v0 v1 v2 v3 I L x I2 L2) (f2 : frK I2 I3 L2 L3) (p2 : pk_between v0 v1 v2 v3 I2 L2 y I3 L3) : rel I3 L3 R2 := by
  have f_32_10 : I3 32 10 = I 32 10 := by rw [f2.1 32 (by omega), eb_between_32_10 p1]
  have f_103_0 : I3 103 0 = I 103 0 := by rw [ek_between_103_0 p2, f1.1 103 (by omega) (by omega)]
  have f_33_7 : I3 33 7 = I 33 7 := by rw [f2.1 33 (by omega), eb_between_33_7 p1]
  have f_103_1 : I3 103 1 = I 103 1 := by rw [ek_between_103_1 p2, f1.1 103 (by omega) (by omega)]
  have f_33_8 : I3 33 8 = I 33 8 := by rw [f2.1 33 (by omega), eb_between_33_8 p1]
  have f_103_2 : I3 103 2 = I 103 2 := by rw [ek_between_103_2 p2, f1.1 103 (by omega) (by omega)]
  have f_41_13 : I3 41 13 = I 41 13 := by rw [f2.1 41 (by omega), eb_between_41_13 p1]
  have f_110_0 : I3 110 0 = I 110 0 := by rw [ek_between_110_0 p2, f1.1 110 (by omega) (by omega)]
  have f_55_13 : I3 55 13 = I 55 13 := by rw [f2.1 55 (by omega), eb_between_55_13 p1]
  have f_110_1 : I3 110 1 = I 110 1 := by rw [ek_between_110_1 p2, f1.1 110 (by omega) (by omega)]
  have f_41_14 : I3 41 14 = I 41 14 := by rw [f2.1 41 (by omega), eb_between_41_14 p1]
  have f_55_14 : I3 55 14 = I 55 14 := by rw [f2.1 55 (by omega), eb_between_55_14 p1]
  have f_103_16 : I3 103 16 = I 103 16 := by rw [ek_between_103_16 p2, f1.1 103 (by omega) (by omega)]
  have f_69_0 : I3 69 0 = I 69 0 := by rw [f2.1 69 (by omega), eb_between_69_0 p1]
  have f_69_1 : I3 69 1 = I 69 1 := by rw [f2.1 69 (by omega), eb_between_69_1 p1]
  have f_69_2 : I3 69 2 = I 69 2 := by rw [f2.1 69 (by omega), eb_between_69_2 p1]
  have f_103_21 : I3 103 21 = I 103 21 := by rw [ek_between_103_21 p2, f1.1 103 (by omega) (by omega)]
  have f_L : L3 103 = L 103 := (eL_between_103 p2).trans (f1.2 103 (by omega) (by omega))
  have f_41_15 : I3 41 15 = I 41 15 := by rw [f2.1 41 (by omega), eb_between_41_15 p1]
  have f_55_15 : I3 55 15 = I 55 15 := by rw [f2.1 55 (by omega), eb_between_55_15 p1]
  have f_103_63 : I3 103 63 = I 103 63 := by rw [ek_between_103_63 p2, f1.1 103 (by omega) (by omega)]
  have f_101_2 : I3 101 2 = I 101 2 := by rw [f2.1 101 (by omega), eb_between_101_2 p1]
  have f_103_68 : I3 103 68 = I 103 68 := by rw [ek_between_103_68 p2, f1.1 103 (by omega) (by omega)]
  have f_102_r : I3 102 = I 102 := by rw [f2.1 102 (by omega), eb_between_102_r p1]
  have f_138_r : I3 138 = I 138 := by rw [ek_between_138_r p2, f1.1 138 (by omega) (by omega)]
  have f_70_5 : I3 70 5 = I 70 5 := by rw [f2.1 70 (by omega), eb_between_70_5 p1]
  have f_103_25 : I3 103 25 = I 103 25 := by rw [ek_between_103_25 p2, f1.1 103 (by omega) (by omega)]
  have f_71_r : I3 71 = I 71 := by rw [f2.1 71 (by omega), eb_between_71_r p1]
  have f_121_r : I3 121 = I 121 := by rw [ek_between_121_r p2, f1.1 121 (by omega) (by omega)]
  have f_129_r : I3 129 = I 129 := by rw [ek_between_129_r p2, f1.1 129 (by omega) (by omega)]
  exact ⟨(by rw [f_32_10, f_103_0]; exact hr.1), (by rw [f_33_7, f_103_1]; exact hr.2.1), (by rw [f_33_8, f_103_2]; exact hr.2.2.1), (by rw [f_41_13, f_110_0]; exact hr.2.2.2.1), (by rw [f_55_13, f_110_1]; exact hr.2.2.2.2.1), (by rw [f_41_14, f_55_14, f_103_16]; exact hr.2.2.2.2.2.1), (by rw [f_69_0, f_69_1, f_69_2, f_103_21, f_L]; exact hr.2.2.2.2.2.2.1), (by rw [f_41_15, f_55_15, f_103_63]; exact hr.2.2.2.2.2.2.2.1), (by rw [f_101_2, f_103_68]; exact hr.2.2.2.2.2.2.2.2.1), (by rw [f_102_r, f_138_r]; exact hr.2.2.2.2.2.2.2.2.2.1), (by rw [f_70_5, f_103_25]; exact hr.2.2.2.2.2.2.2.2.2.2.1), (by rw [f_71_r, f_121_r]; exact hr.2.2.2.2.2.2.2.2.2.2.2.1), (tw_eq f_129_r fR hr.2.2.2.2.2.2.2.2.2.2.2.2)⟩

theorem rel.lamps {v0 v1 v2 v3 v4 : Int32} {x y : Int32} {n : Nat} {I I2 I3 : px_I} {L L2 L3 : px_L} {R : px_R} (hj : jJ n I R) (hr : rel I L R) (f1 : frB I I2 L L2) {R2 : px_R} (fR : kR R I2 R2) (p1 : pb_lamps v0 v1 v2 v3 v4 I L x I2 L2) (f2 : frK I2 I3 L2 L3) (p2 : pk_lamps v0 v1 v2 v3 v4 I2 L2 y I3 L3) : rel I3 L3 R2 := by
  have f_32_10 : I3 32 10 = I 32 10 := by rw [f2.1 32 (by omega), eb_lamps_32_10 p1]
  have f_103_0 : I3 103 0 = I 103 0 := by rw [ek_lamps_103_0 p2, f1.1 103 (by omega) (by omega)]
  have f_33_7 : I3 33 7 = I 33 7 := by rw [f2.1 33 (by omega), eb_lamps_33_7 p1]
  have f_103_1 : I3 103 1 = I 103 1 := by rw [ek_lamps_103_1 p2, f1.1 103 (by omega) (by omega)]
  have f_33_8 : I3 33 8 = I 33 8 := by rw [f2.1 33 (by omega), eb_lamps_33_8 p1]
  have f_103_2 : I3 103 2 = I 103 2 := by rw [ek_lamps_103_2 p2, f1.1 103 (by omega) (by omega)]
  have f_41_13 : I3 41 13 = I 41 13 := by rw [f2.1 41 (by omega), eb_lamps_41_13 p1]
  have f_110_0 : I3 110 0 = I 110 0 := by rw [ek_lamps_110_0 p2, f1.1 110 (by omega) (by omega)]
  have f_55_13 : I3 55 13 = I 55 13 := by rw [f2.1 55 (by omega), eb_lamps_55_13 p1]
  have f_110_1 : I3 110 1 = I 110 1 := by rw [ek_lamps_110_1 p2, f1.1 110 (by omega) (by omega)]
  have f_41_14 : I3 41 14 = I 41 14 := by rw [f2.1 41 (by omega), eb_lamps_41_14 p1]
  have f_55_14 : I3 55 14 = I 55 14 := by rw [f2.1 55 (by omega), eb_lamps_55_14 p1]
  have f_103_16 : I3 103 16 = I 103 16 := by rw [ek_lamps_103_16 p2, f1.1 103 (by omega) (by omega)]
  have f_69_0 : I3 69 0 = I 69 0 := by rw [f2.1 69 (by omega), eb_lamps_69_0 p1]
  have f_69_1 : I3 69 1 = I 69 1 := by rw [f2.1 69 (by omega), eb_lamps_69_1 p1]
  have f_69_2 : I3 69 2 = I 69 2 := by rw [f2.1 69 (by omega), eb_lamps_69_2 p1]
  have f_103_21 : I3 103 21 = I 103 21 := by rw [ek_lamps_103_21 p2, f1.1 103 (by omega) (by omega)]
  have f_L : L3 103 = L 103 := (eL_lamps_103 p2).trans (f1.2 103 (by omega) (by omega))
  have f_41_15 : I3 41 15 = I 41 15 := by rw [f2.1 41 (by omega), eb_lamps_41_15 p1]
  have f_55_15 : I3 55 15 = I 55 15 := by rw [f2.1 55 (by omega), eb_lamps_55_15 p1]
  have f_103_63 : I3 103 63 = I 103 63 := by rw [ek_lamps_103_63 p2, f1.1 103 (by omega) (by omega)]
  have f_101_2 : I3 101 2 = I 101 2 := by rw [f2.1 101 (by omega), eb_lamps_101_2 p1]
  have f_103_68 : I3 103 68 = I 103 68 := by rw [ek_lamps_103_68 p2, f1.1 103 (by omega) (by omega)]
  have f_102_r : I3 102 = I 102 := by rw [f2.1 102 (by omega), eb_lamps_102_r p1]
  have f_138_r : I3 138 = I 138 := by rw [ek_lamps_138_r p2, f1.1 138 (by omega) (by omega)]
  have f_70_5 : I3 70 5 = I 70 5 := by rw [f2.1 70 (by omega), eb_lamps_70_5 p1]
  have f_103_25 : I3 103 25 = I 103 25 := by rw [ek_lamps_103_25 p2, f1.1 103 (by omega) (by omega)]
  have f_71_r : I3 71 = I 71 := by rw [f2.1 71 (by omega), eb_lamps_71_r p1]
  have f_121_r : I3 121 = I 121 := by rw [ek_lamps_121_r p2, f1.1 121 (by omega) (by omega)]
  have f_129_r : I3 129 = I 129 := by rw [ek_lamps_129_r p2, f1.1 129 (by omega) (by omega)]
  exact ⟨(by rw [f_32_10, f_103_0]; exact hr.1), (by rw [f_33_7, f_103_1]; exact hr.2.1), (by rw [f_33_8, f_103_2]; exact hr.2.2.1), (by rw [f_41_13, f_110_0]; exact hr.2.2.2.1), (by rw [f_55_13, f_110_1]; exact hr.2.2.2.2.1), (by rw [f_41_14, f_55_14, f_103_16]; exact hr.2.2.2.2.2.1), (by rw [f_69_0, f_69_1, f_69_2, f_103_21, f_L]; exact hr.2.2.2.2.2.2.1), (by rw [f_41_15, f_55_15, f_103_63]; exact hr.2.2.2.2.2.2.2.1), (by rw [f_101_2, f_103_68]; exact hr.2.2.2.2.2.2.2.2.1), (by rw [f_102_r, f_138_r]; exact hr.2.2.2.2.2.2.2.2.2.1), (by rw [f_70_5, f_103_25]; exact hr.2.2.2.2.2.2.2.2.2.2.1), (by rw [f_71_r, f_121_r]; exact hr.2.2.2.2.2.2.2.2.2.2.2.1), (tw_eq f_129_r fR hr.2.2.2.2.2.2.2.2.2.2.2.2)⟩

theorem relq_count {v0 v1 v2 : Int32} {x y : Int32} {n : Nat} {I I2 I3 : px_I} {L L2 L3 : px_L} {R : px_R} (hj : jJ n I R) (hr : rel I L R) (f1 : frB I I2 L L2) {R2 : px_R} (fR : kR R I2 R2) (p1 : pb_count v0 v1 v2 I L x I2 L2) (f2 : frK I2 I3 L2 L3) (p2 : pk_count v0 v1 v2 I2 L2 y I3 L3) : x = y ∧ (I3 69 0 = I3 103 21 ∧ (0 ≤ I3 69 0 ∧ I3 69 0 ≤ 30) ∧ (0 ≤ I3 69 1 ∧ I3 69 1 ≤ 2000009998) ∧ (0 ≤ I3 69 2 ∧ I3 69 2 ≤ 2000000000) ∧ ((I3 69 0 = 0 ∧ I3 69 1 = 0 ∧ I3 69 2 = 2000000000) ∨ (I3 69 0 ≠ 0 ∧ (L3 103 22).toInt = (I3 69 1).toInt ∧ (L3 103 23).toInt = (I3 69 2).toInt))) := by
  have h_da : I 32 10 = I 103 0 := hr.1
  have h_st : I 33 7 = I 103 1 := hr.2.1
  have h_si : I 33 8 = I 103 2 := hr.2.2.1
  have h_pA : I 41 13 = I 110 0 := hr.2.2.2.1
  have h_pB : I 55 13 = I 110 1 := hr.2.2.2.2.1
  have h_mk : I 41 14 + I 55 14 = I 103 16 := hr.2.2.2.2.2.1
  have h_ct : I 69 0 = I 103 21 ∧ (0 ≤ I 69 0 ∧ I 69 0 ≤ 30) ∧ (0 ≤ I 69 1 ∧ I 69 1 ≤ 2000009998) ∧ (0 ≤ I 69 2 ∧ I 69 2 ≤ 2000000000) ∧ ((I 69 0 = 0 ∧ I 69 1 = 0 ∧ I 69 2 = 2000000000) ∨ (I 69 0 ≠ 0 ∧ (L 103 22).toInt = (I 69 1).toInt ∧ (L 103 23).toInt = (I 69 2).toInt)) := hr.2.2.2.2.2.2.1
  have h_rp : I 41 15 + I 55 15 = I 103 63 := hr.2.2.2.2.2.2.2.1
  have h_li : I 101 2 = I 103 68 := hr.2.2.2.2.2.2.2.2.1
  have h_tb : ∀ k : Nat, I 102 k = I 138 k := hr.2.2.2.2.2.2.2.2.2.1
  have h_fd : I 70 5 = I 103 25 := hr.2.2.2.2.2.2.2.2.2.2.1
  have h_by : ∀ j : Nat, nb (I 71 j) = nb (I 121 j) := hr.2.2.2.2.2.2.2.2.2.2.2.1
  have h_tw : ∀ k : Nat, k < 6 → I 129 k = (if (R 89 k).isSome = true then 1 else 0) := hr.2.2.2.2.2.2.2.2.2.2.2.2
  unfold pb_count at p1
  unfold pk_count at p2
  have e1 : I2 103 = I 103 := f1.1 103 (by omega) (by omega)
  have e2 : L2 103 = L 103 := f1.2 103 (by omega) (by omega)
  have e5 : I3 69 = I2 69 := f2.1 69 (by omega)
  obtain ⟨c1, c2, c3, c4, c5⟩ := h_ct
  have h21 : I2 103 21 = I 69 0 := by rw [e1]; exact c1.symm
  have cl : (I 69 0 = 0 ∧ I 69 1 = 0) ∨ (I 69 0 ≠ 0 ∧ (L2 103 22).toInt = (I 69 1).toInt) := by
    rw [e2]; exact c5.imp (fun h => ⟨h.1, h.2.1⟩) (fun h => ⟨h.1, h.2.1⟩)
  have ch : (I 69 0 = 0 ∧ I 69 2 = 2000000000) ∨ (I 69 0 ≠ 0 ∧ (L2 103 23).toInt = (I 69 2).toInt) := by
    rw [e2]; exact c5.imp (fun h => ⟨h.1, h.2.2⟩) (fun h => ⟨h.1, h.2.2⟩)
  have hlo : (1 ≤ v0 ∧ v0 ≤ 9999) → (1 ≤ v1 ∧ v1 ≤ 2000000) → (mLo I2 L2 v0 v1).toInt = (cCf I v0 v1).toInt := fun hu hl => px_lo hu hl h21 c2.1 cl
  have hhi : (1 ≤ v0 ∧ v0 ≤ 9999) → (1 ≤ v2 ∧ v2 ≤ 2000000) → (mHi I2 L2 v0 v2).toInt = (cCt I v0 v2).toInt := fun hu hl => px_hi hu hl h21 c2.1 ch
  rcases p1.2 with ⟨a1, a2, a3⟩ | ⟨a1, a2, a3⟩
  · obtain ⟨⟨t1, t2, t3⟩, t4⟩ := a1
    have u1 : 1 ≤ v1 ∧ v1 ≤ 2000000 := ⟨t3.1, by grind⟩
    have u2 : 1 ≤ v2 ∧ v2 ≤ 2000000 := ⟨by grind, t3.2.2⟩
    rcases p2 with ⟨b1, b2, b3, b4⟩ | ⟨b1, b2, b3, b4⟩
    · refine ⟨by rw [a2, b2, h21], ?_⟩
      have q1 := px_cfb (I := I) t2 u1 c3
      have q2 := px_ctb (I := I) t2 u2 c4
      have w1 := hlo t2 u1
      have w2 := hhi t2 u2
      have d0 : I3 69 0 = I 69 0 + 1 := by rw [e5, a3, px_u_at]
      have d1 : I3 69 1 = cCf I v0 v1 := by rw [e5, a3, px_u_at_ne (by decide), px_u_at_ne (by decide), px_u_at]
      have d2 : I3 69 2 = cCt I v0 v2 := by rw [e5, a3, px_u_at_ne (by decide), px_u_at]
      have d3 : I3 103 21 = I 69 0 + 1 := by rw [b3, px_u_at, h21]
      have d4 : L3 103 22 = mLo I2 L2 v0 v1 := by rw [b4, px_u_at_ne (by decide), px_u_at]
      have d5 : L3 103 23 = mHi I2 L2 v0 v2 := by rw [b4, px_u_at]
      rw [d0, d1, d2, d3, d4, d5]
      exact ⟨rfl, ⟨by grind, by grind⟩, q1, q2, Or.inr ⟨by grind, w1, w2⟩⟩
    · refine absurd ?_ b1
      refine ⟨t2, u1, t3.2, by rw [h21]; grind, ?_⟩
      rw [Int64.le_iff_toInt_le, hlo t2 u1, hhi t2 u2]
      exact Int32.le_iff_toInt_le.mp t4
  · rcases p2 with ⟨b1, b2, b3, b4⟩ | ⟨b1, b2, b3, b4⟩
    · refine absurd ?_ a1
      obtain ⟨t2, t3, t4, t5, t6⟩ := b1
      rw [h21] at t5
      have u2 : 1 ≤ v2 ∧ v2 ≤ 2000000 := ⟨by grind, t4.2⟩
      refine ⟨⟨by grind, t2, t3.1, t4⟩, ?_⟩
      rw [Int64.le_iff_toInt_le, hlo t2 t3, hhi t2 u2] at t6
      exact Int32.le_iff_toInt_le.mpr t6
    · refine ⟨by rw [a2, b2], ?_⟩
      rw [e5, b3, a3, b4, p1.1]
      exact ⟨c1, c2, c3, c4, c5⟩

theorem rel.count {v0 v1 v2 : Int32} {x y : Int32} {n : Nat} {I I2 I3 : px_I} {L L2 L3 : px_L} {R : px_R} (hj : jJ n I R) (hr : rel I L R) (f1 : frB I I2 L L2) {R2 : px_R} (fR : kR R I2 R2) (p1 : pb_count v0 v1 v2 I L x I2 L2) (f2 : frK I2 I3 L2 L3) (p2 : pk_count v0 v1 v2 I2 L2 y I3 L3) : rel I3 L3 R2 := by
  have hq0 := (relq_count hj hr f1 fR p1 f2 p2).2
  have f_32_10 : I3 32 10 = I 32 10 := by rw [f2.1 32 (by omega), eb_count_32_10 p1]
  have f_103_0 : I3 103 0 = I 103 0 := by rw [ek_count_103_0 p2, f1.1 103 (by omega) (by omega)]
  have f_33_7 : I3 33 7 = I 33 7 := by rw [f2.1 33 (by omega), eb_count_33_7 p1]
  have f_103_1 : I3 103 1 = I 103 1 := by rw [ek_count_103_1 p2, f1.1 103 (by omega) (by omega)]
  have f_33_8 : I3 33 8 = I 33 8 := by rw [f2.1 33 (by omega), eb_count_33_8 p1]
  have f_103_2 : I3 103 2 = I 103 2 := by rw [ek_count_103_2 p2, f1.1 103 (by omega) (by omega)]
  have f_41_13 : I3 41 13 = I 41 13 := by rw [f2.1 41 (by omega), eb_count_41_13 p1]
  have f_110_0 : I3 110 0 = I 110 0 := by rw [ek_count_110_0 p2, f1.1 110 (by omega) (by omega)]
  have f_55_13 : I3 55 13 = I 55 13 := by rw [f2.1 55 (by omega), eb_count_55_13 p1]
  have f_110_1 : I3 110 1 = I 110 1 := by rw [ek_count_110_1 p2, f1.1 110 (by omega) (by omega)]
  have f_41_14 : I3 41 14 = I 41 14 := by rw [f2.1 41 (by omega), eb_count_41_14 p1]
  have f_55_14 : I3 55 14 = I 55 14 := by rw [f2.1 55 (by omega), eb_count_55_14 p1]
  have f_103_16 : I3 103 16 = I 103 16 := by rw [ek_count_103_16 p2, f1.1 103 (by omega) (by omega)]
  have f_41_15 : I3 41 15 = I 41 15 := by rw [f2.1 41 (by omega), eb_count_41_15 p1]
  have f_55_15 : I3 55 15 = I 55 15 := by rw [f2.1 55 (by omega), eb_count_55_15 p1]
  have f_103_63 : I3 103 63 = I 103 63 := by rw [ek_count_103_63 p2, f1.1 103 (by omega) (by omega)]
  have f_101_2 : I3 101 2 = I 101 2 := by rw [f2.1 101 (by omega), eb_count_101_2 p1]
  have f_103_68 : I3 103 68 = I 103 68 := by rw [ek_count_103_68 p2, f1.1 103 (by omega) (by omega)]
  have f_102_r : I3 102 = I 102 := by rw [f2.1 102 (by omega), eb_count_102_r p1]
  have f_138_r : I3 138 = I 138 := by rw [ek_count_138_r p2, f1.1 138 (by omega) (by omega)]
  have f_70_5 : I3 70 5 = I 70 5 := by rw [f2.1 70 (by omega), eb_count_70_5 p1]
  have f_103_25 : I3 103 25 = I 103 25 := by rw [ek_count_103_25 p2, f1.1 103 (by omega) (by omega)]
  have f_71_r : I3 71 = I 71 := by rw [f2.1 71 (by omega), eb_count_71_r p1]
  have f_121_r : I3 121 = I 121 := by rw [ek_count_121_r p2, f1.1 121 (by omega) (by omega)]
  have f_129_r : I3 129 = I 129 := by rw [ek_count_129_r p2, f1.1 129 (by omega) (by omega)]
  exact ⟨(by rw [f_32_10, f_103_0]; exact hr.1), (by rw [f_33_7, f_103_1]; exact hr.2.1), (by rw [f_33_8, f_103_2]; exact hr.2.2.1), (by rw [f_41_13, f_110_0]; exact hr.2.2.2.1), (by rw [f_55_13, f_110_1]; exact hr.2.2.2.2.1), (by rw [f_41_14, f_55_14, f_103_16]; exact hr.2.2.2.2.2.1), hq0, (by rw [f_41_15, f_55_15, f_103_63]; exact hr.2.2.2.2.2.2.2.1), (by rw [f_101_2, f_103_68]; exact hr.2.2.2.2.2.2.2.2.1), (by rw [f_102_r, f_138_r]; exact hr.2.2.2.2.2.2.2.2.2.1), (by rw [f_70_5, f_103_25]; exact hr.2.2.2.2.2.2.2.2.2.2.1), (by rw [f_71_r, f_121_r]; exact hr.2.2.2.2.2.2.2.2.2.2.2.1), (tw_eq f_129_r fR hr.2.2.2.2.2.2.2.2.2.2.2.2)⟩

theorem rel.unit {v0 : Int32} {x y : Int32} {n : Nat} {I I2 I3 : px_I} {L L2 L3 : px_L} {R : px_R} (hj : jJ n I R) (hr : rel I L R) (f1 : frB I I2 L L2) {R2 : px_R} (fR : kR R I2 R2) (p1 : pb_unit v0 I L x I2 L2) (f2 : frK I2 I3 L2 L3) (p2 : pk_unit v0 I2 L2 y I3 L3) : rel I3 L3 R2 := by
  have f_32_10 : I3 32 10 = I 32 10 := by rw [f2.1 32 (by omega), eb_unit_32_10 p1]
  have f_103_0 : I3 103 0 = I 103 0 := by rw [ek_unit_103_0 p2, f1.1 103 (by omega) (by omega)]
  have f_33_7 : I3 33 7 = I 33 7 := by rw [f2.1 33 (by omega), eb_unit_33_7 p1]
  have f_103_1 : I3 103 1 = I 103 1 := by rw [ek_unit_103_1 p2, f1.1 103 (by omega) (by omega)]
  have f_33_8 : I3 33 8 = I 33 8 := by rw [f2.1 33 (by omega), eb_unit_33_8 p1]
  have f_103_2 : I3 103 2 = I 103 2 := by rw [ek_unit_103_2 p2, f1.1 103 (by omega) (by omega)]
  have f_41_13 : I3 41 13 = I 41 13 := by rw [f2.1 41 (by omega), eb_unit_41_13 p1]
  have f_110_0 : I3 110 0 = I 110 0 := by rw [ek_unit_110_0 p2, f1.1 110 (by omega) (by omega)]
  have f_55_13 : I3 55 13 = I 55 13 := by rw [f2.1 55 (by omega), eb_unit_55_13 p1]
  have f_110_1 : I3 110 1 = I 110 1 := by rw [ek_unit_110_1 p2, f1.1 110 (by omega) (by omega)]
  have f_41_14 : I3 41 14 = I 41 14 := by rw [f2.1 41 (by omega), eb_unit_41_14 p1]
  have f_55_14 : I3 55 14 = I 55 14 := by rw [f2.1 55 (by omega), eb_unit_55_14 p1]
  have f_103_16 : I3 103 16 = I 103 16 := by rw [ek_unit_103_16 p2, f1.1 103 (by omega) (by omega)]
  have f_69_0 : I3 69 0 = I 69 0 := by rw [f2.1 69 (by omega), eb_unit_69_0 p1]
  have f_69_1 : I3 69 1 = I 69 1 := by rw [f2.1 69 (by omega), eb_unit_69_1 p1]
  have f_69_2 : I3 69 2 = I 69 2 := by rw [f2.1 69 (by omega), eb_unit_69_2 p1]
  have f_103_21 : I3 103 21 = I 103 21 := by rw [ek_unit_103_21 p2, f1.1 103 (by omega) (by omega)]
  have f_L : L3 103 = L 103 := (eL_unit_103 p2).trans (f1.2 103 (by omega) (by omega))
  have f_41_15 : I3 41 15 = I 41 15 := by rw [f2.1 41 (by omega), eb_unit_41_15 p1]
  have f_55_15 : I3 55 15 = I 55 15 := by rw [f2.1 55 (by omega), eb_unit_55_15 p1]
  have f_103_63 : I3 103 63 = I 103 63 := by rw [ek_unit_103_63 p2, f1.1 103 (by omega) (by omega)]
  have f_101_2 : I3 101 2 = I 101 2 := by rw [f2.1 101 (by omega), eb_unit_101_2 p1]
  have f_103_68 : I3 103 68 = I 103 68 := by rw [ek_unit_103_68 p2, f1.1 103 (by omega) (by omega)]
  have f_102_r : I3 102 = I 102 := by rw [f2.1 102 (by omega), eb_unit_102_r p1]
  have f_138_r : I3 138 = I 138 := by rw [ek_unit_138_r p2, f1.1 138 (by omega) (by omega)]
  have f_70_5 : I3 70 5 = I 70 5 := by rw [f2.1 70 (by omega), eb_unit_70_5 p1]
  have f_103_25 : I3 103 25 = I 103 25 := by rw [ek_unit_103_25 p2, f1.1 103 (by omega) (by omega)]
  have f_71_r : I3 71 = I 71 := by rw [f2.1 71 (by omega), eb_unit_71_r p1]
  have f_121_r : I3 121 = I 121 := by rw [ek_unit_121_r p2, f1.1 121 (by omega) (by omega)]
  have f_129_r : I3 129 = I 129 := by rw [ek_unit_129_r p2, f1.1 129 (by omega) (by omega)]
  exact ⟨(by rw [f_32_10, f_103_0]; exact hr.1), (by rw [f_33_7, f_103_1]; exact hr.2.1), (by rw [f_33_8, f_103_2]; exact hr.2.2.1), (by rw [f_41_13, f_110_0]; exact hr.2.2.2.1), (by rw [f_55_13, f_110_1]; exact hr.2.2.2.2.1), (by rw [f_41_14, f_55_14, f_103_16]; exact hr.2.2.2.2.2.1), (by rw [f_69_0, f_69_1, f_69_2, f_103_21, f_L]; exact hr.2.2.2.2.2.2.1), (by rw [f_41_15, f_55_15, f_103_63]; exact hr.2.2.2.2.2.2.2.1), (by rw [f_101_2, f_103_68]; exact hr.2.2.2.2.2.2.2.2.1), (by rw [f_102_r, f_138_r]; exact hr.2.2.2.2.2.2.2.2.2.1), (by rw [f_70_5, f_103_25]; exact hr.2.2.2.2.2.2.2.2.2.2.1), (by rw [f_71_r, f_121_r]; exact hr.2.2.2.2.2.2.2.2.2.2.2.1), (tw_eq f_129_r fR hr.2.2.2.2.2.2.2.2.2.2.2.2)⟩

theorem relq_feed {v0 v1 v2 v3 v4 : Int32} {x y : Int32} {n : Nat} {I I2 I3 : px_I} {L L2 L3 : px_L} {R : px_R} (hj : jJ n I R) (hr : rel I L R) (f1 : frB I I2 L L2) {R2 : px_R} (fR : kR R I2 R2) (p1 : pb_feed v0 v1 v2 v3 v4 I L x I2 L2) (f2 : frK I2 I3 L2 L3) (p2 : pk_feed v0 v1 v2 v3 v4 I2 L2 y I3 L3) : x = y ∧ (I3 70 5 = I3 103 25) := by
  have h_da : I 32 10 = I 103 0 := hr.1
  have h_st : I 33 7 = I 103 1 := hr.2.1
  have h_si : I 33 8 = I 103 2 := hr.2.2.1
  have h_pA : I 41 13 = I 110 0 := hr.2.2.2.1
  have h_pB : I 55 13 = I 110 1 := hr.2.2.2.2.1
  have h_mk : I 41 14 + I 55 14 = I 103 16 := hr.2.2.2.2.2.1
  have h_ct : I 69 0 = I 103 21 ∧ (0 ≤ I 69 0 ∧ I 69 0 ≤ 30) ∧ (0 ≤ I 69 1 ∧ I 69 1 ≤ 2000009998) ∧ (0 ≤ I 69 2 ∧ I 69 2 ≤ 2000000000) ∧ ((I 69 0 = 0 ∧ I 69 1 = 0 ∧ I 69 2 = 2000000000) ∨ (I 69 0 ≠ 0 ∧ (L 103 22).toInt = (I 69 1).toInt ∧ (L 103 23).toInt = (I 69 2).toInt)) := hr.2.2.2.2.2.2.1
  have h_rp : I 41 15 + I 55 15 = I 103 63 := hr.2.2.2.2.2.2.2.1
  have h_li : I 101 2 = I 103 68 := hr.2.2.2.2.2.2.2.2.1
  have h_tb : ∀ k : Nat, I 102 k = I 138 k := hr.2.2.2.2.2.2.2.2.2.1
  have h_fd : I 70 5 = I 103 25 := hr.2.2.2.2.2.2.2.2.2.2.1
  have h_by : ∀ j : Nat, nb (I 71 j) = nb (I 121 j) := hr.2.2.2.2.2.2.2.2.2.2.2.1
  have h_tw : ∀ k : Nat, k < 6 → I 129 k = (if (R 89 k).isSome = true then 1 else 0) := hr.2.2.2.2.2.2.2.2.2.2.2.2
  unfold pb_feed at p1
  unfold pk_feed at p2
  have e1 : I2 103 = I 103 := f1.1 103 (by omega) (by omega)
  have e5 : I3 70 = I2 70 := f2.1 70 (by omega)
  rcases p1.2 with ⟨a1, a2, a3⟩ | ⟨a1, a2, a3⟩
  · rcases p2.2 with ⟨b1, b2, b3⟩ | ⟨b1, b2, b3⟩
    · refine ⟨by rw [a2, b2, e1, ← h_fd], ?_⟩
      rw [e5, b3, mPut_25, mPut_25, mPut_25, mPut_25, mPut_25, e1, ← h_fd, a3, cApp_5, cApp_5, cApp_5, cApp_5, cApp_5]
    · exact absurd (by rw [e1, ← h_fd]; exact a1) b1
  · rcases p2.2 with ⟨b1, b2, b3⟩ | ⟨b1, b2, b3⟩
    · exact absurd (by rw [e1, ← h_fd] at b1; exact b1) a1
    · exact ⟨by rw [a2, b2], by rw [e5, b3, e1, a3]; exact h_fd⟩

theorem relq_feed_1 {v0 v1 v2 v3 v4 : Int32} {x y : Int32} {n : Nat} {I I2 I3 : px_I} {L L2 L3 : px_L} {R : px_R} (hj : jJ n I R) (hr : rel I L R) (f1 : frB I I2 L L2) {R2 : px_R} (fR : kR R I2 R2) (p1 : pb_feed v0 v1 v2 v3 v4 I L x I2 L2) (f2 : frK I2 I3 L2 L3) (p2 : pk_feed v0 v1 v2 v3 v4 I2 L2 y I3 L3) : (∀ j : Nat, nb (I3 71 j) = nb (I3 121 j)) := by
  have h_da : I 32 10 = I 103 0 := hr.1
  have h_st : I 33 7 = I 103 1 := hr.2.1
  have h_si : I 33 8 = I 103 2 := hr.2.2.1
  have h_pA : I 41 13 = I 110 0 := hr.2.2.2.1
  have h_pB : I 55 13 = I 110 1 := hr.2.2.2.2.1
  have h_mk : I 41 14 + I 55 14 = I 103 16 := hr.2.2.2.2.2.1
  have h_ct : I 69 0 = I 103 21 ∧ (0 ≤ I 69 0 ∧ I 69 0 ≤ 30) ∧ (0 ≤ I 69 1 ∧ I 69 1 ≤ 2000009998) ∧ (0 ≤ I 69 2 ∧ I 69 2 ≤ 2000000000) ∧ ((I 69 0 = 0 ∧ I 69 1 = 0 ∧ I 69 2 = 2000000000) ∨ (I 69 0 ≠ 0 ∧ (L 103 22).toInt = (I 69 1).toInt ∧ (L 103 23).toInt = (I 69 2).toInt)) := hr.2.2.2.2.2.2.1
  have h_rp : I 41 15 + I 55 15 = I 103 63 := hr.2.2.2.2.2.2.2.1
  have h_li : I 101 2 = I 103 68 := hr.2.2.2.2.2.2.2.2.1
  have h_tb : ∀ k : Nat, I 102 k = I 138 k := hr.2.2.2.2.2.2.2.2.2.1
  have h_fd : I 70 5 = I 103 25 := hr.2.2.2.2.2.2.2.2.2.2.1
  have h_by : ∀ j : Nat, nb (I 71 j) = nb (I 121 j) := hr.2.2.2.2.2.2.2.2.2.2.2.1
  have h_tw : ∀ k : Nat, k < 6 → I 129 k = (if (R 89 k).isSome = true then 1 else 0) := hr.2.2.2.2.2.2.2.2.2.2.2.2
  have hxy := (relq_feed hj hr f1 fR p1 f2 p2).1
  unfold pb_feed at p1
  unfold pk_feed at p2
  have e1 : I2 103 = I 103 := f1.1 103 (by omega) (by omega)
  have e9 : I2 121 = I 121 := f1.1 121 (by omega) (by omega)
  have e7 : I3 71 = I2 71 := f2.1 71 (by omega)
  rw [e7]
  have y0 : I 70 5 = I2 103 25 := by rw [e1]; exact h_fd
  have y1 : ∀ j : Nat, nb (I 71 j) = nb (I2 121 j) := by rw [e9]; exact h_by
  rcases p1.2 with ⟨a1, a2, a3⟩ | ⟨a1, a2, a3⟩
  · rcases p2.2 with ⟨b1, b2, b3⟩ | ⟨b1, b2, b3⟩
    · have z1 := zFeed (x := v0) y0 y1
      have z2 := zFeed (x := v1) z1.1 z1.2
      have z3 := zFeed (x := v2) z2.1 z2.2
      have z4 := zFeed (x := v3) z3.1 z3.2
      have z5 := zFeed (x := v4) z4.1 z4.2
      rw [a3, b3]
      exact z5.2
    · exact absurd (by rw [← y0]; exact a1) b1
  · rcases p2.2 with ⟨b1, b2, b3⟩ | ⟨b1, b2, b3⟩
    · exact absurd (by rw [y0]; exact b1) a1
    · rw [a3, b3]; exact y1

theorem rel.feed {v0 v1 v2 v3 v4 : Int32} {x y : Int32} {n : Nat} {I I2 I3 : px_I} {L L2 L3 : px_L} {R : px_R} (hj : jJ n I R) (hr : rel I L R) (f1 : frB I I2 L L2) {R2 : px_R} (fR : kR R I2 R2) (p1 : pb_feed v0 v1 v2 v3 v4 I L x I2 L2) (f2 : frK I2 I3 L2 L3) (p2 : pk_feed v0 v1 v2 v3 v4 I2 L2 y I3 L3) : rel I3 L3 R2 := by
  have hq0 := (relq_feed hj hr f1 fR p1 f2 p2).2
  have hq1 := relq_feed_1 hj hr f1 fR p1 f2 p2
  have f_32_10 : I3 32 10 = I 32 10 := by rw [f2.1 32 (by omega), eb_feed_32_10 p1]
  have f_103_0 : I3 103 0 = I 103 0 := by rw [ek_feed_103_0 p2, f1.1 103 (by omega) (by omega)]
  have f_33_7 : I3 33 7 = I 33 7 := by rw [f2.1 33 (by omega), eb_feed_33_7 p1]
  have f_103_1 : I3 103 1 = I 103 1 := by rw [ek_feed_103_1 p2, f1.1 103 (by omega) (by omega)]
  have f_33_8 : I3 33 8 = I 33 8 := by rw [f2.1 33 (by omega), eb_feed_33_8 p1]
  have f_103_2 : I3 103 2 = I 103 2 := by rw [ek_feed_103_2 p2, f1.1 103 (by omega) (by omega)]
  have f_41_13 : I3 41 13 = I 41 13 := by rw [f2.1 41 (by omega), eb_feed_41_13 p1]
  have f_110_0 : I3 110 0 = I 110 0 := by rw [ek_feed_110_0 p2, f1.1 110 (by omega) (by omega)]
  have f_55_13 : I3 55 13 = I 55 13 := by rw [f2.1 55 (by omega), eb_feed_55_13 p1]
  have f_110_1 : I3 110 1 = I 110 1 := by rw [ek_feed_110_1 p2, f1.1 110 (by omega) (by omega)]
  have f_41_14 : I3 41 14 = I 41 14 := by rw [f2.1 41 (by omega), eb_feed_41_14 p1]
  have f_55_14 : I3 55 14 = I 55 14 := by rw [f2.1 55 (by omega), eb_feed_55_14 p1]
  have f_103_16 : I3 103 16 = I 103 16 := by rw [ek_feed_103_16 p2, f1.1 103 (by omega) (by omega)]
  have f_69_0 : I3 69 0 = I 69 0 := by rw [f2.1 69 (by omega), eb_feed_69_0 p1]
  have f_69_1 : I3 69 1 = I 69 1 := by rw [f2.1 69 (by omega), eb_feed_69_1 p1]
  have f_69_2 : I3 69 2 = I 69 2 := by rw [f2.1 69 (by omega), eb_feed_69_2 p1]
  have f_103_21 : I3 103 21 = I 103 21 := by rw [ek_feed_103_21 p2, f1.1 103 (by omega) (by omega)]
  have f_L : L3 103 = L 103 := (eL_feed_103 p2).trans (f1.2 103 (by omega) (by omega))
  have f_41_15 : I3 41 15 = I 41 15 := by rw [f2.1 41 (by omega), eb_feed_41_15 p1]
  have f_55_15 : I3 55 15 = I 55 15 := by rw [f2.1 55 (by omega), eb_feed_55_15 p1]
  have f_103_63 : I3 103 63 = I 103 63 := by rw [ek_feed_103_63 p2, f1.1 103 (by omega) (by omega)]
  have f_101_2 : I3 101 2 = I 101 2 := by rw [f2.1 101 (by omega), eb_feed_101_2 p1]
  have f_103_68 : I3 103 68 = I 103 68 := by rw [ek_feed_103_68 p2, f1.1 103 (by omega) (by omega)]
  have f_102_r : I3 102 = I 102 := by rw [f2.1 102 (by omega), eb_feed_102_r p1]
  have f_138_r : I3 138 = I 138 := by rw [ek_feed_138_r p2, f1.1 138 (by omega) (by omega)]
  have f_129_r : I3 129 = I 129 := by rw [ek_feed_129_r p2, f1.1 129 (by omega) (by omega)]
  exact ⟨(by rw [f_32_10, f_103_0]; exact hr.1), (by rw [f_33_7, f_103_1]; exact hr.2.1), (by rw [f_33_8, f_103_2]; exact hr.2.2.1), (by rw [f_41_13, f_110_0]; exact hr.2.2.2.1), (by rw [f_55_13, f_110_1]; exact hr.2.2.2.2.1), (by rw [f_41_14, f_55_14, f_103_16]; exact hr.2.2.2.2.2.1), (by rw [f_69_0, f_69_1, f_69_2, f_103_21, f_L]; exact hr.2.2.2.2.2.2.1), (by rw [f_41_15, f_55_15, f_103_63]; exact hr.2.2.2.2.2.2.2.1), (by rw [f_101_2, f_103_68]; exact hr.2.2.2.2.2.2.2.2.1), (by rw [f_102_r, f_138_r]; exact hr.2.2.2.2.2.2.2.2.2.1), hq0, hq1, (tw_eq f_129_r fR hr.2.2.2.2.2.2.2.2.2.2.2.2)⟩

theorem relq_end {v0 : Int32} {x y : Int32} {n : Nat} {I I2 I3 : px_I} {L L2 L3 : px_L} {R : px_R} (hj : jJ n I R) (hr : rel I L R) (f1 : frB I I2 L L2) {R2 : px_R} (fR : kR R I2 R2) (p1 : pb_end v0 I L x I2 L2) (f2 : frK I2 I3 L2 L3) (p2 : pk_end v0 I2 L2 y I3 L3) : x = y ∧ (I3 70 5 = I3 103 25) := by
  have h_da : I 32 10 = I 103 0 := hr.1
  have h_st : I 33 7 = I 103 1 := hr.2.1
  have h_si : I 33 8 = I 103 2 := hr.2.2.1
  have h_pA : I 41 13 = I 110 0 := hr.2.2.2.1
  have h_pB : I 55 13 = I 110 1 := hr.2.2.2.2.1
  have h_mk : I 41 14 + I 55 14 = I 103 16 := hr.2.2.2.2.2.1
  have h_ct : I 69 0 = I 103 21 ∧ (0 ≤ I 69 0 ∧ I 69 0 ≤ 30) ∧ (0 ≤ I 69 1 ∧ I 69 1 ≤ 2000009998) ∧ (0 ≤ I 69 2 ∧ I 69 2 ≤ 2000000000) ∧ ((I 69 0 = 0 ∧ I 69 1 = 0 ∧ I 69 2 = 2000000000) ∨ (I 69 0 ≠ 0 ∧ (L 103 22).toInt = (I 69 1).toInt ∧ (L 103 23).toInt = (I 69 2).toInt)) := hr.2.2.2.2.2.2.1
  have h_rp : I 41 15 + I 55 15 = I 103 63 := hr.2.2.2.2.2.2.2.1
  have h_li : I 101 2 = I 103 68 := hr.2.2.2.2.2.2.2.2.1
  have h_tb : ∀ k : Nat, I 102 k = I 138 k := hr.2.2.2.2.2.2.2.2.2.1
  have h_fd : I 70 5 = I 103 25 := hr.2.2.2.2.2.2.2.2.2.2.1
  have h_by : ∀ j : Nat, nb (I 71 j) = nb (I 121 j) := hr.2.2.2.2.2.2.2.2.2.2.2.1
  have h_tw : ∀ k : Nat, k < 6 → I 129 k = (if (R 89 k).isSome = true then 1 else 0) := hr.2.2.2.2.2.2.2.2.2.2.2.2
  unfold pb_end at p1
  unfold pk_end at p2
  have e1 : I2 103 = I 103 := f1.1 103 (by omega) (by omega)
  have e5 : I3 70 = I2 70 := f2.1 70 (by omega)
  rcases p1.2 with ⟨a1, a2, a3⟩ | ⟨a1, a2, a3⟩
  · rcases p2.2 with ⟨b0, b1, b2, b3⟩ | ⟨b1, b2, b3⟩
    · exact ⟨by rw [a2, b2], by rw [e5, b3, a3, px_u_at, px_u_at]⟩
    · exact absurd (by rw [e1, ← h_fd]; exact a1) b1
  · rcases p2.2 with ⟨b0, b1, b2, b3⟩ | ⟨b1, b2, b3⟩
    · exact absurd (by rw [e1, ← h_fd] at b1; exact ⟨b0, b1⟩) a1
    · exact ⟨by rw [a2, b2], by rw [e5, b3, e1, a3]; exact h_fd⟩

theorem rel.end {v0 : Int32} {x y : Int32} {n : Nat} {I I2 I3 : px_I} {L L2 L3 : px_L} {R : px_R} (hj : jJ n I R) (hr : rel I L R) (f1 : frB I I2 L L2) {R2 : px_R} (fR : kR R I2 R2) (p1 : pb_end v0 I L x I2 L2) (f2 : frK I2 I3 L2 L3) (p2 : pk_end v0 I2 L2 y I3 L3) : rel I3 L3 R2 := by
  have hq0 := (relq_end hj hr f1 fR p1 f2 p2).2
  have f_32_10 : I3 32 10 = I 32 10 := by rw [f2.1 32 (by omega), eb_end_32_10 p1]
  have f_103_0 : I3 103 0 = I 103 0 := by rw [ek_end_103_0 p2, f1.1 103 (by omega) (by omega)]
  have f_33_7 : I3 33 7 = I 33 7 := by rw [f2.1 33 (by omega), eb_end_33_7 p1]
  have f_103_1 : I3 103 1 = I 103 1 := by rw [ek_end_103_1 p2, f1.1 103 (by omega) (by omega)]
  have f_33_8 : I3 33 8 = I 33 8 := by rw [f2.1 33 (by omega), eb_end_33_8 p1]
  have f_103_2 : I3 103 2 = I 103 2 := by rw [ek_end_103_2 p2, f1.1 103 (by omega) (by omega)]
  have f_41_13 : I3 41 13 = I 41 13 := by rw [f2.1 41 (by omega), eb_end_41_13 p1]
  have f_110_0 : I3 110 0 = I 110 0 := by rw [ek_end_110_0 p2, f1.1 110 (by omega) (by omega)]
  have f_55_13 : I3 55 13 = I 55 13 := by rw [f2.1 55 (by omega), eb_end_55_13 p1]
  have f_110_1 : I3 110 1 = I 110 1 := by rw [ek_end_110_1 p2, f1.1 110 (by omega) (by omega)]
  have f_41_14 : I3 41 14 = I 41 14 := by rw [f2.1 41 (by omega), eb_end_41_14 p1]
  have f_55_14 : I3 55 14 = I 55 14 := by rw [f2.1 55 (by omega), eb_end_55_14 p1]
  have f_103_16 : I3 103 16 = I 103 16 := by rw [ek_end_103_16 p2, f1.1 103 (by omega) (by omega)]
  have f_69_0 : I3 69 0 = I 69 0 := by rw [f2.1 69 (by omega), eb_end_69_0 p1]
  have f_69_1 : I3 69 1 = I 69 1 := by rw [f2.1 69 (by omega), eb_end_69_1 p1]
  have f_69_2 : I3 69 2 = I 69 2 := by rw [f2.1 69 (by omega), eb_end_69_2 p1]
  have f_103_21 : I3 103 21 = I 103 21 := by rw [ek_end_103_21 p2, f1.1 103 (by omega) (by omega)]
  have f_L : L3 103 = L 103 := (eL_end_103 p2).trans (f1.2 103 (by omega) (by omega))
  have f_41_15 : I3 41 15 = I 41 15 := by rw [f2.1 41 (by omega), eb_end_41_15 p1]
  have f_55_15 : I3 55 15 = I 55 15 := by rw [f2.1 55 (by omega), eb_end_55_15 p1]
  have f_103_63 : I3 103 63 = I 103 63 := by rw [ek_end_103_63 p2, f1.1 103 (by omega) (by omega)]
  have f_101_2 : I3 101 2 = I 101 2 := by rw [f2.1 101 (by omega), eb_end_101_2 p1]
  have f_103_68 : I3 103 68 = I 103 68 := by rw [ek_end_103_68 p2, f1.1 103 (by omega) (by omega)]
  have f_102_r : I3 102 = I 102 := by rw [f2.1 102 (by omega), eb_end_102_r p1]
  have f_138_r : I3 138 = I 138 := by rw [ek_end_138_r p2, f1.1 138 (by omega) (by omega)]
  have f_71_r : I3 71 = I 71 := by rw [f2.1 71 (by omega), eb_end_71_r p1]
  have f_121_r : I3 121 = I 121 := by rw [ek_end_121_r p2, f1.1 121 (by omega) (by omega)]
  have f_129_r : I3 129 = I 129 := by rw [ek_end_129_r p2, f1.1 129 (by omega) (by omega)]
  exact ⟨(by rw [f_32_10, f_103_0]; exact hr.1), (by rw [f_33_7, f_103_1]; exact hr.2.1), (by rw [f_33_8, f_103_2]; exact hr.2.2.1), (by rw [f_41_13, f_110_0]; exact hr.2.2.2.1), (by rw [f_55_13, f_110_1]; exact hr.2.2.2.2.1), (by rw [f_41_14, f_55_14, f_103_16]; exact hr.2.2.2.2.2.1), (by rw [f_69_0, f_69_1, f_69_2, f_103_21, f_L]; exact hr.2.2.2.2.2.2.1), (by rw [f_41_15, f_55_15, f_103_63]; exact hr.2.2.2.2.2.2.2.1), (by rw [f_101_2, f_103_68]; exact hr.2.2.2.2.2.2.2.2.1), (by rw [f_102_r, f_138_r]; exact hr.2.2.2.2.2.2.2.2.2.1), hq0, (by rw [f_71_r, f_121_r]; exact hr.2.2.2.2.2.2.2.2.2.2.2.1), (tw_eq f_129_r fR hr.2.2.2.2.2.2.2.2.2.2.2.2)⟩

theorem relq_way {v0 : Int32} {x y : Int32} {n : Nat} {I I2 I3 : px_I} {L L2 L3 : px_L} {R : px_R} (hj : jJ n I R) (hr : rel I L R) (f1 : frB I I2 L L2) {R2 : px_R} (fR : wR v0 R I2 R2) (p1 : pbs_way v0 I L x I2 L2) (f2 : frK I2 I3 L2 L3) (p2 : pks_way v0 I2 L2 y I3 L3) : (I3 70 5 = I3 103 25) := by
  have h_da : I 32 10 = I 103 0 := hr.1
  have h_st : I 33 7 = I 103 1 := hr.2.1
  have h_si : I 33 8 = I 103 2 := hr.2.2.1
  have h_pA : I 41 13 = I 110 0 := hr.2.2.2.1
  have h_pB : I 55 13 = I 110 1 := hr.2.2.2.2.1
  have h_mk : I 41 14 + I 55 14 = I 103 16 := hr.2.2.2.2.2.1
  have h_ct : I 69 0 = I 103 21 ∧ (0 ≤ I 69 0 ∧ I 69 0 ≤ 30) ∧ (0 ≤ I 69 1 ∧ I 69 1 ≤ 2000009998) ∧ (0 ≤ I 69 2 ∧ I 69 2 ≤ 2000000000) ∧ ((I 69 0 = 0 ∧ I 69 1 = 0 ∧ I 69 2 = 2000000000) ∨ (I 69 0 ≠ 0 ∧ (L 103 22).toInt = (I 69 1).toInt ∧ (L 103 23).toInt = (I 69 2).toInt)) := hr.2.2.2.2.2.2.1
  have h_rp : I 41 15 + I 55 15 = I 103 63 := hr.2.2.2.2.2.2.2.1
  have h_li : I 101 2 = I 103 68 := hr.2.2.2.2.2.2.2.2.1
  have h_tb : ∀ k : Nat, I 102 k = I 138 k := hr.2.2.2.2.2.2.2.2.2.1
  have h_fd : I 70 5 = I 103 25 := hr.2.2.2.2.2.2.2.2.2.2.1
  have h_by : ∀ j : Nat, nb (I 71 j) = nb (I 121 j) := hr.2.2.2.2.2.2.2.2.2.2.2.1
  have h_tw : ∀ k : Nat, k < 6 → I 129 k = (if (R 89 k).isSome = true then 1 else 0) := hr.2.2.2.2.2.2.2.2.2.2.2.2
  unfold pbs_way at p1
  unfold pks_way at p2
  have e5 : I3 70 = I2 70 := f2.1 70 (by omega)
  have e1 : I2 103 = I 103 := f1.1 103 (by omega) (by omega)
  have e9 : I2 121 = I 121 := f1.1 121 (by omega) (by omega)
  obtain ⟨p1, qb⟩ := p1
  obtain ⟨p2, qk⟩ := p2
  have fd3 : I3 70 5 = I3 103 25 := by
    have q := p1.2.2
    rw [e5, q]
    rcases p2.2 with ⟨b1, b2, b3⟩ | ⟨b1, b2⟩
    · rw [b3, e1, if_neg (by grind)]; exact h_fd
    · rw [b2.2.1, if_pos (by grind)]
  exact fd3

theorem relq_way_1 {v0 : Int32} {x y : Int32} {n : Nat} {I I2 I3 : px_I} {L L2 L3 : px_L} {R : px_R} (hj : jJ n I R) (hr : rel I L R) (f1 : frB I I2 L L2) {R2 : px_R} (fR : wR v0 R I2 R2) (p1 : pbs_way v0 I L x I2 L2) (f2 : frK I2 I3 L2 L3) (p2 : pks_way v0 I2 L2 y I3 L3) : (∀ k : Nat, k < 6 → I3 129 k = (if (R2 89 k).isSome = true then 1 else 0)) := by
  have h_da : I 32 10 = I 103 0 := hr.1
  have h_st : I 33 7 = I 103 1 := hr.2.1
  have h_si : I 33 8 = I 103 2 := hr.2.2.1
  have h_pA : I 41 13 = I 110 0 := hr.2.2.2.1
  have h_pB : I 55 13 = I 110 1 := hr.2.2.2.2.1
  have h_mk : I 41 14 + I 55 14 = I 103 16 := hr.2.2.2.2.2.1
  have h_ct : I 69 0 = I 103 21 ∧ (0 ≤ I 69 0 ∧ I 69 0 ≤ 30) ∧ (0 ≤ I 69 1 ∧ I 69 1 ≤ 2000009998) ∧ (0 ≤ I 69 2 ∧ I 69 2 ≤ 2000000000) ∧ ((I 69 0 = 0 ∧ I 69 1 = 0 ∧ I 69 2 = 2000000000) ∨ (I 69 0 ≠ 0 ∧ (L 103 22).toInt = (I 69 1).toInt ∧ (L 103 23).toInt = (I 69 2).toInt)) := hr.2.2.2.2.2.2.1
  have h_rp : I 41 15 + I 55 15 = I 103 63 := hr.2.2.2.2.2.2.2.1
  have h_li : I 101 2 = I 103 68 := hr.2.2.2.2.2.2.2.2.1
  have h_tb : ∀ k : Nat, I 102 k = I 138 k := hr.2.2.2.2.2.2.2.2.2.1
  have h_fd : I 70 5 = I 103 25 := hr.2.2.2.2.2.2.2.2.2.2.1
  have h_by : ∀ j : Nat, nb (I 71 j) = nb (I 121 j) := hr.2.2.2.2.2.2.2.2.2.2.2.1
  have h_tw : ∀ k : Nat, k < 6 → I 129 k = (if (R 89 k).isSome = true then 1 else 0) := hr.2.2.2.2.2.2.2.2.2.2.2.2
  unfold pbs_way at p1
  unfold pks_way at p2
  have e5 : I3 70 = I2 70 := f2.1 70 (by omega)
  have e1 : I2 103 = I 103 := f1.1 103 (by omega) (by omega)
  have e9 : I2 121 = I 121 := f1.1 121 (by omega) (by omega)
  obtain ⟨p1, qb⟩ := p1
  obtain ⟨p2, qk⟩ := p2
  have fd3 : I3 70 5 = I3 103 25 := by
    have q := p1.2.2
    rw [e5, q]
    rcases p2.2 with ⟨b1, b2, b3⟩ | ⟨b1, b2⟩
    · rw [b3, e1, if_neg (by grind)]; exact h_fd
    · rw [b2.2.1, if_pos (by grind)]
  have e6 : I3 76 = I2 76 := f2.1 76 (by omega)
  have e129 : I2 129 = I 129 := f1.1 129 (by omega) (by omega)
  obtain ⟨z1, z2⟩ := zBy (I := I) (J := I2) (by rw [e1]; exact h_fd) (by rw [e9]; exact h_by)
  exact tw_way e129 h_tw z1 z2 qb qk fR

theorem rel.way {v0 : Int32} {x y : Int32} {n : Nat} {I I2 I3 : px_I} {L L2 L3 : px_L} {R : px_R} (hj : jJ n I R) (hr : rel I L R) (f1 : frB I I2 L L2) {R2 : px_R} (fR : wR v0 R I2 R2) (p1 : pbs_way v0 I L x I2 L2) (f2 : frK I2 I3 L2 L3) (p2 : pks_way v0 I2 L2 y I3 L3) : rel I3 L3 R2 := by
  have hq0 := relq_way hj hr f1 fR p1 f2 p2
  have hq1 := relq_way_1 hj hr f1 fR p1 f2 p2
  have f_32_10 : I3 32 10 = I 32 10 := by rw [f2.1 32 (by omega), eb_way_32_10 (pbs_way.old p1)]
  have f_103_0 : I3 103 0 = I 103 0 := by rw [ek_way_103_0 (pks_way.old p2), f1.1 103 (by omega) (by omega)]
  have f_33_7 : I3 33 7 = I 33 7 := by rw [f2.1 33 (by omega), eb_way_33_7 (pbs_way.old p1)]
  have f_103_1 : I3 103 1 = I 103 1 := by rw [ek_way_103_1 (pks_way.old p2), f1.1 103 (by omega) (by omega)]
  have f_33_8 : I3 33 8 = I 33 8 := by rw [f2.1 33 (by omega), eb_way_33_8 (pbs_way.old p1)]
  have f_103_2 : I3 103 2 = I 103 2 := by rw [ek_way_103_2 (pks_way.old p2), f1.1 103 (by omega) (by omega)]
  have f_41_13 : I3 41 13 = I 41 13 := by rw [f2.1 41 (by omega), eb_way_41_13 (pbs_way.old p1)]
  have f_110_0 : I3 110 0 = I 110 0 := by rw [ek_way_110_0 (pks_way.old p2), f1.1 110 (by omega) (by omega)]
  have f_55_13 : I3 55 13 = I 55 13 := by rw [f2.1 55 (by omega), eb_way_55_13 (pbs_way.old p1)]
  have f_110_1 : I3 110 1 = I 110 1 := by rw [ek_way_110_1 (pks_way.old p2), f1.1 110 (by omega) (by omega)]
  have f_41_14 : I3 41 14 = I 41 14 := by rw [f2.1 41 (by omega), eb_way_41_14 (pbs_way.old p1)]
  have f_55_14 : I3 55 14 = I 55 14 := by rw [f2.1 55 (by omega), eb_way_55_14 (pbs_way.old p1)]
  have f_103_16 : I3 103 16 = I 103 16 := by rw [ek_way_103_16 (pks_way.old p2), f1.1 103 (by omega) (by omega)]
  have f_69_0 : I3 69 0 = I 69 0 := by rw [f2.1 69 (by omega), eb_way_69_0 (pbs_way.old p1)]
  have f_69_1 : I3 69 1 = I 69 1 := by rw [f2.1 69 (by omega), eb_way_69_1 (pbs_way.old p1)]
  have f_69_2 : I3 69 2 = I 69 2 := by rw [f2.1 69 (by omega), eb_way_69_2 (pbs_way.old p1)]
  have f_103_21 : I3 103 21 = I 103 21 := by rw [ek_way_103_21 (pks_way.old p2), f1.1 103 (by omega) (by omega)]
  have f_L : L3 103 = L 103 := (eL_way_103 (pks_way.old p2)).trans (f1.2 103 (by omega) (by omega))
  have f_41_15 : I3 41 15 = I 41 15 := by rw [f2.1 41 (by omega), eb_way_41_15 (pbs_way.old p1)]
  have f_55_15 : I3 55 15 = I 55 15 := by rw [f2.1 55 (by omega), eb_way_55_15 (pbs_way.old p1)]
  have f_103_63 : I3 103 63 = I 103 63 := by rw [ek_way_103_63 (pks_way.old p2), f1.1 103 (by omega) (by omega)]
  have f_101_2 : I3 101 2 = I 101 2 := by rw [f2.1 101 (by omega), eb_way_101_2 (pbs_way.old p1)]
  have f_103_68 : I3 103 68 = I 103 68 := by rw [ek_way_103_68 (pks_way.old p2), f1.1 103 (by omega) (by omega)]
  have f_102_r : I3 102 = I 102 := by rw [f2.1 102 (by omega), eb_way_102_r (pbs_way.old p1)]
  have f_138_r : I3 138 = I 138 := by rw [ek_way_138_r (pks_way.old p2), f1.1 138 (by omega) (by omega)]
  have f_71_r : I3 71 = I 71 := by rw [f2.1 71 (by omega), eb_way_71_r (pbs_way.old p1)]
  have f_121_r : I3 121 = I 121 := by rw [ek_way_121_r (pks_way.old p2), f1.1 121 (by omega) (by omega)]
  exact ⟨(by rw [f_32_10, f_103_0]; exact hr.1), (by rw [f_33_7, f_103_1]; exact hr.2.1), (by rw [f_33_8, f_103_2]; exact hr.2.2.1), (by rw [f_41_13, f_110_0]; exact hr.2.2.2.1), (by rw [f_55_13, f_110_1]; exact hr.2.2.2.2.1), (by rw [f_41_14, f_55_14, f_103_16]; exact hr.2.2.2.2.2.1), (by rw [f_69_0, f_69_1, f_69_2, f_103_21, f_L]; exact hr.2.2.2.2.2.2.1), (by rw [f_41_15, f_55_15, f_103_63]; exact hr.2.2.2.2.2.2.2.1), (by rw [f_101_2, f_103_68]; exact hr.2.2.2.2.2.2.2.2.1), (by rw [f_102_r, f_138_r]; exact hr.2.2.2.2.2.2.2.2.2.1), hq0, (by rw [f_71_r, f_121_r]; exact hr.2.2.2.2.2.2.2.2.2.2.2.1), hq1⟩

theorem rel.fault {v0 : Int32} {x y : Int32} {n : Nat} {I I2 I3 : px_I} {L L2 L3 : px_L} {R : px_R} (hj : jJ n I R) (hr : rel I L R) (f1 : frB I I2 L L2) {R2 : px_R} (fR : kR R I2 R2) (p1 : pb_fault v0 I L x I2 L2) (f2 : frK I2 I3 L2 L3) (p2 : pk_fault v0 I2 L2 y I3 L3) : rel I3 L3 R2 := by
  have f_32_10 : I3 32 10 = I 32 10 := by rw [f2.1 32 (by omega), eb_fault_32_10 p1]
  have f_103_0 : I3 103 0 = I 103 0 := by rw [ek_fault_103_0 p2, f1.1 103 (by omega) (by omega)]
  have f_33_7 : I3 33 7 = I 33 7 := by rw [f2.1 33 (by omega), eb_fault_33_7 p1]
  have f_103_1 : I3 103 1 = I 103 1 := by rw [ek_fault_103_1 p2, f1.1 103 (by omega) (by omega)]
  have f_33_8 : I3 33 8 = I 33 8 := by rw [f2.1 33 (by omega), eb_fault_33_8 p1]
  have f_103_2 : I3 103 2 = I 103 2 := by rw [ek_fault_103_2 p2, f1.1 103 (by omega) (by omega)]
  have f_41_13 : I3 41 13 = I 41 13 := by rw [f2.1 41 (by omega), eb_fault_41_13 p1]
  have f_110_0 : I3 110 0 = I 110 0 := by rw [ek_fault_110_0 p2, f1.1 110 (by omega) (by omega)]
  have f_55_13 : I3 55 13 = I 55 13 := by rw [f2.1 55 (by omega), eb_fault_55_13 p1]
  have f_110_1 : I3 110 1 = I 110 1 := by rw [ek_fault_110_1 p2, f1.1 110 (by omega) (by omega)]
  have f_41_14 : I3 41 14 = I 41 14 := by rw [f2.1 41 (by omega), eb_fault_41_14 p1]
  have f_55_14 : I3 55 14 = I 55 14 := by rw [f2.1 55 (by omega), eb_fault_55_14 p1]
  have f_103_16 : I3 103 16 = I 103 16 := by rw [ek_fault_103_16 p2, f1.1 103 (by omega) (by omega)]
  have f_69_0 : I3 69 0 = I 69 0 := by rw [f2.1 69 (by omega), eb_fault_69_0 p1]
  have f_69_1 : I3 69 1 = I 69 1 := by rw [f2.1 69 (by omega), eb_fault_69_1 p1]
  have f_69_2 : I3 69 2 = I 69 2 := by rw [f2.1 69 (by omega), eb_fault_69_2 p1]
  have f_103_21 : I3 103 21 = I 103 21 := by rw [ek_fault_103_21 p2, f1.1 103 (by omega) (by omega)]
  have f_L : L3 103 = L 103 := (eL_fault_103 p2).trans (f1.2 103 (by omega) (by omega))
  have f_41_15 : I3 41 15 = I 41 15 := by rw [f2.1 41 (by omega), eb_fault_41_15 p1]
  have f_55_15 : I3 55 15 = I 55 15 := by rw [f2.1 55 (by omega), eb_fault_55_15 p1]
  have f_103_63 : I3 103 63 = I 103 63 := by rw [ek_fault_103_63 p2, f1.1 103 (by omega) (by omega)]
  have f_101_2 : I3 101 2 = I 101 2 := by rw [f2.1 101 (by omega), eb_fault_101_2 p1]
  have f_103_68 : I3 103 68 = I 103 68 := by rw [ek_fault_103_68 p2, f1.1 103 (by omega) (by omega)]
  have f_102_r : I3 102 = I 102 := by rw [f2.1 102 (by omega), eb_fault_102_r p1]
  have f_138_r : I3 138 = I 138 := by rw [ek_fault_138_r p2, f1.1 138 (by omega) (by omega)]
  have f_70_5 : I3 70 5 = I 70 5 := by rw [f2.1 70 (by omega), eb_fault_70_5 p1]
  have f_103_25 : I3 103 25 = I 103 25 := by rw [ek_fault_103_25 p2, f1.1 103 (by omega) (by omega)]
  have f_71_r : I3 71 = I 71 := by rw [f2.1 71 (by omega), eb_fault_71_r p1]
  have f_121_r : I3 121 = I 121 := by rw [ek_fault_121_r p2, f1.1 121 (by omega) (by omega)]
  have f_129_r : I3 129 = I 129 := by rw [ek_fault_129_r p2, f1.1 129 (by omega) (by omega)]
  exact ⟨(by rw [f_32_10, f_103_0]; exact hr.1), (by rw [f_33_7, f_103_1]; exact hr.2.1), (by rw [f_33_8, f_103_2]; exact hr.2.2.1), (by rw [f_41_13, f_110_0]; exact hr.2.2.2.1), (by rw [f_55_13, f_110_1]; exact hr.2.2.2.2.1), (by rw [f_41_14, f_55_14, f_103_16]; exact hr.2.2.2.2.2.1), (by rw [f_69_0, f_69_1, f_69_2, f_103_21, f_L]; exact hr.2.2.2.2.2.2.1), (by rw [f_41_15, f_55_15, f_103_63]; exact hr.2.2.2.2.2.2.2.1), (by rw [f_101_2, f_103_68]; exact hr.2.2.2.2.2.2.2.2.1), (by rw [f_102_r, f_138_r]; exact hr.2.2.2.2.2.2.2.2.2.1), (by rw [f_70_5, f_103_25]; exact hr.2.2.2.2.2.2.2.2.2.2.1), (by rw [f_71_r, f_121_r]; exact hr.2.2.2.2.2.2.2.2.2.2.2.1), (tw_eq f_129_r fR hr.2.2.2.2.2.2.2.2.2.2.2.2)⟩

theorem rel.tools {v0 v1 v2 v3 v4 : Int32} {x y : Int32} {n : Nat} {I I2 I3 : px_I} {L L2 L3 : px_L} {R : px_R} (hj : jJ n I R) (hr : rel I L R) (f1 : frB I I2 L L2) {R2 : px_R} (fR : kR R I2 R2) (p1 : pb_tools v0 v1 v2 v3 v4 I L x I2 L2) (f2 : frK I2 I3 L2 L3) (p2 : pk_tools v0 v1 v2 v3 v4 I2 L2 y I3 L3) : rel I3 L3 R2 := by
  have f_32_10 : I3 32 10 = I 32 10 := by rw [f2.1 32 (by omega), eb_tools_32_10 p1]
  have f_103_0 : I3 103 0 = I 103 0 := by rw [ek_tools_103_0 p2, f1.1 103 (by omega) (by omega)]
  have f_33_7 : I3 33 7 = I 33 7 := by rw [f2.1 33 (by omega), eb_tools_33_7 p1]
  have f_103_1 : I3 103 1 = I 103 1 := by rw [ek_tools_103_1 p2, f1.1 103 (by omega) (by omega)]
  have f_33_8 : I3 33 8 = I 33 8 := by rw [f2.1 33 (by omega), eb_tools_33_8 p1]
  have f_103_2 : I3 103 2 = I 103 2 := by rw [ek_tools_103_2 p2, f1.1 103 (by omega) (by omega)]
  have f_41_13 : I3 41 13 = I 41 13 := by rw [f2.1 41 (by omega), eb_tools_41_13 p1]
  have f_110_0 : I3 110 0 = I 110 0 := by rw [ek_tools_110_0 p2, f1.1 110 (by omega) (by omega)]
  have f_55_13 : I3 55 13 = I 55 13 := by rw [f2.1 55 (by omega), eb_tools_55_13 p1]
  have f_110_1 : I3 110 1 = I 110 1 := by rw [ek_tools_110_1 p2, f1.1 110 (by omega) (by omega)]
  have f_41_14 : I3 41 14 = I 41 14 := by rw [f2.1 41 (by omega), eb_tools_41_14 p1]
  have f_55_14 : I3 55 14 = I 55 14 := by rw [f2.1 55 (by omega), eb_tools_55_14 p1]
  have f_103_16 : I3 103 16 = I 103 16 := by rw [ek_tools_103_16 p2, f1.1 103 (by omega) (by omega)]
  have f_69_0 : I3 69 0 = I 69 0 := by rw [f2.1 69 (by omega), eb_tools_69_0 p1]
  have f_69_1 : I3 69 1 = I 69 1 := by rw [f2.1 69 (by omega), eb_tools_69_1 p1]
  have f_69_2 : I3 69 2 = I 69 2 := by rw [f2.1 69 (by omega), eb_tools_69_2 p1]
  have f_103_21 : I3 103 21 = I 103 21 := by rw [ek_tools_103_21 p2, f1.1 103 (by omega) (by omega)]
  have f_L : L3 103 = L 103 := (eL_tools_103 p2).trans (f1.2 103 (by omega) (by omega))
  have f_41_15 : I3 41 15 = I 41 15 := by rw [f2.1 41 (by omega), eb_tools_41_15 p1]
  have f_55_15 : I3 55 15 = I 55 15 := by rw [f2.1 55 (by omega), eb_tools_55_15 p1]
  have f_103_63 : I3 103 63 = I 103 63 := by rw [ek_tools_103_63 p2, f1.1 103 (by omega) (by omega)]
  have f_101_2 : I3 101 2 = I 101 2 := by rw [f2.1 101 (by omega), eb_tools_101_2 p1]
  have f_103_68 : I3 103 68 = I 103 68 := by rw [ek_tools_103_68 p2, f1.1 103 (by omega) (by omega)]
  have f_102_r : I3 102 = I 102 := by rw [f2.1 102 (by omega), eb_tools_102_r p1]
  have f_138_r : I3 138 = I 138 := by rw [ek_tools_138_r p2, f1.1 138 (by omega) (by omega)]
  have f_70_5 : I3 70 5 = I 70 5 := by rw [f2.1 70 (by omega), eb_tools_70_5 p1]
  have f_103_25 : I3 103 25 = I 103 25 := by rw [ek_tools_103_25 p2, f1.1 103 (by omega) (by omega)]
  have f_71_r : I3 71 = I 71 := by rw [f2.1 71 (by omega), eb_tools_71_r p1]
  have f_121_r : I3 121 = I 121 := by rw [ek_tools_121_r p2, f1.1 121 (by omega) (by omega)]
  have f_129_r : I3 129 = I 129 := by rw [ek_tools_129_r p2, f1.1 129 (by omega) (by omega)]
  exact ⟨(by rw [f_32_10, f_103_0]; exact hr.1), (by rw [f_33_7, f_103_1]; exact hr.2.1), (by rw [f_33_8, f_103_2]; exact hr.2.2.1), (by rw [f_41_13, f_110_0]; exact hr.2.2.2.1), (by rw [f_55_13, f_110_1]; exact hr.2.2.2.2.1), (by rw [f_41_14, f_55_14, f_103_16]; exact hr.2.2.2.2.2.1), (by rw [f_69_0, f_69_1, f_69_2, f_103_21, f_L]; exact hr.2.2.2.2.2.2.1), (by rw [f_41_15, f_55_15, f_103_63]; exact hr.2.2.2.2.2.2.2.1), (by rw [f_101_2, f_103_68]; exact hr.2.2.2.2.2.2.2.2.1), (by rw [f_102_r, f_138_r]; exact hr.2.2.2.2.2.2.2.2.2.1), (by rw [f_70_5, f_103_25]; exact hr.2.2.2.2.2.2.2.2.2.2.1), (by rw [f_71_r, f_121_r]; exact hr.2.2.2.2.2.2.2.2.2.2.2.1), (tw_eq f_129_r fR hr.2.2.2.2.2.2.2.2.2.2.2.2)⟩

theorem rel.run {v0 v1 v2 : Int32} {x y : Int32} {n : Nat} {I I2 I3 : px_I} {L L2 L3 : px_L} {R : px_R} (hj : jJ n I R) (hr : rel I L R) (f1 : frB I I2 L L2) {R2 : px_R} (fR : kR R I2 R2) (p1 : pb_run v0 v1 v2 I L x I2 L2) (f2 : frK I2 I3 L2 L3) (p2 : pk_run v0 v1 v2 I2 L2 y I3 L3) : rel I3 L3 R2 := by
  have f_32_10 : I3 32 10 = I 32 10 := by rw [f2.1 32 (by omega), eb_run_32_10 p1]
  have f_103_0 : I3 103 0 = I 103 0 := by rw [ek_run_103_0 p2, f1.1 103 (by omega) (by omega)]
  have f_33_7 : I3 33 7 = I 33 7 := by rw [f2.1 33 (by omega), eb_run_33_7 p1]
  have f_103_1 : I3 103 1 = I 103 1 := by rw [ek_run_103_1 p2, f1.1 103 (by omega) (by omega)]
  have f_33_8 : I3 33 8 = I 33 8 := by rw [f2.1 33 (by omega), eb_run_33_8 p1]
  have f_103_2 : I3 103 2 = I 103 2 := by rw [ek_run_103_2 p2, f1.1 103 (by omega) (by omega)]
  have f_41_13 : I3 41 13 = I 41 13 := by rw [f2.1 41 (by omega), eb_run_41_13 p1]
  have f_110_0 : I3 110 0 = I 110 0 := by rw [ek_run_110_0 p2, f1.1 110 (by omega) (by omega)]
  have f_55_13 : I3 55 13 = I 55 13 := by rw [f2.1 55 (by omega), eb_run_55_13 p1]
  have f_110_1 : I3 110 1 = I 110 1 := by rw [ek_run_110_1 p2, f1.1 110 (by omega) (by omega)]
  have f_41_14 : I3 41 14 = I 41 14 := by rw [f2.1 41 (by omega), eb_run_41_14 p1]
  have f_55_14 : I3 55 14 = I 55 14 := by rw [f2.1 55 (by omega), eb_run_55_14 p1]
  have f_103_16 : I3 103 16 = I 103 16 := by rw [ek_run_103_16 p2, f1.1 103 (by omega) (by omega)]
  have f_69_0 : I3 69 0 = I 69 0 := by rw [f2.1 69 (by omega), eb_run_69_0 p1]
  have f_69_1 : I3 69 1 = I 69 1 := by rw [f2.1 69 (by omega), eb_run_69_1 p1]
  have f_69_2 : I3 69 2 = I 69 2 := by rw [f2.1 69 (by omega), eb_run_69_2 p1]
  have f_103_21 : I3 103 21 = I 103 21 := by rw [ek_run_103_21 p2, f1.1 103 (by omega) (by omega)]
  have f_L : L3 103 = L 103 := (eL_run_103 p2).trans (f1.2 103 (by omega) (by omega))
  have f_41_15 : I3 41 15 = I 41 15 := by rw [f2.1 41 (by omega), eb_run_41_15 p1]
  have f_55_15 : I3 55 15 = I 55 15 := by rw [f2.1 55 (by omega), eb_run_55_15 p1]
  have f_103_63 : I3 103 63 = I 103 63 := by rw [ek_run_103_63 p2, f1.1 103 (by omega) (by omega)]
  have f_101_2 : I3 101 2 = I 101 2 := by rw [f2.1 101 (by omega), eb_run_101_2 p1]
  have f_103_68 : I3 103 68 = I 103 68 := by rw [ek_run_103_68 p2, f1.1 103 (by omega) (by omega)]
  have f_102_r : I3 102 = I 102 := by rw [f2.1 102 (by omega), eb_run_102_r p1]
  have f_138_r : I3 138 = I 138 := by rw [ek_run_138_r p2, f1.1 138 (by omega) (by omega)]
  have f_70_5 : I3 70 5 = I 70 5 := by rw [f2.1 70 (by omega), eb_run_70_5 p1]
  have f_103_25 : I3 103 25 = I 103 25 := by rw [ek_run_103_25 p2, f1.1 103 (by omega) (by omega)]
  have f_71_r : I3 71 = I 71 := by rw [f2.1 71 (by omega), eb_run_71_r p1]
  have f_121_r : I3 121 = I 121 := by rw [ek_run_121_r p2, f1.1 121 (by omega) (by omega)]
  have f_129_r : I3 129 = I 129 := by rw [ek_run_129_r p2, f1.1 129 (by omega) (by omega)]
  exact ⟨(by rw [f_32_10, f_103_0]; exact hr.1), (by rw [f_33_7, f_103_1]; exact hr.2.1), (by rw [f_33_8, f_103_2]; exact hr.2.2.1), (by rw [f_41_13, f_110_0]; exact hr.2.2.2.1), (by rw [f_55_13, f_110_1]; exact hr.2.2.2.2.1), (by rw [f_41_14, f_55_14, f_103_16]; exact hr.2.2.2.2.2.1), (by rw [f_69_0, f_69_1, f_69_2, f_103_21, f_L]; exact hr.2.2.2.2.2.2.1), (by rw [f_41_15, f_55_15, f_103_63]; exact hr.2.2.2.2.2.2.2.1), (by rw [f_101_2, f_103_68]; exact hr.2.2.2.2.2.2.2.2.1), (by rw [f_102_r, f_138_r]; exact hr.2.2.2.2.2.2.2.2.2.1), (by rw [f_70_5, f_103_25]; exact hr.2.2.2.2.2.2.2.2.2.2.1), (by rw [f_71_r, f_121_r]; exact hr.2.2.2.2.2.2.2.2.2.2.2.1), (tw_eq f_129_r fR hr.2.2.2.2.2.2.2.2.2.2.2.2)⟩

theorem rel.meeting {v0 v1 v2 v3 v4 v5 : Int32} {x y : Int32} {n : Nat} {I I2 I3 : px_I} {L L2 L3 : px_L} {R : px_R} (hj : jJ n I R) (hr : rel I L R) (f1 : frB I I2 L L2) {R2 : px_R} (fR : kR R I2 R2) (p1 : pb_meeting v0 v1 v2 v3 v4 v5 I L x I2 L2) (f2 : frK I2 I3 L2 L3) (p2 : pk_meeting v0 v1 v2 v3 v4 v5 I2 L2 y I3 L3) : rel I3 L3 R2 := by
  have f_32_10 : I3 32 10 = I 32 10 := by rw [f2.1 32 (by omega), eb_meeting_32_10 p1]
  have f_103_0 : I3 103 0 = I 103 0 := by rw [ek_meeting_103_0 p2, f1.1 103 (by omega) (by omega)]
  have f_33_7 : I3 33 7 = I 33 7 := by rw [f2.1 33 (by omega), eb_meeting_33_7 p1]
  have f_103_1 : I3 103 1 = I 103 1 := by rw [ek_meeting_103_1 p2, f1.1 103 (by omega) (by omega)]
  have f_33_8 : I3 33 8 = I 33 8 := by rw [f2.1 33 (by omega), eb_meeting_33_8 p1]
  have f_103_2 : I3 103 2 = I 103 2 := by rw [ek_meeting_103_2 p2, f1.1 103 (by omega) (by omega)]
  have f_41_13 : I3 41 13 = I 41 13 := by rw [f2.1 41 (by omega), eb_meeting_41_13 p1]
  have f_110_0 : I3 110 0 = I 110 0 := by rw [ek_meeting_110_0 p2, f1.1 110 (by omega) (by omega)]
  have f_55_13 : I3 55 13 = I 55 13 := by rw [f2.1 55 (by omega), eb_meeting_55_13 p1]
  have f_110_1 : I3 110 1 = I 110 1 := by rw [ek_meeting_110_1 p2, f1.1 110 (by omega) (by omega)]
  have f_41_14 : I3 41 14 = I 41 14 := by rw [f2.1 41 (by omega), eb_meeting_41_14 p1]
  have f_55_14 : I3 55 14 = I 55 14 := by rw [f2.1 55 (by omega), eb_meeting_55_14 p1]
  have f_103_16 : I3 103 16 = I 103 16 := by rw [ek_meeting_103_16 p2, f1.1 103 (by omega) (by omega)]
  have f_69_0 : I3 69 0 = I 69 0 := by rw [f2.1 69 (by omega), eb_meeting_69_0 p1]
  have f_69_1 : I3 69 1 = I 69 1 := by rw [f2.1 69 (by omega), eb_meeting_69_1 p1]
  have f_69_2 : I3 69 2 = I 69 2 := by rw [f2.1 69 (by omega), eb_meeting_69_2 p1]
  have f_103_21 : I3 103 21 = I 103 21 := by rw [ek_meeting_103_21 p2, f1.1 103 (by omega) (by omega)]
  have f_L : L3 103 = L 103 := (eL_meeting_103 p2).trans (f1.2 103 (by omega) (by omega))
  have f_41_15 : I3 41 15 = I 41 15 := by rw [f2.1 41 (by omega), eb_meeting_41_15 p1]
  have f_55_15 : I3 55 15 = I 55 15 := by rw [f2.1 55 (by omega), eb_meeting_55_15 p1]
  have f_103_63 : I3 103 63 = I 103 63 := by rw [ek_meeting_103_63 p2, f1.1 103 (by omega) (by omega)]
  have f_101_2 : I3 101 2 = I 101 2 := by rw [f2.1 101 (by omega), eb_meeting_101_2 p1]
  have f_103_68 : I3 103 68 = I 103 68 := by rw [ek_meeting_103_68 p2, f1.1 103 (by omega) (by omega)]
  have f_102_r : I3 102 = I 102 := by rw [f2.1 102 (by omega), eb_meeting_102_r p1]
  have f_138_r : I3 138 = I 138 := by rw [ek_meeting_138_r p2, f1.1 138 (by omega) (by omega)]
  have f_70_5 : I3 70 5 = I 70 5 := by rw [f2.1 70 (by omega), eb_meeting_70_5 p1]
  have f_103_25 : I3 103 25 = I 103 25 := by rw [ek_meeting_103_25 p2, f1.1 103 (by omega) (by omega)]
  have f_71_r : I3 71 = I 71 := by rw [f2.1 71 (by omega), eb_meeting_71_r p1]
  have f_121_r : I3 121 = I 121 := by rw [ek_meeting_121_r p2, f1.1 121 (by omega) (by omega)]
  have f_129_r : I3 129 = I 129 := by rw [ek_meeting_129_r p2, f1.1 129 (by omega) (by omega)]
  exact ⟨(by rw [f_32_10, f_103_0]; exact hr.1), (by rw [f_33_7, f_103_1]; exact hr.2.1), (by rw [f_33_8, f_103_2]; exact hr.2.2.1), (by rw [f_41_13, f_110_0]; exact hr.2.2.2.1), (by rw [f_55_13, f_110_1]; exact hr.2.2.2.2.1), (by rw [f_41_14, f_55_14, f_103_16]; exact hr.2.2.2.2.2.1), (by rw [f_69_0, f_69_1, f_69_2, f_103_21, f_L]; exact hr.2.2.2.2.2.2.1), (by rw [f_41_15, f_55_15, f_103_63]; exact hr.2.2.2.2.2.2.2.1), (by rw [f_101_2, f_103_68]; exact hr.2.2.2.2.2.2.2.2.1), (by rw [f_102_r, f_138_r]; exact hr.2.2.2.2.2.2.2.2.2.1), (by rw [f_70_5, f_103_25]; exact hr.2.2.2.2.2.2.2.2.2.2.1), (by rw [f_71_r, f_121_r]; exact hr.2.2.2.2.2.2.2.2.2.2.2.1), (tw_eq f_129_r fR hr.2.2.2.2.2.2.2.2.2.2.2.2)⟩

theorem rel.there {v0 v1 v2 : Int32} {x y : Int32} {n : Nat} {I I2 I3 : px_I} {L L2 L3 : px_L} {R : px_R} (hj : jJ n I R) (hr : rel I L R) (f1 : frB I I2 L L2) {R2 : px_R} (fR : kR R I2 R2) (p1 : pb_there v0 v1 v2 I L x I2 L2) (f2 : frK I2 I3 L2 L3) (p2 : pk_there v0 v1 v2 I2 L2 y I3 L3) : rel I3 L3 R2 := by
  have f_32_10 : I3 32 10 = I 32 10 := by rw [f2.1 32 (by omega), eb_there_32_10 p1]
  have f_103_0 : I3 103 0 = I 103 0 := by rw [ek_there_103_0 p2, f1.1 103 (by omega) (by omega)]
  have f_33_7 : I3 33 7 = I 33 7 := by rw [f2.1 33 (by omega), eb_there_33_7 p1]
  have f_103_1 : I3 103 1 = I 103 1 := by rw [ek_there_103_1 p2, f1.1 103 (by omega) (by omega)]
  have f_33_8 : I3 33 8 = I 33 8 := by rw [f2.1 33 (by omega), eb_there_33_8 p1]
  have f_103_2 : I3 103 2 = I 103 2 := by rw [ek_there_103_2 p2, f1.1 103 (by omega) (by omega)]
  have f_41_13 : I3 41 13 = I 41 13 := by rw [f2.1 41 (by omega), eb_there_41_13 p1]
  have f_110_0 : I3 110 0 = I 110 0 := by rw [ek_there_110_0 p2, f1.1 110 (by omega) (by omega)]
  have f_55_13 : I3 55 13 = I 55 13 := by rw [f2.1 55 (by omega), eb_there_55_13 p1]
  have f_110_1 : I3 110 1 = I 110 1 := by rw [ek_there_110_1 p2, f1.1 110 (by omega) (by omega)]
  have f_41_14 : I3 41 14 = I 41 14 := by rw [f2.1 41 (by omega), eb_there_41_14 p1]
  have f_55_14 : I3 55 14 = I 55 14 := by rw [f2.1 55 (by omega), eb_there_55_14 p1]
  have f_103_16 : I3 103 16 = I 103 16 := by rw [ek_there_103_16 p2, f1.1 103 (by omega) (by omega)]
  have f_69_0 : I3 69 0 = I 69 0 := by rw [f2.1 69 (by omega), eb_there_69_0 p1]
  have f_69_1 : I3 69 1 = I 69 1 := by rw [f2.1 69 (by omega), eb_there_69_1 p1]
  have f_69_2 : I3 69 2 = I 69 2 := by rw [f2.1 69 (by omega), eb_there_69_2 p1]
  have f_103_21 : I3 103 21 = I 103 21 := by rw [ek_there_103_21 p2, f1.1 103 (by omega) (by omega)]
  have f_L : L3 103 = L 103 := (eL_there_103 p2).trans (f1.2 103 (by omega) (by omega))
  have f_41_15 : I3 41 15 = I 41 15 := by rw [f2.1 41 (by omega), eb_there_41_15 p1]
  have f_55_15 : I3 55 15 = I 55 15 := by rw [f2.1 55 (by omega), eb_there_55_15 p1]
  have f_103_63 : I3 103 63 = I 103 63 := by rw [ek_there_103_63 p2, f1.1 103 (by omega) (by omega)]
  have f_101_2 : I3 101 2 = I 101 2 := by rw [f2.1 101 (by omega), eb_there_101_2 p1]
  have f_103_68 : I3 103 68 = I 103 68 := by rw [ek_there_103_68 p2, f1.1 103 (by omega) (by omega)]
  have f_102_r : I3 102 = I 102 := by rw [f2.1 102 (by omega), eb_there_102_r p1]
  have f_138_r : I3 138 = I 138 := by rw [ek_there_138_r p2, f1.1 138 (by omega) (by omega)]
  have f_70_5 : I3 70 5 = I 70 5 := by rw [f2.1 70 (by omega), eb_there_70_5 p1]
  have f_103_25 : I3 103 25 = I 103 25 := by rw [ek_there_103_25 p2, f1.1 103 (by omega) (by omega)]
  have f_71_r : I3 71 = I 71 := by rw [f2.1 71 (by omega), eb_there_71_r p1]
  have f_121_r : I3 121 = I 121 := by rw [ek_there_121_r p2, f1.1 121 (by omega) (by omega)]
  have f_129_r : I3 129 = I 129 := by rw [ek_there_129_r p2, f1.1 129 (by omega) (by omega)]
  exact ⟨(by rw [f_32_10, f_103_0]; exact hr.1), (by rw [f_33_7, f_103_1]; exact hr.2.1), (by rw [f_33_8, f_103_2]; exact hr.2.2.1), (by rw [f_41_13, f_110_0]; exact hr.2.2.2.1), (by rw [f_55_13, f_110_1]; exact hr.2.2.2.2.1), (by rw [f_41_14, f_55_14, f_103_16]; exact hr.2.2.2.2.2.1), (by rw [f_69_0, f_69_1, f_69_2, f_103_21, f_L]; exact hr.2.2.2.2.2.2.1), (by rw [f_41_15, f_55_15, f_103_63]; exact hr.2.2.2.2.2.2.2.1), (by rw [f_101_2, f_103_68]; exact hr.2.2.2.2.2.2.2.2.1), (by rw [f_102_r, f_138_r]; exact hr.2.2.2.2.2.2.2.2.2.1), (by rw [f_70_5, f_103_25]; exact hr.2.2.2.2.2.2.2.2.2.2.1), (by rw [f_71_r, f_121_r]; exact hr.2.2.2.2.2.2.2.2.2.2.2.1), (tw_eq f_129_r fR hr.2.2.2.2.2.2.2.2.2.2.2.2)⟩

theorem rel.fits {v0 v1 v2 v3 : Int32} {x y : Int32} {n : Nat} {I I2 I3 : px_I} {L L2 L3 : px_L} {R : px_R} (hj : jJ n I R) (hr : rel I L R) (f1 : frB I I2 L L2) {R2 : px_R} (fR : kR R I2 R2) (p1 : pb_fits v0 v1 v2 v3 I L x I2 L2) (f2 : frK I2 I3 L2 L3) (p2 : pk_fits v0 v1 v2 v3 I2 L2 y I3 L3) : rel I3 L3 R2 := by
  have f_32_10 : I3 32 10 = I 32 10 := by rw [f2.1 32 (by omega), eb_fits_32_10 p1]
  have f_103_0 : I3 103 0 = I 103 0 := by rw [ek_fits_103_0 p2, f1.1 103 (by omega) (by omega)]
  have f_33_7 : I3 33 7 = I 33 7 := by rw [f2.1 33 (by omega), eb_fits_33_7 p1]
  have f_103_1 : I3 103 1 = I 103 1 := by rw [ek_fits_103_1 p2, f1.1 103 (by omega) (by omega)]
  have f_33_8 : I3 33 8 = I 33 8 := by rw [f2.1 33 (by omega), eb_fits_33_8 p1]
  have f_103_2 : I3 103 2 = I 103 2 := by rw [ek_fits_103_2 p2, f1.1 103 (by omega) (by omega)]
  have f_41_13 : I3 41 13 = I 41 13 := by rw [f2.1 41 (by omega), eb_fits_41_13 p1]
  have f_110_0 : I3 110 0 = I 110 0 := by rw [ek_fits_110_0 p2, f1.1 110 (by omega) (by omega)]
  have f_55_13 : I3 55 13 = I 55 13 := by rw [f2.1 55 (by omega), eb_fits_55_13 p1]
  have f_110_1 : I3 110 1 = I 110 1 := by rw [ek_fits_110_1 p2, f1.1 110 (by omega) (by omega)]
  have f_41_14 : I3 41 14 = I 41 14 := by rw [f2.1 41 (by omega), eb_fits_41_14 p1]
  have f_55_14 : I3 55 14 = I 55 14 := by rw [f2.1 55 (by omega), eb_fits_55_14 p1]
  have f_103_16 : I3 103 16 = I 103 16 := by rw [ek_fits_103_16 p2, f1.1 103 (by omega) (by omega)]
  have f_69_0 : I3 69 0 = I 69 0 := by rw [f2.1 69 (by omega), eb_fits_69_0 p1]
  have f_69_1 : I3 69 1 = I 69 1 := by rw [f2.1 69 (by omega), eb_fits_69_1 p1]
  have f_69_2 : I3 69 2 = I 69 2 := by rw [f2.1 69 (by omega), eb_fits_69_2 p1]
  have f_103_21 : I3 103 21 = I 103 21 := by rw [ek_fits_103_21 p2, f1.1 103 (by omega) (by omega)]
  have f_L : L3 103 = L 103 := (eL_fits_103 p2).trans (f1.2 103 (by omega) (by omega))
  have f_41_15 : I3 41 15 = I 41 15 := by rw [f2.1 41 (by omega), eb_fits_41_15 p1]
  have f_55_15 : I3 55 15 = I 55 15 := by rw [f2.1 55 (by omega), eb_fits_55_15 p1]
  have f_103_63 : I3 103 63 = I 103 63 := by rw [ek_fits_103_63 p2, f1.1 103 (by omega) (by omega)]
  have f_101_2 : I3 101 2 = I 101 2 := by rw [f2.1 101 (by omega), eb_fits_101_2 p1]
  have f_103_68 : I3 103 68 = I 103 68 := by rw [ek_fits_103_68 p2, f1.1 103 (by omega) (by omega)]
  have f_102_r : I3 102 = I 102 := by rw [f2.1 102 (by omega), eb_fits_102_r p1]
  have f_138_r : I3 138 = I 138 := by rw [ek_fits_138_r p2, f1.1 138 (by omega) (by omega)]
  have f_70_5 : I3 70 5 = I 70 5 := by rw [f2.1 70 (by omega), eb_fits_70_5 p1]
  have f_103_25 : I3 103 25 = I 103 25 := by rw [ek_fits_103_25 p2, f1.1 103 (by omega) (by omega)]
  have f_71_r : I3 71 = I 71 := by rw [f2.1 71 (by omega), eb_fits_71_r p1]
  have f_121_r : I3 121 = I 121 := by rw [ek_fits_121_r p2, f1.1 121 (by omega) (by omega)]
  have f_129_r : I3 129 = I 129 := by rw [ek_fits_129_r p2, f1.1 129 (by omega) (by omega)]
  exact ⟨(by rw [f_32_10, f_103_0]; exact hr.1), (by rw [f_33_7, f_103_1]; exact hr.2.1), (by rw [f_33_8, f_103_2]; exact hr.2.2.1), (by rw [f_41_13, f_110_0]; exact hr.2.2.2.1), (by rw [f_55_13, f_110_1]; exact hr.2.2.2.2.1), (by rw [f_41_14, f_55_14, f_103_16]; exact hr.2.2.2.2.2.1), (by rw [f_69_0, f_69_1, f_69_2, f_103_21, f_L]; exact hr.2.2.2.2.2.2.1), (by rw [f_41_15, f_55_15, f_103_63]; exact hr.2.2.2.2.2.2.2.1), (by rw [f_101_2, f_103_68]; exact hr.2.2.2.2.2.2.2.2.1), (by rw [f_102_r, f_138_r]; exact hr.2.2.2.2.2.2.2.2.2.1), (by rw [f_70_5, f_103_25]; exact hr.2.2.2.2.2.2.2.2.2.2.1), (by rw [f_71_r, f_121_r]; exact hr.2.2.2.2.2.2.2.2.2.2.2.1), (tw_eq f_129_r fR hr.2.2.2.2.2.2.2.2.2.2.2.2)⟩

theorem rel.ways {v0 v1 v2 v3 v4 : Int32} {x y : Int32} {n : Nat} {I I2 I3 : px_I} {L L2 L3 : px_L} {R : px_R} (hj : jJ n I R) (hr : rel I L R) (f1 : frB I I2 L L2) {R2 : px_R} (fR : kR R I2 R2) (p1 : pb_ways v0 v1 v2 v3 v4 I L x I2 L2) (f2 : frK I2 I3 L2 L3) (p2 : pk_ways v0 v1 v2 v3 v4 I2 L2 y I3 L3) : rel I3 L3 R2 := by
  have f_32_10 : I3 32 10 = I 32 10 := by rw [f2.1 32 (by omega), eb_ways_32_10 p1]
  have f_103_0 : I3 103 0 = I 103 0 := by rw [ek_ways_103_0 p2, f1.1 103 (by omega) (by omega)]
  have f_33_7 : I3 33 7 = I 33 7 := by rw [f2.1 33 (by omega), eb_ways_33_7 p1]
  have f_103_1 : I3 103 1 = I 103 1 := by rw [ek_ways_103_1 p2, f1.1 103 (by omega) (by omega)]
  have f_33_8 : I3 33 8 = I 33 8 := by rw [f2.1 33 (by omega), eb_ways_33_8 p1]
  have f_103_2 : I3 103 2 = I 103 2 := by rw [ek_ways_103_2 p2, f1.1 103 (by omega) (by omega)]
  have f_41_13 : I3 41 13 = I 41 13 := by rw [f2.1 41 (by omega), eb_ways_41_13 p1]
  have f_110_0 : I3 110 0 = I 110 0 := by rw [ek_ways_110_0 p2, f1.1 110 (by omega) (by omega)]
  have f_55_13 : I3 55 13 = I 55 13 := by rw [f2.1 55 (by omega), eb_ways_55_13 p1]
  have f_110_1 : I3 110 1 = I 110 1 := by rw [ek_ways_110_1 p2, f1.1 110 (by omega) (by omega)]
  have f_41_14 : I3 41 14 = I 41 14 := by rw [f2.1 41 (by omega), eb_ways_41_14 p1]
  have f_55_14 : I3 55 14 = I 55 14 := by rw [f2.1 55 (by omega), eb_ways_55_14 p1]
  have f_103_16 : I3 103 16 = I 103 16 := by rw [ek_ways_103_16 p2, f1.1 103 (by omega) (by omega)]
  have f_69_0 : I3 69 0 = I 69 0 := by rw [f2.1 69 (by omega), eb_ways_69_0 p1]
  have f_69_1 : I3 69 1 = I 69 1 := by rw [f2.1 69 (by omega), eb_ways_69_1 p1]
  have f_69_2 : I3 69 2 = I 69 2 := by rw [f2.1 69 (by omega), eb_ways_69_2 p1]
  have f_103_21 : I3 103 21 = I 103 21 := by rw [ek_ways_103_21 p2, f1.1 103 (by omega) (by omega)]
  have f_L : L3 103 = L 103 := (eL_ways_103 p2).trans (f1.2 103 (by omega) (by omega))
  have f_41_15 : I3 41 15 = I 41 15 := by rw [f2.1 41 (by omega), eb_ways_41_15 p1]
  have f_55_15 : I3 55 15 = I 55 15 := by rw [f2.1 55 (by omega), eb_ways_55_15 p1]
  have f_103_63 : I3 103 63 = I 103 63 := by rw [ek_ways_103_63 p2, f1.1 103 (by omega) (by omega)]
  have f_101_2 : I3 101 2 = I 101 2 := by rw [f2.1 101 (by omega), eb_ways_101_2 p1]
  have f_103_68 : I3 103 68 = I 103 68 := by rw [ek_ways_103_68 p2, f1.1 103 (by omega) (by omega)]
  have f_102_r : I3 102 = I 102 := by rw [f2.1 102 (by omega), eb_ways_102_r p1]
  have f_138_r : I3 138 = I 138 := by rw [ek_ways_138_r p2, f1.1 138 (by omega) (by omega)]
  have f_70_5 : I3 70 5 = I 70 5 := by rw [f2.1 70 (by omega), eb_ways_70_5 p1]
  have f_103_25 : I3 103 25 = I 103 25 := by rw [ek_ways_103_25 p2, f1.1 103 (by omega) (by omega)]
  have f_71_r : I3 71 = I 71 := by rw [f2.1 71 (by omega), eb_ways_71_r p1]
  have f_121_r : I3 121 = I 121 := by rw [ek_ways_121_r p2, f1.1 121 (by omega) (by omega)]
  have f_129_r : I3 129 = I 129 := by rw [ek_ways_129_r p2, f1.1 129 (by omega) (by omega)]
  exact ⟨(by rw [f_32_10, f_103_0]; exact hr.1), (by rw [f_33_7, f_103_1]; exact hr.2.1), (by rw [f_33_8, f_103_2]; exact hr.2.2.1), (by rw [f_41_13, f_110_0]; exact hr.2.2.2.1), (by rw [f_55_13, f_110_1]; exact hr.2.2.2.2.1), (by rw [f_41_14, f_55_14, f_103_16]; exact hr.2.2.2.2.2.1), (by rw [f_69_0, f_69_1, f_69_2, f_103_21, f_L]; exact hr.2.2.2.2.2.2.1), (by rw [f_41_15, f_55_15, f_103_63]; exact hr.2.2.2.2.2.2.2.1), (by rw [f_101_2, f_103_68]; exact hr.2.2.2.2.2.2.2.2.1), (by rw [f_102_r, f_138_r]; exact hr.2.2.2.2.2.2.2.2.2.1), (by rw [f_70_5, f_103_25]; exact hr.2.2.2.2.2.2.2.2.2.2.1), (by rw [f_71_r, f_121_r]; exact hr.2.2.2.2.2.2.2.2.2.2.2.1), (tw_eq f_129_r fR hr.2.2.2.2.2.2.2.2.2.2.2.2)⟩

theorem rel.seek {v0 v1 v2 v3 v4 v5 : Int32} {x y : Int32} {n : Nat} {I I2 I3 : px_I} {L L2 L3 : px_L} {R : px_R} (hj : jJ n I R) (hr : rel I L R) (f1 : frB I I2 L L2) {R2 : px_R} (fR : kR R I2 R2) (p1 : pb_seek v0 v1 v2 v3 v4 v5 I L x I2 L2) (f2 : frK I2 I3 L2 L3) (p2 : pk_seek v0 v1 v2 v3 v4 v5 I2 L2 y I3 L3) : rel I3 L3 R2 := by
  have f_32_10 : I3 32 10 = I 32 10 := by rw [f2.1 32 (by omega), eb_seek_32_10 p1]
  have f_103_0 : I3 103 0 = I 103 0 := by rw [ek_seek_103_0 p2, f1.1 103 (by omega) (by omega)]
  have f_33_7 : I3 33 7 = I 33 7 := by rw [f2.1 33 (by omega), eb_seek_33_7 p1]
  have f_103_1 : I3 103 1 = I 103 1 := by rw [ek_seek_103_1 p2, f1.1 103 (by omega) (by omega)]
  have f_33_8 : I3 33 8 = I 33 8 := by rw [f2.1 33 (by omega), eb_seek_33_8 p1]
  have f_103_2 : I3 103 2 = I 103 2 := by rw [ek_seek_103_2 p2, f1.1 103 (by omega) (by omega)]
  have f_41_13 : I3 41 13 = I 41 13 := by rw [f2.1 41 (by omega), eb_seek_41_13 p1]
  have f_110_0 : I3 110 0 = I 110 0 := by rw [ek_seek_110_0 p2, f1.1 110 (by omega) (by omega)]
  have f_55_13 : I3 55 13 = I 55 13 := by rw [f2.1 55 (by omega), eb_seek_55_13 p1]
  have f_110_1 : I3 110 1 = I 110 1 := by rw [ek_seek_110_1 p2, f1.1 110 (by omega) (by omega)]
  have f_41_14 : I3 41 14 = I 41 14 := by rw [f2.1 41 (by omega), eb_seek_41_14 p1]
  have f_55_14 : I3 55 14 = I 55 14 := by rw [f2.1 55 (by omega), eb_seek_55_14 p1]
  have f_103_16 : I3 103 16 = I 103 16 := by rw [ek_seek_103_16 p2, f1.1 103 (by omega) (by omega)]
  have f_69_0 : I3 69 0 = I 69 0 := by rw [f2.1 69 (by omega), eb_seek_69_0 p1]
  have f_69_1 : I3 69 1 = I 69 1 := by rw [f2.1 69 (by omega), eb_seek_69_1 p1]
  have f_69_2 : I3 69 2 = I 69 2 := by rw [f2.1 69 (by omega), eb_seek_69_2 p1]
  have f_103_21 : I3 103 21 = I 103 21 := by rw [ek_seek_103_21 p2, f1.1 103 (by omega) (by omega)]
  have f_L : L3 103 = L 103 := (eL_seek_103 p2).trans (f1.2 103 (by omega) (by omega))
  have f_41_15 : I3 41 15 = I 41 15 := by rw [f2.1 41 (by omega), eb_seek_41_15 p1]
  have f_55_15 : I3 55 15 = I 55 15 := by rw [f2.1 55 (by omega), eb_seek_55_15 p1]
  have f_103_63 : I3 103 63 = I 103 63 := by rw [ek_seek_103_63 p2, f1.1 103 (by omega) (by omega)]
  have f_101_2 : I3 101 2 = I 101 2 := by rw [f2.1 101 (by omega), eb_seek_101_2 p1]
  have f_103_68 : I3 103 68 = I 103 68 := by rw [ek_seek_103_68 p2, f1.1 103 (by omega) (by omega)]
  have f_102_r : I3 102 = I 102 := by rw [f2.1 102 (by omega), eb_seek_102_r p1]
  have f_138_r : I3 138 = I 138 := by rw [ek_seek_138_r p2, f1.1 138 (by omega) (by omega)]
  have f_70_5 : I3 70 5 = I 70 5 := by rw [f2.1 70 (by omega), eb_seek_70_5 p1]
  have f_103_25 : I3 103 25 = I 103 25 := by rw [ek_seek_103_25 p2, f1.1 103 (by omega) (by omega)]
  have f_71_r : I3 71 = I 71 := by rw [f2.1 71 (by omega), eb_seek_71_r p1]
  have f_121_r : I3 121 = I 121 := by rw [ek_seek_121_r p2, f1.1 121 (by omega) (by omega)]
  have f_129_r : I3 129 = I 129 := by rw [ek_seek_129_r p2, f1.1 129 (by omega) (by omega)]
  exact ⟨(by rw [f_32_10, f_103_0]; exact hr.1), (by rw [f_33_7, f_103_1]; exact hr.2.1), (by rw [f_33_8, f_103_2]; exact hr.2.2.1), (by rw [f_41_13, f_110_0]; exact hr.2.2.2.1), (by rw [f_55_13, f_110_1]; exact hr.2.2.2.2.1), (by rw [f_41_14, f_55_14, f_103_16]; exact hr.2.2.2.2.2.1), (by rw [f_69_0, f_69_1, f_69_2, f_103_21, f_L]; exact hr.2.2.2.2.2.2.1), (by rw [f_41_15, f_55_15, f_103_63]; exact hr.2.2.2.2.2.2.2.1), (by rw [f_101_2, f_103_68]; exact hr.2.2.2.2.2.2.2.2.1), (by rw [f_102_r, f_138_r]; exact hr.2.2.2.2.2.2.2.2.2.1), (by rw [f_70_5, f_103_25]; exact hr.2.2.2.2.2.2.2.2.2.2.1), (by rw [f_71_r, f_121_r]; exact hr.2.2.2.2.2.2.2.2.2.2.2.1), (tw_eq f_129_r fR hr.2.2.2.2.2.2.2.2.2.2.2.2)⟩

theorem rel.chance {n : Nat} {I I2 I3 : px_I} {L L2 L3 : px_L} {R : px_R} (hj : jJ n I R) (hr : rel I L R) (f1 : frB I I2 L L2) {R2 : px_R} (fR : kR R I2 R2) (p1 : I2 = I ∧ cSL L L2) (f2 : frK I2 I3 L2 L3) (p2 : I3 = I2 ∧ mNL L2 L3) : rel I3 L3 R2 := by
  have f_32_10 : I3 32 10 = I 32 10 := by rw [f2.1 32 (by omega), p1.1]
  have f_103_0 : I3 103 0 = I 103 0 := by rw [p2.1, f1.1 103 (by omega) (by omega)]
  have f_33_7 : I3 33 7 = I 33 7 := by rw [f2.1 33 (by omega), p1.1]
  have f_103_1 : I3 103 1 = I 103 1 := by rw [p2.1, f1.1 103 (by omega) (by omega)]
  have f_33_8 : I3 33 8 = I 33 8 := by rw [f2.1 33 (by omega), p1.1]
  have f_103_2 : I3 103 2 = I 103 2 := by rw [p2.1, f1.1 103 (by omega) (by omega)]
  have f_41_13 : I3 41 13 = I 41 13 := by rw [f2.1 41 (by omega), p1.1]
  have f_110_0 : I3 110 0 = I 110 0 := by rw [p2.1, f1.1 110 (by omega) (by omega)]
  have f_55_13 : I3 55 13 = I 55 13 := by rw [f2.1 55 (by omega), p1.1]
  have f_110_1 : I3 110 1 = I 110 1 := by rw [p2.1, f1.1 110 (by omega) (by omega)]
  have f_41_14 : I3 41 14 = I 41 14 := by rw [f2.1 41 (by omega), p1.1]
  have f_55_14 : I3 55 14 = I 55 14 := by rw [f2.1 55 (by omega), p1.1]
  have f_103_16 : I3 103 16 = I 103 16 := by rw [p2.1, f1.1 103 (by omega) (by omega)]
  have f_69_0 : I3 69 0 = I 69 0 := by rw [f2.1 69 (by omega), p1.1]
  have f_69_1 : I3 69 1 = I 69 1 := by rw [f2.1 69 (by omega), p1.1]
  have f_69_2 : I3 69 2 = I 69 2 := by rw [f2.1 69 (by omega), p1.1]
  have f_103_21 : I3 103 21 = I 103 21 := by rw [p2.1, f1.1 103 (by omega) (by omega)]
  have f_L : L3 103 = L 103 := (p2.2 103 (by omega) (by omega)).trans (f1.2 103 (by omega) (by omega))
  have f_41_15 : I3 41 15 = I 41 15 := by rw [f2.1 41 (by omega), p1.1]
  have f_55_15 : I3 55 15 = I 55 15 := by rw [f2.1 55 (by omega), p1.1]
  have f_103_63 : I3 103 63 = I 103 63 := by rw [p2.1, f1.1 103 (by omega) (by omega)]
  have f_101_2 : I3 101 2 = I 101 2 := by rw [f2.1 101 (by omega), p1.1]
  have f_103_68 : I3 103 68 = I 103 68 := by rw [p2.1, f1.1 103 (by omega) (by omega)]
  have f_102_r : I3 102 = I 102 := by rw [f2.1 102 (by omega), p1.1]
  have f_138_r : I3 138 = I 138 := by rw [p2.1, f1.1 138 (by omega) (by omega)]
  have f_70_5 : I3 70 5 = I 70 5 := by rw [f2.1 70 (by omega), p1.1]
  have f_103_25 : I3 103 25 = I 103 25 := by rw [p2.1, f1.1 103 (by omega) (by omega)]
  have f_71_r : I3 71 = I 71 := by rw [f2.1 71 (by omega), p1.1]
  have f_121_r : I3 121 = I 121 := by rw [p2.1, f1.1 121 (by omega) (by omega)]
  have f_129_r : I3 129 = I 129 := by rw [p2.1, f1.1 129 (by omega) (by omega)]
  exact ⟨(by rw [f_32_10, f_103_0]; exact hr.1), (by rw [f_33_7, f_103_1]; exact hr.2.1), (by rw [f_33_8, f_103_2]; exact hr.2.2.1), (by rw [f_41_13, f_110_0]; exact hr.2.2.2.1), (by rw [f_55_13, f_110_1]; exact hr.2.2.2.2.1), (by rw [f_41_14, f_55_14, f_103_16]; exact hr.2.2.2.2.2.1), (by rw [f_69_0, f_69_1, f_69_2, f_103_21, f_L]; exact hr.2.2.2.2.2.2.1), (by rw [f_41_15, f_55_15, f_103_63]; exact hr.2.2.2.2.2.2.2.1), (by rw [f_101_2, f_103_68]; exact hr.2.2.2.2.2.2.2.2.1), (by rw [f_102_r, f_138_r]; exact hr.2.2.2.2.2.2.2.2.2.1), (by rw [f_70_5, f_103_25]; exact hr.2.2.2.2.2.2.2.2.2.2.1), (by rw [f_71_r, f_121_r]; exact hr.2.2.2.2.2.2.2.2.2.2.2.1), (tw_eq f_129_r fR hr.2.2.2.2.2.2.2.2.2.2.2.2)⟩

theorem rel.detour {v0 v1 v2 : Int32} {x y : Int32} {n : Nat} {I I2 I3 : px_I} {L L2 L3 : px_L} {R : px_R} (hj : jJ n I R) (hr : rel I L R) (f1 : frB I I2 L L2) {R2 : px_R} (fR : kR R I2 R2) (p1 : pb_detour v0 v1 v2 I L x I2 L2) (f2 : frK I2 I3 L2 L3) (p2 : pk_detour v0 v1 v2 I2 L2 y I3 L3) : rel I3 L3 R2 := by
  have f_32_10 : I3 32 10 = I 32 10 := by rw [f2.1 32 (by omega), eb_detour_32_10 p1]
  have f_103_0 : I3 103 0 = I 103 0 := by rw [ek_detour_103_0 p2, f1.1 103 (by omega) (by omega)]
  have f_33_7 : I3 33 7 = I 33 7 := by rw [f2.1 33 (by omega), eb_detour_33_7 p1]
  have f_103_1 : I3 103 1 = I 103 1 := by rw [ek_detour_103_1 p2, f1.1 103 (by omega) (by omega)]
  have f_33_8 : I3 33 8 = I 33 8 := by rw [f2.1 33 (by omega), eb_detour_33_8 p1]
  have f_103_2 : I3 103 2 = I 103 2 := by rw [ek_detour_103_2 p2, f1.1 103 (by omega) (by omega)]
  have f_41_13 : I3 41 13 = I 41 13 := by rw [f2.1 41 (by omega), eb_detour_41_13 p1]
  have f_110_0 : I3 110 0 = I 110 0 := by rw [ek_detour_110_0 p2, f1.1 110 (by omega) (by omega)]
  have f_55_13 : I3 55 13 = I 55 13 := by rw [f2.1 55 (by omega), eb_detour_55_13 p1]
  have f_110_1 : I3 110 1 = I 110 1 := by rw [ek_detour_110_1 p2, f1.1 110 (by omega) (by omega)]
  have f_41_14 : I3 41 14 = I 41 14 := by rw [f2.1 41 (by omega), eb_detour_41_14 p1]
  have f_55_14 : I3 55 14 = I 55 14 := by rw [f2.1 55 (by omega), eb_detour_55_14 p1]
  have f_103_16 : I3 103 16 = I 103 16 := by rw [ek_detour_103_16 p2, f1.1 103 (by omega) (by omega)]
  have f_69_0 : I3 69 0 = I 69 0 := by rw [f2.1 69 (by omega), eb_detour_69_0 p1]
  have f_69_1 : I3 69 1 = I 69 1 := by rw [f2.1 69 (by omega), eb_detour_69_1 p1]
  have f_69_2 : I3 69 2 = I 69 2 := by rw [f2.1 69 (by omega), eb_detour_69_2 p1]
  have f_103_21 : I3 103 21 = I 103 21 := by rw [ek_detour_103_21 p2, f1.1 103 (by omega) (by omega)]
  have f_L : L3 103 = L 103 := (eL_detour_103 p2).trans (f1.2 103 (by omega) (by omega))
  have f_41_15 : I3 41 15 = I 41 15 := by rw [f2.1 41 (by omega), eb_detour_41_15 p1]
  have f_55_15 : I3 55 15 = I 55 15 := by rw [f2.1 55 (by omega), eb_detour_55_15 p1]
  have f_103_63 : I3 103 63 = I 103 63 := by rw [ek_detour_103_63 p2, f1.1 103 (by omega) (by omega)]
  have f_101_2 : I3 101 2 = I 101 2 := by rw [f2.1 101 (by omega), eb_detour_101_2 p1]
  have f_103_68 : I3 103 68 = I 103 68 := by rw [ek_detour_103_68 p2, f1.1 103 (by omega) (by omega)]
  have f_102_r : I3 102 = I 102 := by rw [f2.1 102 (by omega), eb_detour_102_r p1]
  have f_138_r : I3 138 = I 138 := by rw [ek_detour_138_r p2, f1.1 138 (by omega) (by omega)]
  have f_70_5 : I3 70 5 = I 70 5 := by rw [f2.1 70 (by omega), eb_detour_70_5 p1]
  have f_103_25 : I3 103 25 = I 103 25 := by rw [ek_detour_103_25 p2, f1.1 103 (by omega) (by omega)]
  have f_71_r : I3 71 = I 71 := by rw [f2.1 71 (by omega), eb_detour_71_r p1]
  have f_121_r : I3 121 = I 121 := by rw [ek_detour_121_r p2, f1.1 121 (by omega) (by omega)]
  have f_129_r : I3 129 = I 129 := by rw [ek_detour_129_r p2, f1.1 129 (by omega) (by omega)]
  exact ⟨(by rw [f_32_10, f_103_0]; exact hr.1), (by rw [f_33_7, f_103_1]; exact hr.2.1), (by rw [f_33_8, f_103_2]; exact hr.2.2.1), (by rw [f_41_13, f_110_0]; exact hr.2.2.2.1), (by rw [f_55_13, f_110_1]; exact hr.2.2.2.2.1), (by rw [f_41_14, f_55_14, f_103_16]; exact hr.2.2.2.2.2.1), (by rw [f_69_0, f_69_1, f_69_2, f_103_21, f_L]; exact hr.2.2.2.2.2.2.1), (by rw [f_41_15, f_55_15, f_103_63]; exact hr.2.2.2.2.2.2.2.1), (by rw [f_101_2, f_103_68]; exact hr.2.2.2.2.2.2.2.2.1), (by rw [f_102_r, f_138_r]; exact hr.2.2.2.2.2.2.2.2.2.1), (by rw [f_70_5, f_103_25]; exact hr.2.2.2.2.2.2.2.2.2.2.1), (by rw [f_71_r, f_121_r]; exact hr.2.2.2.2.2.2.2.2.2.2.2.1), (tw_eq f_129_r fR hr.2.2.2.2.2.2.2.2.2.2.2.2)⟩

theorem relq_table {v0 v1 : Int32} {x y : Int32} {n : Nat} {I I2 I3 : px_I} {L L2 L3 : px_L} {R : px_R} (hj : jJ n I R) (hr : rel I L R) (f1 : frB I I2 L L2) {R2 : px_R} (fR : kR R I2 R2) (p1 : pb_table v0 v1 I L x I2 L2) (f2 : frK I2 I3 L2 L3) (p2 : pk_table v0 v1 I2 L2 y I3 L3) : x = y ∧ (∀ k : Nat, I3 102 k = I3 138 k) := by
  have h_da : I 32 10 = I 103 0 := hr.1
  have h_st : I 33 7 = I 103 1 := hr.2.1
  have h_si : I 33 8 = I 103 2 := hr.2.2.1
  have h_pA : I 41 13 = I 110 0 := hr.2.2.2.1
  have h_pB : I 55 13 = I 110 1 := hr.2.2.2.2.1
  have h_mk : I 41 14 + I 55 14 = I 103 16 := hr.2.2.2.2.2.1
  have h_ct : I 69 0 = I 103 21 ∧ (0 ≤ I 69 0 ∧ I 69 0 ≤ 30) ∧ (0 ≤ I 69 1 ∧ I 69 1 ≤ 2000009998) ∧ (0 ≤ I 69 2 ∧ I 69 2 ≤ 2000000000) ∧ ((I 69 0 = 0 ∧ I 69 1 = 0 ∧ I 69 2 = 2000000000) ∨ (I 69 0 ≠ 0 ∧ (L 103 22).toInt = (I 69 1).toInt ∧ (L 103 23).toInt = (I 69 2).toInt)) := hr.2.2.2.2.2.2.1
  have h_rp : I 41 15 + I 55 15 = I 103 63 := hr.2.2.2.2.2.2.2.1
  have h_li : I 101 2 = I 103 68 := hr.2.2.2.2.2.2.2.2.1
  have h_tb : ∀ k : Nat, I 102 k = I 138 k := hr.2.2.2.2.2.2.2.2.2.1
  have h_fd : I 70 5 = I 103 25 := hr.2.2.2.2.2.2.2.2.2.2.1
  have h_by : ∀ j : Nat, nb (I 71 j) = nb (I 121 j) := hr.2.2.2.2.2.2.2.2.2.2.2.1
  have h_tw : ∀ k : Nat, k < 6 → I 129 k = (if (R 89 k).isSome = true then 1 else 0) := hr.2.2.2.2.2.2.2.2.2.2.2.2
  unfold pb_table at p1
  unfold pk_table at p2
  have e5 : I3 102 = I2 102 := f2.1 102 (by omega)
  have e9 : I2 138 = I 138 := f1.1 138 (by omega) (by omega)
  rcases p1.2 with ⟨a1, a2, a3⟩ | ⟨a1, a2, a3⟩
  · rcases p2.2 with ⟨b1, b2, b3⟩ | ⟨b1, b2, b3⟩
    · refine ⟨by rw [a2, b2], fun k => ?_⟩
      rw [e5, a3, b3, px_ur, if_pos rfl, px_ur, if_pos rfl, e9, h_tb k]
    · exact absurd a1 b1
  · rcases p2.2 with ⟨b1, b2, b3⟩ | ⟨b1, b2, b3⟩
    · exact absurd b1 a1
    · refine ⟨by rw [a2, b2], fun k => ?_⟩
      rw [e5, b3, e9, a3]
      exact h_tb k

theorem rel.table {v0 v1 : Int32} {x y : Int32} {n : Nat} {I I2 I3 : px_I} {L L2 L3 : px_L} {R : px_R} (hj : jJ n I R) (hr : rel I L R) (f1 : frB I I2 L L2) {R2 : px_R} (fR : kR R I2 R2) (p1 : pb_table v0 v1 I L x I2 L2) (f2 : frK I2 I3 L2 L3) (p2 : pk_table v0 v1 I2 L2 y I3 L3) : rel I3 L3 R2 := by
  have hq0 := (relq_table hj hr f1 fR p1 f2 p2).2
  have f_32_10 : I3 32 10 = I 32 10 := by rw [f2.1 32 (by omega), eb_table_32_10 p1]
  have f_103_0 : I3 103 0 = I 103 0 := by rw [ek_table_103_0 p2, f1.1 103 (by omega) (by omega)]
  have f_33_7 : I3 33 7 = I 33 7 := by rw [f2.1 33 (by omega), eb_table_33_7 p1]
  have f_103_1 : I3 103 1 = I 103 1 := by rw [ek_table_103_1 p2, f1.1 103 (by omega) (by omega)]
  have f_33_8 : I3 33 8 = I 33 8 := by rw [f2.1 33 (by omega), eb_table_33_8 p1]
  have f_103_2 : I3 103 2 = I 103 2 := by rw [ek_table_103_2 p2, f1.1 103 (by omega) (by omega)]
  have f_41_13 : I3 41 13 = I 41 13 := by rw [f2.1 41 (by omega), eb_table_41_13 p1]
  have f_110_0 : I3 110 0 = I 110 0 := by rw [ek_table_110_0 p2, f1.1 110 (by omega) (by omega)]
  have f_55_13 : I3 55 13 = I 55 13 := by rw [f2.1 55 (by omega), eb_table_55_13 p1]
  have f_110_1 : I3 110 1 = I 110 1 := by rw [ek_table_110_1 p2, f1.1 110 (by omega) (by omega)]
  have f_41_14 : I3 41 14 = I 41 14 := by rw [f2.1 41 (by omega), eb_table_41_14 p1]
  have f_55_14 : I3 55 14 = I 55 14 := by rw [f2.1 55 (by omega), eb_table_55_14 p1]
  have f_103_16 : I3 103 16 = I 103 16 := by rw [ek_table_103_16 p2, f1.1 103 (by omega) (by omega)]
  have f_69_0 : I3 69 0 = I 69 0 := by rw [f2.1 69 (by omega), eb_table_69_0 p1]
  have f_69_1 : I3 69 1 = I 69 1 := by rw [f2.1 69 (by omega), eb_table_69_1 p1]
  have f_69_2 : I3 69 2 = I 69 2 := by rw [f2.1 69 (by omega), eb_table_69_2 p1]
  have f_103_21 : I3 103 21 = I 103 21 := by rw [ek_table_103_21 p2, f1.1 103 (by omega) (by omega)]
  have f_L : L3 103 = L 103 := (eL_table_103 p2).trans (f1.2 103 (by omega) (by omega))
  have f_41_15 : I3 41 15 = I 41 15 := by rw [f2.1 41 (by omega), eb_table_41_15 p1]
  have f_55_15 : I3 55 15 = I 55 15 := by rw [f2.1 55 (by omega), eb_table_55_15 p1]
  have f_103_63 : I3 103 63 = I 103 63 := by rw [ek_table_103_63 p2, f1.1 103 (by omega) (by omega)]
  have f_101_2 : I3 101 2 = I 101 2 := by rw [f2.1 101 (by omega), eb_table_101_2 p1]
  have f_103_68 : I3 103 68 = I 103 68 := by rw [ek_table_103_68 p2, f1.1 103 (by omega) (by omega)]
  have f_70_5 : I3 70 5 = I 70 5 := by rw [f2.1 70 (by omega), eb_table_70_5 p1]
  have f_103_25 : I3 103 25 = I 103 25 := by rw [ek_table_103_25 p2, f1.1 103 (by omega) (by omega)]
  have f_71_r : I3 71 = I 71 := by rw [f2.1 71 (by omega), eb_table_71_r p1]
  have f_121_r : I3 121 = I 121 := by rw [ek_table_121_r p2, f1.1 121 (by omega) (by omega)]
  have f_129_r : I3 129 = I 129 := by rw [ek_table_129_r p2, f1.1 129 (by omega) (by omega)]
  exact ⟨(by rw [f_32_10, f_103_0]; exact hr.1), (by rw [f_33_7, f_103_1]; exact hr.2.1), (by rw [f_33_8, f_103_2]; exact hr.2.2.1), (by rw [f_41_13, f_110_0]; exact hr.2.2.2.1), (by rw [f_55_13, f_110_1]; exact hr.2.2.2.2.1), (by rw [f_41_14, f_55_14, f_103_16]; exact hr.2.2.2.2.2.1), (by rw [f_69_0, f_69_1, f_69_2, f_103_21, f_L]; exact hr.2.2.2.2.2.2.1), (by rw [f_41_15, f_55_15, f_103_63]; exact hr.2.2.2.2.2.2.2.1), (by rw [f_101_2, f_103_68]; exact hr.2.2.2.2.2.2.2.2.1), hq0, (by rw [f_70_5, f_103_25]; exact hr.2.2.2.2.2.2.2.2.2.2.1), (by rw [f_71_r, f_121_r]; exact hr.2.2.2.2.2.2.2.2.2.2.2.1), (tw_eq f_129_r fR hr.2.2.2.2.2.2.2.2.2.2.2.2)⟩

theorem relq_repair {v0 v1 v2 : Int32} {x y : Int32} {n : Nat} {I I2 I3 : px_I} {L L2 L3 : px_L} {R : px_R} (hj : jJ n I R) (hr : rel I L R) (f1 : frB I I2 L L2) {R2 : px_R} (fR : kR R I2 R2) (p1 : pb_repair v0 v1 v2 I L x I2 L2) (f2 : frK I2 I3 L2 L3) (p2 : pk_repair v0 v1 v2 I2 L2 y I3 L3) : x = y ∧ (I3 41 15 + I3 55 15 = I3 103 63) := by
  have h_da : I 32 10 = I 103 0 := hr.1
  have h_st : I 33 7 = I 103 1 := hr.2.1
  have h_si : I 33 8 = I 103 2 := hr.2.2.1
  have h_pA : I 41 13 = I 110 0 := hr.2.2.2.1
  have h_pB : I 55 13 = I 110 1 := hr.2.2.2.2.1
  have h_mk : I 41 14 + I 55 14 = I 103 16 := hr.2.2.2.2.2.1
  have h_ct : I 69 0 = I 103 21 ∧ (0 ≤ I 69 0 ∧ I 69 0 ≤ 30) ∧ (0 ≤ I 69 1 ∧ I 69 1 ≤ 2000009998) ∧ (0 ≤ I 69 2 ∧ I 69 2 ≤ 2000000000) ∧ ((I 69 0 = 0 ∧ I 69 1 = 0 ∧ I 69 2 = 2000000000) ∨ (I 69 0 ≠ 0 ∧ (L 103 22).toInt = (I 69 1).toInt ∧ (L 103 23).toInt = (I 69 2).toInt)) := hr.2.2.2.2.2.2.1
  have h_rp : I 41 15 + I 55 15 = I 103 63 := hr.2.2.2.2.2.2.2.1
  have h_li : I 101 2 = I 103 68 := hr.2.2.2.2.2.2.2.2.1
  have h_tb : ∀ k : Nat, I 102 k = I 138 k := hr.2.2.2.2.2.2.2.2.2.1
  have h_fd : I 70 5 = I 103 25 := hr.2.2.2.2.2.2.2.2.2.2.1
  have h_by : ∀ j : Nat, nb (I 71 j) = nb (I 121 j) := hr.2.2.2.2.2.2.2.2.2.2.2.1
  have h_tw : ∀ k : Nat, k < 6 → I 129 k = (if (R 89 k).isSome = true then 1 else 0) := hr.2.2.2.2.2.2.2.2.2.2.2.2
  unfold pb_repair at p1
  unfold pk_repair at p2
  have hl := hj.l
  unfold cGal at hl
  have e0 : I2 110 = I 110 := f1.1 110 (by omega) (by omega)
  have e1 : I2 103 = I 103 := f1.1 103 (by omega) (by omega)
  have hc : ∀ G, bG v0 G → I G 13 = I 110 v0.toNatClampNeg := by
    rintro G (⟨q1, q2⟩ | ⟨q1, q2⟩)
    · rw [q1, q2, px_n0]; exact h_pA
    · rw [q1, q2, px_n1]; exact h_pB
  have hm := hj.m.2.2.2.2.2.2.2
  have e5 : I3 41 = I2 41 := f2.1 41 (by omega)
  have e6 : I3 55 = I2 55 := f2.1 55 (by omega)
  rcases p1.2 with ⟨G, ⟨g1, g2, g3, g4, g5⟩, a2, a3⟩ | ⟨a1, a2, a3⟩
  · have c := hc G g1
    rcases p2.2 with ⟨b1, b2, b3⟩ | ⟨b1, b2, b3⟩
    · refine ⟨by rw [a2, b2, e1, ← h_rp], ?_⟩
      have k : I3 103 63 = I 103 63 + 1 := by rw [b3, px_u_at, e1]
      rw [k, e5, e6, ← h_rp, a3]
      rcases g1 with ⟨q1, q2⟩ | ⟨q1, q2⟩
      · rw [q2]; unfold cRep; rw [px_u_at, px_u_ne (by omega), px_u_ne (by omega), px_u_ne (by omega), px_u_ne (by omega)]; grind
      · rw [q2]; unfold cRep; rw [px_u_at, px_u_ne (by omega), px_u_ne (by omega), px_u_ne (by omega), px_u_ne (by omega)]; grind
    · refine absurd ?_ b1
      unfold mPegOk
      rw [e0, e1, ← c, ← h_rp]
      exact ⟨⟨(bG_le g1).1, (bG_le g1).2, by grind, by grind⟩, by grind, g4, by grind⟩
  · rcases p2.2 with ⟨b1, b2, b3⟩ | ⟨b1, b2, b3⟩
    · refine absurd ?_ a1
      obtain ⟨r0, r1, r2, r3⟩ := b1
      unfold mPegOk at r0
      obtain ⟨G, g1⟩ := bG_01 r0.1 r0.2.1
      have c := hc G g1
      rw [e0, ← c] at r0
      rw [e1, ← h_rp] at r3
      rw [← h_rp] at hm
      have : 0 ≤ I G 13 := by rcases g1 with ⟨q1, q2⟩ | ⟨q1, q2⟩ <;> rw [q2] <;> first | exact hl.1.1.1 | exact hl.2.1.1
      have s30 : I 41 15 + I 55 15 < 30 := by grind
      have sA := Int32.toInt_add (I 41 15) (I 55 15)
      have l1 := Int32.le_iff_toInt_le.mp hl.1.2.1
      have l2 := Int32.le_iff_toInt_le.mp hl.1.2.2
      have l3 := Int32.le_iff_toInt_le.mp hl.2.2.1
      have l4 := Int32.le_iff_toInt_le.mp hl.2.2.2
      rw [show (0 : Int32).toInt = 0 by decide] at l1 l3
      rw [show (30 : Int32).toInt = 30 by decide] at l2 l4
      rw [Int.bmod_eq_of_le (by omega) (by omega)] at sA
      have s3 := Int32.lt_iff_toInt_lt.mp s30
      rw [sA, show (30 : Int32).toInt = 30 by decide] at s3
      refine ⟨G, g1, s30, ⟨by grind, by grind⟩, r2, ?_⟩
      rw [Int32.lt_iff_toInt_lt, show (30 : Int32).toInt = 30 by decide]
      rcases g1 with ⟨q1, q2⟩ | ⟨q1, q2⟩ <;> rw [q2] <;> omega
    · refine ⟨by rw [a2, b2], ?_⟩
      rw [e5, e6, b3, e1, a3]
      exact h_rp

theorem rel.repair {v0 v1 v2 : Int32} {x y : Int32} {n : Nat} {I I2 I3 : px_I} {L L2 L3 : px_L} {R : px_R} (hj : jJ n I R) (hr : rel I L R) (f1 : frB I I2 L L2) {R2 : px_R} (fR : kR R I2 R2) (p1 : pb_repair v0 v1 v2 I L x I2 L2) (f2 : frK I2 I3 L2 L3) (p2 : pk_repair v0 v1 v2 I2 L2 y I3 L3) : rel I3 L3 R2 := by
  have hq0 := (relq_repair hj hr f1 fR p1 f2 p2).2
  have f_32_10 : I3 32 10 = I 32 10 := by rw [f2.1 32 (by omega), eb_repair_32_10 p1]
  have f_103_0 : I3 103 0 = I 103 0 := by rw [ek_repair_103_0 p2, f1.1 103 (by omega) (by omega)]
  have f_33_7 : I3 33 7 = I 33 7 := by rw [f2.1 33 (by omega), eb_repair_33_7 p1]
  have f_103_1 : I3 103 1 = I 103 1 := by rw [ek_repair_103_1 p2, f1.1 103 (by omega) (by omega)]
  have f_33_8 : I3 33 8 = I 33 8 := by rw [f2.1 33 (by omega), eb_repair_33_8 p1]
  have f_103_2 : I3 103 2 = I 103 2 := by rw [ek_repair_103_2 p2, f1.1 103 (by omega) (by omega)]
  have f_41_13 : I3 41 13 = I 41 13 := by rw [f2.1 41 (by omega), eb_repair_41_13 p1]
  have f_110_0 : I3 110 0 = I 110 0 := by rw [ek_repair_110_0 p2, f1.1 110 (by omega) (by omega)]
  have f_55_13 : I3 55 13 = I 55 13 := by rw [f2.1 55 (by omega), eb_repair_55_13 p1]
  have f_110_1 : I3 110 1 = I 110 1 := by rw [ek_repair_110_1 p2, f1.1 110 (by omega) (by omega)]
  have f_41_14 : I3 41 14 = I 41 14 := by rw [f2.1 41 (by omega), eb_repair_41_14 p1]
  have f_55_14 : I3 55 14 = I 55 14 := by rw [f2.1 55 (by omega), eb_repair_55_14 p1]
  have f_103_16 : I3 103 16 = I 103 16 := by rw [ek_repair_103_16 p2, f1.1 103 (by omega) (by omega)]
  have f_69_0 : I3 69 0 = I 69 0 := by rw [f2.1 69 (by omega), eb_repair_69_0 p1]
  have f_69_1 : I3 69 1 = I 69 1 := by rw [f2.1 69 (by omega), eb_repair_69_1 p1]
  have f_69_2 : I3 69 2 = I 69 2 := by rw [f2.1 69 (by omega), eb_repair_69_2 p1]
  have f_103_21 : I3 103 21 = I 103 21 := by rw [ek_repair_103_21 p2, f1.1 103 (by omega) (by omega)]
  have f_L : L3 103 = L 103 := (eL_repair_103 p2).trans (f1.2 103 (by omega) (by omega))
  have f_101_2 : I3 101 2 = I 101 2 := by rw [f2.1 101 (by omega), eb_repair_101_2 p1]
  have f_103_68 : I3 103 68 = I 103 68 := by rw [ek_repair_103_68 p2, f1.1 103 (by omega) (by omega)]
  have f_102_r : I3 102 = I 102 := by rw [f2.1 102 (by omega), eb_repair_102_r p1]
  have f_138_r : I3 138 = I 138 := by rw [ek_repair_138_r p2, f1.1 138 (by omega) (by omega)]
  have f_70_5 : I3 70 5 = I 70 5 := by rw [f2.1 70 (by omega), eb_repair_70_5 p1]
  have f_103_25 : I3 103 25 = I 103 25 := by rw [ek_repair_103_25 p2, f1.1 103 (by omega) (by omega)]
  have f_71_r : I3 71 = I 71 := by rw [f2.1 71 (by omega), eb_repair_71_r p1]
  have f_121_r : I3 121 = I 121 := by rw [ek_repair_121_r p2, f1.1 121 (by omega) (by omega)]
  have f_129_r : I3 129 = I 129 := by rw [ek_repair_129_r p2, f1.1 129 (by omega) (by omega)]
  exact ⟨(by rw [f_32_10, f_103_0]; exact hr.1), (by rw [f_33_7, f_103_1]; exact hr.2.1), (by rw [f_33_8, f_103_2]; exact hr.2.2.1), (by rw [f_41_13, f_110_0]; exact hr.2.2.2.1), (by rw [f_55_13, f_110_1]; exact hr.2.2.2.2.1), (by rw [f_41_14, f_55_14, f_103_16]; exact hr.2.2.2.2.2.1), (by rw [f_69_0, f_69_1, f_69_2, f_103_21, f_L]; exact hr.2.2.2.2.2.2.1), hq0, (by rw [f_101_2, f_103_68]; exact hr.2.2.2.2.2.2.2.2.1), (by rw [f_102_r, f_138_r]; exact hr.2.2.2.2.2.2.2.2.2.1), (by rw [f_70_5, f_103_25]; exact hr.2.2.2.2.2.2.2.2.2.2.1), (by rw [f_71_r, f_121_r]; exact hr.2.2.2.2.2.2.2.2.2.2.2.1), (tw_eq f_129_r fR hr.2.2.2.2.2.2.2.2.2.2.2.2)⟩

theorem relq_lime {v0 : Int32} {x y : Int32} {n : Nat} {I I2 I3 : px_I} {L L2 L3 : px_L} {R : px_R} (hj : jJ n I R) (hr : rel I L R) (f1 : frB I I2 L L2) {R2 : px_R} (fR : kR R I2 R2) (p1 : pb_lime v0 I L x I2 L2) (f2 : frK I2 I3 L2 L3) (p2 : pk_lime v0 I2 L2 y I3 L3) : x = y ∧ (I3 101 2 = I3 103 68) := by
  have h_da : I 32 10 = I 103 0 := hr.1
  have h_st : I 33 7 = I 103 1 := hr.2.1
  have h_si : I 33 8 = I 103 2 := hr.2.2.1
  have h_pA : I 41 13 = I 110 0 := hr.2.2.2.1
  have h_pB : I 55 13 = I 110 1 := hr.2.2.2.2.1
  have h_mk : I 41 14 + I 55 14 = I 103 16 := hr.2.2.2.2.2.1
  have h_ct : I 69 0 = I 103 21 ∧ (0 ≤ I 69 0 ∧ I 69 0 ≤ 30) ∧ (0 ≤ I 69 1 ∧ I 69 1 ≤ 2000009998) ∧ (0 ≤ I 69 2 ∧ I 69 2 ≤ 2000000000) ∧ ((I 69 0 = 0 ∧ I 69 1 = 0 ∧ I 69 2 = 2000000000) ∨ (I 69 0 ≠ 0 ∧ (L 103 22).toInt = (I 69 1).toInt ∧ (L 103 23).toInt = (I 69 2).toInt)) := hr.2.2.2.2.2.2.1
  have h_rp : I 41 15 + I 55 15 = I 103 63 := hr.2.2.2.2.2.2.2.1
  have h_li : I 101 2 = I 103 68 := hr.2.2.2.2.2.2.2.2.1
  have h_tb : ∀ k : Nat, I 102 k = I 138 k := hr.2.2.2.2.2.2.2.2.2.1
  have h_fd : I 70 5 = I 103 25 := hr.2.2.2.2.2.2.2.2.2.2.1
  have h_by : ∀ j : Nat, nb (I 71 j) = nb (I 121 j) := hr.2.2.2.2.2.2.2.2.2.2.2.1
  have h_tw : ∀ k : Nat, k < 6 → I 129 k = (if (R 89 k).isSome = true then 1 else 0) := hr.2.2.2.2.2.2.2.2.2.2.2.2
  unfold pb_lime at p1
  unfold pk_lime at p2
  have e5 : I3 101 = I2 101 := f2.1 101 (by omega)
  have e9 : I2 103 = I 103 := f1.1 103 (by omega) (by omega)
  rcases p1.2 with ⟨a1, a2, a3⟩ | ⟨a1, a2, a3⟩
  · rcases p2.2 with ⟨b0, b1, b2, b3⟩ | ⟨b1, b2, b3⟩
    · refine ⟨by rw [a2, b2], ?_⟩
      rw [e5, a3, b3, px_u_at, px_u_at]
    · exact absurd a1 b1
  · rcases p2.2 with ⟨b0, b1, b2, b3⟩ | ⟨b1, b2, b3⟩
    · exact absurd ⟨b0, b1⟩ a1
    · refine ⟨by rw [a2, b2], ?_⟩
      rw [e5, b3, e9, a3]; exact h_li

theorem rel.lime {v0 : Int32} {x y : Int32} {n : Nat} {I I2 I3 : px_I} {L L2 L3 : px_L} {R : px_R} (hj : jJ n I R) (hr : rel I L R) (f1 : frB I I2 L L2) {R2 : px_R} (fR : kR R I2 R2) (p1 : pb_lime v0 I L x I2 L2) (f2 : frK I2 I3 L2 L3) (p2 : pk_lime v0 I2 L2 y I3 L3) : rel I3 L3 R2 := by
  have hq0 := (relq_lime hj hr f1 fR p1 f2 p2).2
  have f_32_10 : I3 32 10 = I 32 10 := by rw [f2.1 32 (by omega), eb_lime_32_10 p1]
  have f_103_0 : I3 103 0 = I 103 0 := by rw [ek_lime_103_0 p2, f1.1 103 (by omega) (by omega)]
  have f_33_7 : I3 33 7 = I 33 7 := by rw [f2.1 33 (by omega), eb_lime_33_7 p1]
  have f_103_1 : I3 103 1 = I 103 1 := by rw [ek_lime_103_1 p2, f1.1 103 (by omega) (by omega)]
  have f_33_8 : I3 33 8 = I 33 8 := by rw [f2.1 33 (by omega), eb_lime_33_8 p1]
  have f_103_2 : I3 103 2 = I 103 2 := by rw [ek_lime_103_2 p2, f1.1 103 (by omega) (by omega)]
  have f_41_13 : I3 41 13 = I 41 13 := by rw [f2.1 41 (by omega), eb_lime_41_13 p1]
  have f_110_0 : I3 110 0 = I 110 0 := by rw [ek_lime_110_0 p2, f1.1 110 (by omega) (by omega)]
  have f_55_13 : I3 55 13 = I 55 13 := by rw [f2.1 55 (by omega), eb_lime_55_13 p1]
  have f_110_1 : I3 110 1 = I 110 1 := by rw [ek_lime_110_1 p2, f1.1 110 (by omega) (by omega)]
  have f_41_14 : I3 41 14 = I 41 14 := by rw [f2.1 41 (by omega), eb_lime_41_14 p1]
  have f_55_14 : I3 55 14 = I 55 14 := by rw [f2.1 55 (by omega), eb_lime_55_14 p1]
  have f_103_16 : I3 103 16 = I 103 16 := by rw [ek_lime_103_16 p2, f1.1 103 (by omega) (by omega)]
  have f_69_0 : I3 69 0 = I 69 0 := by rw [f2.1 69 (by omega), eb_lime_69_0 p1]
  have f_69_1 : I3 69 1 = I 69 1 := by rw [f2.1 69 (by omega), eb_lime_69_1 p1]
  have f_69_2 : I3 69 2 = I 69 2 := by rw [f2.1 69 (by omega), eb_lime_69_2 p1]
  have f_103_21 : I3 103 21 = I 103 21 := by rw [ek_lime_103_21 p2, f1.1 103 (by omega) (by omega)]
  have f_L : L3 103 = L 103 := (eL_lime_103 p2).trans (f1.2 103 (by omega) (by omega))
  have f_41_15 : I3 41 15 = I 41 15 := by rw [f2.1 41 (by omega), eb_lime_41_15 p1]
  have f_55_15 : I3 55 15 = I 55 15 := by rw [f2.1 55 (by omega), eb_lime_55_15 p1]
  have f_103_63 : I3 103 63 = I 103 63 := by rw [ek_lime_103_63 p2, f1.1 103 (by omega) (by omega)]
  have f_102_r : I3 102 = I 102 := by rw [f2.1 102 (by omega), eb_lime_102_r p1]
  have f_138_r : I3 138 = I 138 := by rw [ek_lime_138_r p2, f1.1 138 (by omega) (by omega)]
  have f_70_5 : I3 70 5 = I 70 5 := by rw [f2.1 70 (by omega), eb_lime_70_5 p1]
  have f_103_25 : I3 103 25 = I 103 25 := by rw [ek_lime_103_25 p2, f1.1 103 (by omega) (by omega)]
  have f_71_r : I3 71 = I 71 := by rw [f2.1 71 (by omega), eb_lime_71_r p1]
  have f_121_r : I3 121 = I 121 := by rw [ek_lime_121_r p2, f1.1 121 (by omega) (by omega)]
  have f_129_r : I3 129 = I 129 := by rw [ek_lime_129_r p2, f1.1 129 (by omega) (by omega)]
  exact ⟨(by rw [f_32_10, f_103_0]; exact hr.1), (by rw [f_33_7, f_103_1]; exact hr.2.1), (by rw [f_33_8, f_103_2]; exact hr.2.2.1), (by rw [f_41_13, f_110_0]; exact hr.2.2.2.1), (by rw [f_55_13, f_110_1]; exact hr.2.2.2.2.1), (by rw [f_41_14, f_55_14, f_103_16]; exact hr.2.2.2.2.2.1), (by rw [f_69_0, f_69_1, f_69_2, f_103_21, f_L]; exact hr.2.2.2.2.2.2.1), (by rw [f_41_15, f_55_15, f_103_63]; exact hr.2.2.2.2.2.2.2.1), hq0, (by rw [f_102_r, f_138_r]; exact hr.2.2.2.2.2.2.2.2.2.1), (by rw [f_70_5, f_103_25]; exact hr.2.2.2.2.2.2.2.2.2.2.1), (by rw [f_71_r, f_121_r]; exact hr.2.2.2.2.2.2.2.2.2.2.2.1), (tw_eq f_129_r fR hr.2.2.2.2.2.2.2.2.2.2.2.2)⟩

theorem rel.flow {v0 v1 v2 v3 : Int32} {x y : Int32} {n : Nat} {I I2 I3 : px_I} {L L2 L3 : px_L} {R : px_R} (hj : jJ n I R) (hr : rel I L R) (f1 : frB I I2 L L2) {R2 : px_R} (fR : kR R I2 R2) (p1 : pb_flow v0 v1 v2 v3 I L x I2 L2) (f2 : frK I2 I3 L2 L3) (p2 : pk_flow v0 v1 v2 v3 I2 L2 y I3 L3) : rel I3 L3 R2 := by
  have f_32_10 : I3 32 10 = I 32 10 := by rw [f2.1 32 (by omega), eb_flow_32_10 p1]
  have f_103_0 : I3 103 0 = I 103 0 := by rw [ek_flow_103_0 p2, f1.1 103 (by omega) (by omega)]
  have f_33_7 : I3 33 7 = I 33 7 := by rw [f2.1 33 (by omega), eb_flow_33_7 p1]
  have f_103_1 : I3 103 1 = I 103 1 := by rw [ek_flow_103_1 p2, f1.1 103 (by omega) (by omega)]
  have f_33_8 : I3 33 8 = I 33 8 := by rw [f2.1 33 (by omega), eb_flow_33_8 p1]
  have f_103_2 : I3 103 2 = I 103 2 := by rw [ek_flow_103_2 p2, f1.1 103 (by omega) (by omega)]
  have f_41_13 : I3 41 13 = I 41 13 := by rw [f2.1 41 (by omega), eb_flow_41_13 p1]
  have f_110_0 : I3 110 0 = I 110 0 := by rw [ek_flow_110_0 p2, f1.1 110 (by omega) (by omega)]
  have f_55_13 : I3 55 13 = I 55 13 := by rw [f2.1 55 (by omega), eb_flow_55_13 p1]
  have f_110_1 : I3 110 1 = I 110 1 := by rw [ek_flow_110_1 p2, f1.1 110 (by omega) (by omega)]
  have f_41_14 : I3 41 14 = I 41 14 := by rw [f2.1 41 (by omega), eb_flow_41_14 p1]
  have f_55_14 : I3 55 14 = I 55 14 := by rw [f2.1 55 (by omega), eb_flow_55_14 p1]
  have f_103_16 : I3 103 16 = I 103 16 := by rw [ek_flow_103_16 p2, f1.1 103 (by omega) (by omega)]
  have f_69_0 : I3 69 0 = I 69 0 := by rw [f2.1 69 (by omega), eb_flow_69_0 p1]
  have f_69_1 : I3 69 1 = I 69 1 := by rw [f2.1 69 (by omega), eb_flow_69_1 p1]
  have f_69_2 : I3 69 2 = I 69 2 := by rw [f2.1 69 (by omega), eb_flow_69_2 p1]
  have f_103_21 : I3 103 21 = I 103 21 := by rw [ek_flow_103_21 p2, f1.1 103 (by omega) (by omega)]
  have f_L : L3 103 = L 103 := (eL_flow_103 p2).trans (f1.2 103 (by omega) (by omega))
  have f_41_15 : I3 41 15 = I 41 15 := by rw [f2.1 41 (by omega), eb_flow_41_15 p1]
  have f_55_15 : I3 55 15 = I 55 15 := by rw [f2.1 55 (by omega), eb_flow_55_15 p1]
  have f_103_63 : I3 103 63 = I 103 63 := by rw [ek_flow_103_63 p2, f1.1 103 (by omega) (by omega)]
  have f_101_2 : I3 101 2 = I 101 2 := by rw [f2.1 101 (by omega), eb_flow_101_2 p1]
  have f_103_68 : I3 103 68 = I 103 68 := by rw [ek_flow_103_68 p2, f1.1 103 (by omega) (by omega)]
  have f_102_r : I3 102 = I 102 := by rw [f2.1 102 (by omega), eb_flow_102_r p1]
  have f_138_r : I3 138 = I 138 := by rw [ek_flow_138_r p2, f1.1 138 (by omega) (by omega)]
  have f_70_5 : I3 70 5 = I 70 5 := by rw [f2.1 70 (by omega), eb_flow_70_5 p1]
  have f_103_25 : I3 103 25 = I 103 25 := by rw [ek_flow_103_25 p2, f1.1 103 (by omega) (by omega)]
  have f_71_r : I3 71 = I 71 := by rw [f2.1 71 (by omega), eb_flow_71_r p1]
  have f_121_r : I3 121 = I 121 := by rw [ek_flow_121_r p2, f1.1 121 (by omega) (by omega)]
  have f_129_r : I3 129 = I 129 := by rw [ek_flow_129_r p2, f1.1 129 (by omega) (by omega)]
  exact ⟨(by rw [f_32_10, f_103_0]; exact hr.1), (by rw [f_33_7, f_103_1]; exact hr.2.1), (by rw [f_33_8, f_103_2]; exact hr.2.2.1), (by rw [f_41_13, f_110_0]; exact hr.2.2.2.1), (by rw [f_55_13, f_110_1]; exact hr.2.2.2.2.1), (by rw [f_41_14, f_55_14, f_103_16]; exact hr.2.2.2.2.2.1), (by rw [f_69_0, f_69_1, f_69_2, f_103_21, f_L]; exact hr.2.2.2.2.2.2.1), (by rw [f_41_15, f_55_15, f_103_63]; exact hr.2.2.2.2.2.2.2.1), (by rw [f_101_2, f_103_68]; exact hr.2.2.2.2.2.2.2.2.1), (by rw [f_102_r, f_138_r]; exact hr.2.2.2.2.2.2.2.2.2.1), (by rw [f_70_5, f_103_25]; exact hr.2.2.2.2.2.2.2.2.2.2.1), (by rw [f_71_r, f_121_r]; exact hr.2.2.2.2.2.2.2.2.2.2.2.1), (tw_eq f_129_r fR hr.2.2.2.2.2.2.2.2.2.2.2.2)⟩

theorem rel.narrow {v0 v1 v2 : Int32} {x y : Int32} {n : Nat} {I I2 I3 : px_I} {L L2 L3 : px_L} {R : px_R} (hj : jJ n I R) (hr : rel I L R) (f1 : frB I I2 L L2) {R2 : px_R} (fR : kR R I2 R2) (p1 : pb_narrow v0 v1 v2 I L x I2 L2) (f2 : frK I2 I3 L2 L3) (p2 : pk_narrow v0 v1 v2 I2 L2 y I3 L3) : rel I3 L3 R2 := by
  have f_32_10 : I3 32 10 = I 32 10 := by rw [f2.1 32 (by omega), eb_narrow_32_10 p1]
  have f_103_0 : I3 103 0 = I 103 0 := by rw [ek_narrow_103_0 p2, f1.1 103 (by omega) (by omega)]
  have f_33_7 : I3 33 7 = I 33 7 := by rw [f2.1 33 (by omega), eb_narrow_33_7 p1]
  have f_103_1 : I3 103 1 = I 103 1 := by rw [ek_narrow_103_1 p2, f1.1 103 (by omega) (by omega)]
  have f_33_8 : I3 33 8 = I 33 8 := by rw [f2.1 33 (by omega), eb_narrow_33_8 p1]
  have f_103_2 : I3 103 2 = I 103 2 := by rw [ek_narrow_103_2 p2, f1.1 103 (by omega) (by omega)]
  have f_41_13 : I3 41 13 = I 41 13 := by rw [f2.1 41 (by omega), eb_narrow_41_13 p1]
  have f_110_0 : I3 110 0 = I 110 0 := by rw [ek_narrow_110_0 p2, f1.1 110 (by omega) (by omega)]
  have f_55_13 : I3 55 13 = I 55 13 := by rw [f2.1 55 (by omega), eb_narrow_55_13 p1]
  have f_110_1 : I3 110 1 = I 110 1 := by rw [ek_narrow_110_1 p2, f1.1 110 (by omega) (by omega)]
  have f_41_14 : I3 41 14 = I 41 14 := by rw [f2.1 41 (by omega), eb_narrow_41_14 p1]
  have f_55_14 : I3 55 14 = I 55 14 := by rw [f2.1 55 (by omega), eb_narrow_55_14 p1]
  have f_103_16 : I3 103 16 = I 103 16 := by rw [ek_narrow_103_16 p2, f1.1 103 (by omega) (by omega)]
  have f_69_0 : I3 69 0 = I 69 0 := by rw [f2.1 69 (by omega), eb_narrow_69_0 p1]
  have f_69_1 : I3 69 1 = I 69 1 := by rw [f2.1 69 (by omega), eb_narrow_69_1 p1]
  have f_69_2 : I3 69 2 = I 69 2 := by rw [f2.1 69 (by omega), eb_narrow_69_2 p1]
  have f_103_21 : I3 103 21 = I 103 21 := by rw [ek_narrow_103_21 p2, f1.1 103 (by omega) (by omega)]
  have f_L : L3 103 = L 103 := (eL_narrow_103 p2).trans (f1.2 103 (by omega) (by omega))
  have f_41_15 : I3 41 15 = I 41 15 := by rw [f2.1 41 (by omega), eb_narrow_41_15 p1]
  have f_55_15 : I3 55 15 = I 55 15 := by rw [f2.1 55 (by omega), eb_narrow_55_15 p1]
  have f_103_63 : I3 103 63 = I 103 63 := by rw [ek_narrow_103_63 p2, f1.1 103 (by omega) (by omega)]
  have f_101_2 : I3 101 2 = I 101 2 := by rw [f2.1 101 (by omega), eb_narrow_101_2 p1]
  have f_103_68 : I3 103 68 = I 103 68 := by rw [ek_narrow_103_68 p2, f1.1 103 (by omega) (by omega)]
  have f_102_r : I3 102 = I 102 := by rw [f2.1 102 (by omega), eb_narrow_102_r p1]
  have f_138_r : I3 138 = I 138 := by rw [ek_narrow_138_r p2, f1.1 138 (by omega) (by omega)]
  have f_70_5 : I3 70 5 = I 70 5 := by rw [f2.1 70 (by omega), eb_narrow_70_5 p1]
  have f_103_25 : I3 103 25 = I 103 25 := by rw [ek_narrow_103_25 p2, f1.1 103 (by omega) (by omega)]
  have f_71_r : I3 71 = I 71 := by rw [f2.1 71 (by omega), eb_narrow_71_r p1]
  have f_121_r : I3 121 = I 121 := by rw [ek_narrow_121_r p2, f1.1 121 (by omega) (by omega)]
  have f_129_r : I3 129 = I 129 := by rw [ek_narrow_129_r p2, f1.1 129 (by omega) (by omega)]
  exact ⟨(by rw [f_32_10, f_103_0]; exact hr.1), (by rw [f_33_7, f_103_1]; exact hr.2.1), (by rw [f_33_8, f_103_2]; exact hr.2.2.1), (by rw [f_41_13, f_110_0]; exact hr.2.2.2.1), (by rw [f_55_13, f_110_1]; exact hr.2.2.2.2.1), (by rw [f_41_14, f_55_14, f_103_16]; exact hr.2.2.2.2.2.1), (by rw [f_69_0, f_69_1, f_69_2, f_103_21, f_L]; exact hr.2.2.2.2.2.2.1), (by rw [f_41_15, f_55_15, f_103_63]; exact hr.2.2.2.2.2.2.2.1), (by rw [f_101_2, f_103_68]; exact hr.2.2.2.2.2.2.2.2.1), (by rw [f_102_r, f_138_r]; exact hr.2.2.2.2.2.2.2.2.2.1), (by rw [f_70_5, f_103_25]; exact hr.2.2.2.2.2.2.2.2.2.2.1), (by rw [f_71_r, f_121_r]; exact hr.2.2.2.2.2.2.2.2.2.2.2.1), (tw_eq f_129_r fR hr.2.2.2.2.2.2.2.2.2.2.2.2)⟩

theorem rele.about {v0 : Int32} {x y : Int32} {n : Nat} {I I2 I3 : px_I} {L L2 L3 : px_L} {R : px_R} (hj : jJ n I R) (hr : rel I L R) (f1 : frB I I2 L L2) (p1 : pbs_about R v0 I L x I2 L2) (f2 : frK I2 I3 L2 L3) (p2 : pks_about v0 I2 L2 y I3 L3) : x = y := by
  have h_da : I 32 10 = I 103 0 := hr.1
  have h_st : I 33 7 = I 103 1 := hr.2.1
  have h_si : I 33 8 = I 103 2 := hr.2.2.1
  have h_pA : I 41 13 = I 110 0 := hr.2.2.2.1
  have h_pB : I 55 13 = I 110 1 := hr.2.2.2.2.1
  have h_mk : I 41 14 + I 55 14 = I 103 16 := hr.2.2.2.2.2.1
  have h_ct : I 69 0 = I 103 21 ∧ (0 ≤ I 69 0 ∧ I 69 0 ≤ 30) ∧ (0 ≤ I 69 1 ∧ I 69 1 ≤ 2000009998) ∧ (0 ≤ I 69 2 ∧ I 69 2 ≤ 2000000000) ∧ ((I 69 0 = 0 ∧ I 69 1 = 0 ∧ I 69 2 = 2000000000) ∨ (I 69 0 ≠ 0 ∧ (L 103 22).toInt = (I 69 1).toInt ∧ (L 103 23).toInt = (I 69 2).toInt)) := hr.2.2.2.2.2.2.1
  have h_rp : I 41 15 + I 55 15 = I 103 63 := hr.2.2.2.2.2.2.2.1
  have h_li : I 101 2 = I 103 68 := hr.2.2.2.2.2.2.2.2.1
  have h_tb : ∀ k : Nat, I 102 k = I 138 k := hr.2.2.2.2.2.2.2.2.2.1
  have h_fd : I 70 5 = I 103 25 := hr.2.2.2.2.2.2.2.2.2.2.1
  have h_by : ∀ j : Nat, nb (I 71 j) = nb (I 121 j) := hr.2.2.2.2.2.2.2.2.2.2.2.1
  have h_tw : ∀ k : Nat, k < 6 → I 129 k = (if (R 89 k).isSome = true then 1 else 0) := hr.2.2.2.2.2.2.2.2.2.2.2.2
  unfold pbs_about at p1
  unfold pks_about at p2
  have e1 : I2 103 = I 103 := f1.1 103 (by omega) (by omega)
  have e2 : I2 110 = I 110 := f1.1 110 (by omega) (by omega)
  have e3 : I2 138 = I 138 := f1.1 138 (by omega) (by omega)
  have e4 : I2 129 = I 129 := f1.1 129 (by omega) (by omega)
  have q1 : x = bAb R I v0 := p1.2.2
  have q2 : y = kAb I2 v0 := p2.2.2
  have t1 := tw_same (f := fun k => (R 89 k).isSome) (I := I2) (by rw [e4]; exact h_tw)
  rw [q1, q2]
  unfold bAb kAb
  rw [← t1, e1, e2, e3, h_da, h_st, h_si, h_pA, h_pB, h_mk, h_ct.1, h_rp, h_li, h_fd, h_tb]
  by_cases c : 20 ≤ v0 ∧ v0 ≤ 29
  · simp only [if_pos c]
    rw [if_neg (show ¬ v0 = 0 by grind), if_neg (show ¬ v0 = 1 by grind), if_neg (show ¬ v0 = 2 by grind), if_neg (show ¬ v0 = 3 by grind), if_neg (show ¬ v0 = 4 by grind), if_neg (show ¬ v0 = 5 by grind), if_neg (show ¬ v0 = 6 by grind), if_neg (show ¬ v0 = 7 by grind), if_neg (show ¬ v0 = 8 by grind), if_neg (show ¬ v0 = 9 by grind), if_neg (show ¬ v0 = 10 by grind)]
  · simp only [if_neg c]

theorem rel.about {v0 : Int32} {x y : Int32} {n : Nat} {I I2 I3 : px_I} {L L2 L3 : px_L} {R : px_R} (hj : jJ n I R) (hr : rel I L R) (f1 : frB I I2 L L2) {R2 : px_R} (fR : kR R I2 R2) (p1 : pbs_about R v0 I L x I2 L2) (f2 : frK I2 I3 L2 L3) (p2 : pks_about v0 I2 L2 y I3 L3) : x = y ∧ rel I3 L3 R2 := by
  have f_32_10 : I3 32 10 = I 32 10 := by rw [f2.1 32 (by omega), eb_about_32_10 (pbs_about.old p1)]
  have f_103_0 : I3 103 0 = I 103 0 := by rw [ek_about_103_0 (pks_about.old p2), f1.1 103 (by omega) (by omega)]
  have f_33_7 : I3 33 7 = I 33 7 := by rw [f2.1 33 (by omega), eb_about_33_7 (pbs_about.old p1)]
  have f_103_1 : I3 103 1 = I 103 1 := by rw [ek_about_103_1 (pks_about.old p2), f1.1 103 (by omega) (by omega)]
  have f_33_8 : I3 33 8 = I 33 8 := by rw [f2.1 33 (by omega), eb_about_33_8 (pbs_about.old p1)]
  have f_103_2 : I3 103 2 = I 103 2 := by rw [ek_about_103_2 (pks_about.old p2), f1.1 103 (by omega) (by omega)]
  have f_41_13 : I3 41 13 = I 41 13 := by rw [f2.1 41 (by omega), eb_about_41_13 (pbs_about.old p1)]
  have f_110_0 : I3 110 0 = I 110 0 := by rw [ek_about_110_0 (pks_about.old p2), f1.1 110 (by omega) (by omega)]
  have f_55_13 : I3 55 13 = I 55 13 := by rw [f2.1 55 (by omega), eb_about_55_13 (pbs_about.old p1)]
  have f_110_1 : I3 110 1 = I 110 1 := by rw [ek_about_110_1 (pks_about.old p2), f1.1 110 (by omega) (by omega)]
  have f_41_14 : I3 41 14 = I 41 14 := by rw [f2.1 41 (by omega), eb_about_41_14 (pbs_about.old p1)]
  have f_55_14 : I3 55 14 = I 55 14 := by rw [f2.1 55 (by omega), eb_about_55_14 (pbs_about.old p1)]
  have f_103_16 : I3 103 16 = I 103 16 := by rw [ek_about_103_16 (pks_about.old p2), f1.1 103 (by omega) (by omega)]
  have f_69_0 : I3 69 0 = I 69 0 := by rw [f2.1 69 (by omega), eb_about_69_0 (pbs_about.old p1)]
  have f_69_1 : I3 69 1 = I 69 1 := by rw [f2.1 69 (by omega), eb_about_69_1 (pbs_about.old p1)]
  have f_69_2 : I3 69 2 = I 69 2 := by rw [f2.1 69 (by omega), eb_about_69_2 (pbs_about.old p1)]
  have f_103_21 : I3 103 21 = I 103 21 := by rw [ek_about_103_21 (pks_about.old p2), f1.1 103 (by omega) (by omega)]
  have f_L : L3 103 = L 103 := (eL_about_103 (pks_about.old p2)).trans (f1.2 103 (by omega) (by omega))
  have f_41_15 : I3 41 15 = I 41 15 := by rw [f2.1 41 (by omega), eb_about_41_15 (pbs_about.old p1)]
  have f_55_15 : I3 55 15 = I 55 15 := by rw [f2.1 55 (by omega), eb_about_55_15 (pbs_about.old p1)]
  have f_103_63 : I3 103 63 = I 103 63 := by rw [ek_about_103_63 (pks_about.old p2), f1.1 103 (by omega) (by omega)]
  have f_101_2 : I3 101 2 = I 101 2 := by rw [f2.1 101 (by omega), eb_about_101_2 (pbs_about.old p1)]
  have f_103_68 : I3 103 68 = I 103 68 := by rw [ek_about_103_68 (pks_about.old p2), f1.1 103 (by omega) (by omega)]
  have f_102_r : I3 102 = I 102 := by rw [f2.1 102 (by omega), eb_about_102_r (pbs_about.old p1)]
  have f_138_r : I3 138 = I 138 := by rw [ek_about_138_r (pks_about.old p2), f1.1 138 (by omega) (by omega)]
  have f_70_5 : I3 70 5 = I 70 5 := by rw [f2.1 70 (by omega), eb_about_70_5 (pbs_about.old p1)]
  have f_103_25 : I3 103 25 = I 103 25 := by rw [ek_about_103_25 (pks_about.old p2), f1.1 103 (by omega) (by omega)]
  have f_71_r : I3 71 = I 71 := by rw [f2.1 71 (by omega), eb_about_71_r (pbs_about.old p1)]
  have f_121_r : I3 121 = I 121 := by rw [ek_about_121_r (pks_about.old p2), f1.1 121 (by omega) (by omega)]
  have f_129_r : I3 129 = I 129 := by rw [ek_about_129_r (pks_about.old p2), f1.1 129 (by omega) (by omega)]
  exact ⟨rele.about hj hr f1 p1 f2 p2, ⟨(by rw [f_32_10, f_103_0]; exact hr.1), (by rw [f_33_7, f_103_1]; exact hr.2.1), (by rw [f_33_8, f_103_2]; exact hr.2.2.1), (by rw [f_41_13, f_110_0]; exact hr.2.2.2.1), (by rw [f_55_13, f_110_1]; exact hr.2.2.2.2.1), (by rw [f_41_14, f_55_14, f_103_16]; exact hr.2.2.2.2.2.1), (by rw [f_69_0, f_69_1, f_69_2, f_103_21, f_L]; exact hr.2.2.2.2.2.2.1), (by rw [f_41_15, f_55_15, f_103_63]; exact hr.2.2.2.2.2.2.2.1), (by rw [f_101_2, f_103_68]; exact hr.2.2.2.2.2.2.2.2.1), (by rw [f_102_r, f_138_r]; exact hr.2.2.2.2.2.2.2.2.2.1), (by rw [f_70_5, f_103_25]; exact hr.2.2.2.2.2.2.2.2.2.2.1), (by rw [f_71_r, f_121_r]; exact hr.2.2.2.2.2.2.2.2.2.2.2.1), (tw_eq f_129_r fR hr.2.2.2.2.2.2.2.2.2.2.2.2)⟩⟩
