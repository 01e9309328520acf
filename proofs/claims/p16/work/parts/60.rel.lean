/-! what agrees in both books -/

theorem px_d32 {a b : Int32} (h0 : 0 ≤ a.toInt) (h1 : 1 ≤ b.toInt) : (a / b).toInt = a.toInt / b.toInt := by
  rw [Int32.toInt_div, Int.tdiv_eq_ediv_of_nonneg h0]
  have h2 := Int.ediv_le_self b.toInt h0
  have h3 := Int.ediv_nonneg h0 (by omega : (0 : Int) ≤ b.toInt)
  have h4 := Int32.toInt_lt a
  exact Int.bmod_eq_of_le (by omega) (by omega)
theorem px_d64 {a b : Int64} (h0 : 0 ≤ a.toInt) (h1 : 1 ≤ b.toInt) : (a / b).toInt = a.toInt / b.toInt := by
  rw [Int64.toInt_div, Int.tdiv_eq_ediv_of_nonneg h0]
  have h2 := Int.ediv_le_self b.toInt h0
  have h3 := Int.ediv_nonneg h0 (by omega : (0 : Int) ≤ b.toInt)
  have h4 := Int64.toInt_lt a
  exact Int.bmod_eq_of_le (by omega) (by omega)
theorem px_lo32 {u lo : Int32} (hu : 1 ≤ u ∧ u ≤ 9999) (hl : 1 ≤ lo ∧ lo ≤ 2000000) : ((1000 * lo + u - 1) / u).toInt = (1000 * lo.toInt + u.toInt - 1) / u.toInt := by
  obtain ⟨u1, u2⟩ := hu; obtain ⟨l1, l2⟩ := hl
  rw [Int32.le_iff_toInt_le] at u1 u2 l1 l2
  rw [show (1 : Int32).toInt = 1 by decide] at u1 l1
  rw [show (9999 : Int32).toInt = 9999 by decide] at u2
  rw [show (2000000 : Int32).toInt = 2000000 by decide] at l2
  have e1 : (1000 * lo).toInt = 1000 * lo.toInt := by rw [Int32.toInt_mul, show (1000 : Int32).toInt = 1000 by decide]; exact Int.bmod_eq_of_le (by omega) (by omega)
  have e2 : (1000 * lo + u).toInt = 1000 * lo.toInt + u.toInt := by rw [Int32.toInt_add, e1]; exact Int.bmod_eq_of_le (by omega) (by omega)
  have e3 : (1000 * lo + u - 1).toInt = 1000 * lo.toInt + u.toInt - 1 := by rw [Int32.toInt_sub, e2, show (1 : Int32).toInt = 1 by decide]; exact Int.bmod_eq_of_le (by omega) (by omega)
  rw [px_d32 (by omega) (by omega), e3]
theorem px_lo64 {u lo : Int32} (hu : 1 ≤ u ∧ u ≤ 9999) (hl : 1 ≤ lo ∧ lo ≤ 2000000) : ((1000 * lo.toInt64 + u.toInt64 - 1) / u.toInt64).toInt = (1000 * lo.toInt + u.toInt - 1) / u.toInt := by
  obtain ⟨u1, u2⟩ := hu; obtain ⟨l1, l2⟩ := hl
  rw [Int32.le_iff_toInt_le] at u1 u2 l1 l2
  rw [show (1 : Int32).toInt = 1 by decide] at u1 l1
  rw [show (9999 : Int32).toInt = 9999 by decide] at u2
  rw [show (2000000 : Int32).toInt = 2000000 by decide] at l2
  have e0 : u.toInt64.toInt = u.toInt := Int32.toInt_toInt64 u
  have e1 : (1000 * lo.toInt64).toInt = 1000 * lo.toInt := by rw [Int64.toInt_mul, Int32.toInt_toInt64, show (1000 : Int64).toInt = 1000 by decide]; exact Int.bmod_eq_of_le (by omega) (by omega)
  have e2 : (1000 * lo.toInt64 + u.toInt64).toInt = 1000 * lo.toInt + u.toInt := by rw [Int64.toInt_add, e1, e0]; exact Int.bmod_eq_of_le (by omega) (by omega)
  have e3 : (1000 * lo.toInt64 + u.toInt64 - 1).toInt = 1000 * lo.toInt + u.toInt - 1 := by rw [Int64.toInt_sub, e2, show (1 : Int64).toInt = 1 by decide]; exact Int.bmod_eq_of_le (by omega) (by omega)
  rw [px_d64 (by omega) (by omega), e3, e0]
theorem px_hi32 {u hi : Int32} (hu : 1 ≤ u ∧ u ≤ 9999) (hl : 1 ≤ hi ∧ hi ≤ 2000000) : (1000 * hi / u).toInt = 1000 * hi.toInt / u.toInt := by
  obtain ⟨u1, u2⟩ := hu; obtain ⟨l1, l2⟩ := hl
  rw [Int32.le_iff_toInt_le] at u1 u2 l1 l2
  rw [show (1 : Int32).toInt = 1 by decide] at u1 l1
  rw [show (2000000 : Int32).toInt = 2000000 by decide] at l2
  have e1 : (1000 * hi).toInt = 1000 * hi.toInt := by rw [Int32.toInt_mul, show (1000 : Int32).toInt = 1000 by decide]; exact Int.bmod_eq_of_le (by omega) (by omega)
  rw [px_d32 (by omega) (by omega), e1]
theorem px_hi64 {u hi : Int32} (hu : 1 ≤ u ∧ u ≤ 9999) (hl : 1 ≤ hi ∧ hi ≤ 2000000) : (1000 * hi.toInt64 / u.toInt64).toInt = 1000 * hi.toInt / u.toInt := by
  obtain ⟨u1, u2⟩ := hu; obtain ⟨l1, l2⟩ := hl
  rw [Int32.le_iff_toInt_le] at u1 u2 l1 l2
  rw [show (1 : Int32).toInt = 1 by decide] at u1 l1
  rw [show (2000000 : Int32).toInt = 2000000 by decide] at l2
  have e0 : u.toInt64.toInt = u.toInt := Int32.toInt_toInt64 u
  have e1 : (1000 * hi.toInt64).toInt = 1000 * hi.toInt := by rw [Int64.toInt_mul, Int32.toInt_toInt64, show (1000 : Int64).toInt = 1000 by decide]; exact Int.bmod_eq_of_le (by omega) (by omega)
  rw [px_d64 (by omega) (by omega), e1, e0]
theorem px_lob {u lo : Int32} (hu : 1 ≤ u ∧ u ≤ 9999) (hl : 1 ≤ lo ∧ lo ≤ 2000000) : 1 ≤ (1000 * lo.toInt + u.toInt - 1) / u.toInt ∧ (1000 * lo.toInt + u.toInt - 1) / u.toInt ≤ 2000009998 := by
  obtain ⟨u1, u2⟩ := hu; obtain ⟨l1, l2⟩ := hl
  rw [Int32.le_iff_toInt_le] at u1 u2 l1 l2
  rw [show (1 : Int32).toInt = 1 by decide] at u1 l1
  rw [show (9999 : Int32).toInt = 9999 by decide] at u2
  rw [show (2000000 : Int32).toInt = 2000000 by decide] at l2
  have h1 := Int.ediv_le_self (a := 1000 * lo.toInt + u.toInt - 1) u.toInt (by omega)
  exact ⟨(Int.le_ediv_iff_mul_le (by omega)).mpr (by omega), by omega⟩
theorem px_hib {u hi : Int32} (hu : 1 ≤ u ∧ u ≤ 9999) (hl : 1 ≤ hi ∧ hi ≤ 2000000) : 0 ≤ 1000 * hi.toInt / u.toInt ∧ 1000 * hi.toInt / u.toInt ≤ 2000000000 := by
  obtain ⟨u1, u2⟩ := hu; obtain ⟨l1, l2⟩ := hl
  rw [Int32.le_iff_toInt_le] at u1 u2 l1 l2
  rw [show (1 : Int32).toInt = 1 by decide] at u1 l1
  rw [show (2000000 : Int32).toInt = 2000000 by decide] at l2
  have h1 := Int.ediv_le_self (a := 1000 * hi.toInt) u.toInt (by omega)
  exact ⟨Int.ediv_nonneg (by omega) (by omega), by omega⟩
theorem px_lo {I I2 : px_I} {L : px_L} {u lo : Int32} (hu : 1 ≤ u ∧ u ≤ 9999) (hl : 1 ≤ lo ∧ lo ≤ 2000000) (h21 : I2 103 21 = I 69 0)
    (hn : 0 ≤ I 69 0) (h : (I 69 0 = 0 ∧ I 69 1 = 0) ∨ (I 69 0 ≠ 0 ∧ (L 103 22).toInt = (I 69 1).toInt)) : (mLo I2 L u lo).toInt = (cCf I u lo).toInt := by
  unfold mLo cCf
  have hb := px_lob hu hl
  rw [h21]
  rcases h with ⟨h1, h2⟩ | ⟨h1, h2⟩
  · rw [if_neg (by rw [h1]; exact fun q => absurd q.1 (by decide)), h2, if_pos (Int32.lt_iff_toInt_lt.mpr (by rw [px_lo32 hu hl, show (0 : Int32).toInt = 0 by decide]; omega)), px_lo64 hu hl, px_lo32 hu hl]
  · have hp : 0 < I 69 0 := by grind
    by_cases c : (1000 * lo.toInt64 + u.toInt64 - 1) / u.toInt64 < L 103 22
    · rw [if_pos ⟨hp, c⟩, if_neg (by rw [Int32.lt_iff_toInt_lt, px_lo32 hu hl]; rw [Int64.lt_iff_toInt_lt, px_lo64 hu hl] at c; omega)]
      exact h2
    · rw [if_neg (fun q => c q.2)]
      rw [Int64.lt_iff_toInt_lt, px_lo64 hu hl] at c
      split
      · rw [px_lo64 hu hl, px_lo32 hu hl]
      · rename_i c2
        rw [Int32.lt_iff_toInt_lt, px_lo32 hu hl] at c2
        rw [px_lo64 hu hl]; omega
theorem px_hi {I I2 : px_I} {L : px_L} {u hi : Int32} (hu : 1 ≤ u ∧ u ≤ 9999) (hl : 1 ≤ hi ∧ hi ≤ 2000000) (h21 : I2 103 21 = I 69 0)
    (hn : 0 ≤ I 69 0) (h : (I 69 0 = 0 ∧ I 69 2 = 2000000000) ∨ (I 69 0 ≠ 0 ∧ (L 103 23).toInt = (I 69 2).toInt)) : (mHi I2 L u hi).toInt = (cCt I u hi).toInt := by
  unfold mHi cCt
  have hb := px_hib hu hl
  rw [h21]
  rcases h with ⟨h1, h2⟩ | ⟨h1, h2⟩
  · rw [if_neg (by rw [h1]; exact fun q => absurd q.1 (by decide)), h2, px_hi64 hu hl]
    split
    · rw [px_hi32 hu hl]
    · rename_i c
      rw [Int32.lt_iff_toInt_lt, px_hi32 hu hl] at c
      rw [show (2000000000 : Int32).toInt = 2000000000 by decide] at c ⊢
      omega
  · have hp : 0 < I 69 0 := by grind
    by_cases c : L 103 23 < 1000 * hi.toInt64 / u.toInt64
    · rw [if_pos ⟨hp, c⟩, if_neg (by rw [Int32.lt_iff_toInt_lt, px_hi32 hu hl]; rw [Int64.lt_iff_toInt_lt, px_hi64 hu hl] at c; omega)]
      exact h2
    · rw [if_neg (fun q => c q.2)]
      rw [Int64.lt_iff_toInt_lt, px_hi64 hu hl] at c
      split
      · rw [px_hi64 hu hl, px_hi32 hu hl]
      · rename_i c2
        rw [Int32.lt_iff_toInt_lt, px_hi32 hu hl] at c2
        rw [px_hi64 hu hl]; omega
theorem px_cfb {I : px_I} {u lo : Int32} (hu : 1 ≤ u ∧ u ≤ 9999) (hl : 1 ≤ lo ∧ lo ≤ 2000000) (h : 0 ≤ I 69 1 ∧ I 69 1 ≤ 2000009998) : 0 ≤ cCf I u lo ∧ cCf I u lo ≤ 2000009998 := by
  have hb := px_lob hu hl
  unfold cCf
  split
  · rw [Int32.le_iff_toInt_le, Int32.le_iff_toInt_le, px_lo32 hu hl, show (0 : Int32).toInt = 0 by decide, show (2000009998 : Int32).toInt = 2000009998 by decide]; omega
  · exact h
theorem px_ctb {I : px_I} {u hi : Int32} (hu : 1 ≤ u ∧ u ≤ 9999) (hl : 1 ≤ hi ∧ hi ≤ 2000000) (h : 0 ≤ I 69 2 ∧ I 69 2 ≤ 2000000000) : 0 ≤ cCt I u hi ∧ cCt I u hi ≤ 2000000000 := by
  have hb := px_hib hu hl
  unfold cCt
  split
  · rw [Int32.le_iff_toInt_le, Int32.le_iff_toInt_le, px_hi32 hu hl, show (0 : Int32).toInt = 0 by decide, show (2000000000 : Int32).toInt = 2000000000 by decide]; omega
  · exact h
theorem px_32of {l : Int64} {v : Int32} (h : l.toInt = v.toInt) : l.toInt32 = v := by
  apply Int32.toInt_inj.mp
  have h1 := Int32.le_toInt v
  have h2 := Int32.toInt_lt v
  rw [Int64.toInt_toInt32, h]
  exact Int.bmod_eq_of_le (by omega) (by omega)

theorem eb_days_69_0 {x9 x : Int32} {I I2 : px_I} {L L2 : px_L} (h : pb_days x9 I L x I2 L2) : I2 69 0 = I 69 0 := by
  unfold pb_days at h
  obtain ⟨rfl, h⟩ := h
  rcases h with ⟨a1, a2, rfl, rfl⟩ | ⟨a1, rfl, rfl⟩
  · (repeat rw [px_u_out (by omega)])
  · rfl

theorem eb_days_69_1 {x9 x : Int32} {I I2 : px_I} {L L2 : px_L} (h : pb_days x9 I L x I2 L2) : I2 69 1 = I 69 1 := by
  unfold pb_days at h
  obtain ⟨rfl, h⟩ := h
  rcases h with ⟨a1, a2, rfl, rfl⟩ | ⟨a1, rfl, rfl⟩
  · (repeat rw [px_u_out (by omega)])
  · rfl

theorem eb_days_69_2 {x9 x : Int32} {I I2 : px_I} {L L2 : px_L} (h : pb_days x9 I L x I2 L2) : I2 69 2 = I 69 2 := by
  unfold pb_days at h
  obtain ⟨rfl, h⟩ := h
  rcases h with ⟨a1, a2, rfl, rfl⟩ | ⟨a1, rfl, rfl⟩
  · (repeat rw [px_u_out (by omega)])
  · rfl

theorem ek_days_103_21 {x9 x : Int32} {I I2 : px_I} {L L2 : px_L} (h : pk_days x9 I L x I2 L2) : I2 103 21 = I 103 21 := by
  unfold pk_days at h
  obtain ⟨rfl, h⟩ := h
  rcases h with ⟨a1, a2, a3, rfl, rfl⟩ | ⟨a1, rfl, rfl⟩
  · (repeat rw [px_u_out (by omega)])
  · rfl

theorem eL_days_103 {x9 x : Int32} {I I2 : px_I} {L L2 : px_L} (h : pk_days x9 I L x I2 L2) : L2 103 = L 103 := by
  unfold pk_days at h
  rw [h.1]

theorem eb_station_69_0 { x : Int32} {I I2 : px_I} {L L2 : px_L} (h : pb_station  I L x I2 L2) : I2 69 0 = I 69 0 := by
  unfold pb_station at h
  obtain ⟨rfl, h⟩ := h
  rcases h with ⟨a1, rfl, rfl⟩ | ⟨a1, rfl, rfl⟩
  · (repeat rw [px_u_out (by omega)])
  · rfl

theorem eb_station_69_1 { x : Int32} {I I2 : px_I} {L L2 : px_L} (h : pb_station  I L x I2 L2) : I2 69 1 = I 69 1 := by
  unfold pb_station at h
  obtain ⟨rfl, h⟩ := h
  rcases h with ⟨a1, rfl, rfl⟩ | ⟨a1, rfl, rfl⟩
  · (repeat rw [px_u_out (by omega)])
  · rfl

theorem eb_station_69_2 { x : Int32} {I I2 : px_I} {L L2 : px_L} (h : pb_station  I L x I2 L2) : I2 69 2 = I 69 2 := by
  unfold pb_station at h
  obtain ⟨rfl, h⟩ := h
  rcases h with ⟨a1, rfl, rfl⟩ | ⟨a1, rfl, rfl⟩
  · (repeat rw [px_u_out (by omega)])
  · rfl

theorem ek_station_103_21 { x : Int32} {I I2 : px_I} {L L2 : px_L} (h : pk_station  I L x I2 L2) : I2 103 21 = I 103 21 := by
  unfold pk_station at h
  obtain ⟨rfl, h⟩ := h
  rcases h with ⟨a1, rfl, rfl⟩ | ⟨a1, rfl, rfl⟩
  · (repeat rw [px_u_out (by omega)])
  · rfl

theorem eL_station_103 { x : Int32} {I I2 : px_I} {L L2 : px_L} (h : pk_station  I L x I2 L2) : L2 103 = L 103 := by
  unfold pk_station at h
  rw [h.1]

theorem eb_sight_69_0 {a f t lo hi x : Int32} {I I2 : px_I} {L L2 : px_L} (h : pb_sight a f t lo hi I L x I2 L2) : I2 69 0 = I 69 0 := by
  unfold pb_sight at h
  obtain ⟨rfl, h⟩ := h
  rcases h with ⟨a1, rfl, rfl⟩ | ⟨a1, rfl, rfl⟩
  · (repeat rw [px_u_out (by omega)])
  · rfl

theorem eb_sight_69_1 {a f t lo hi x : Int32} {I I2 : px_I} {L L2 : px_L} (h : pb_sight a f t lo hi I L x I2 L2) : I2 69 1 = I 69 1 := by
  unfold pb_sight at h
  obtain ⟨rfl, h⟩ := h
  rcases h with ⟨a1, rfl, rfl⟩ | ⟨a1, rfl, rfl⟩
  · (repeat rw [px_u_out (by omega)])
  · rfl

theorem eb_sight_69_2 {a f t lo hi x : Int32} {I I2 : px_I} {L L2 : px_L} (h : pb_sight a f t lo hi I L x I2 L2) : I2 69 2 = I 69 2 := by
  unfold pb_sight at h
  obtain ⟨rfl, h⟩ := h
  rcases h with ⟨a1, rfl, rfl⟩ | ⟨a1, rfl, rfl⟩
  · (repeat rw [px_u_out (by omega)])
  · rfl

theorem ek_sight_103_21 {a f t lo hi x : Int32} {I I2 : px_I} {L L2 : px_L} (h : pk_sight a f t lo hi I L x I2 L2) : I2 103 21 = I 103 21 := by
  unfold pk_sight at h
  obtain ⟨rfl, h⟩ := h
  rcases h with ⟨a1, rfl, rfl⟩ | ⟨a1, rfl, rfl⟩
  · (repeat rw [px_u_out (by omega)])
  · rfl

theorem eL_sight_103 {a f t lo hi x : Int32} {I I2 : px_I} {L L2 : px_L} (h : pk_sight a f t lo hi I L x I2 L2) : L2 103 = L 103 := by
  unfold pk_sight at h
  rw [h.1]

theorem eb_closed_69_0 {a k x : Int32} {I I2 : px_I} {L L2 : px_L} (h : pb_closed a k I L x I2 L2) : I2 69 0 = I 69 0 := by
  unfold pb_closed at h
  obtain ⟨rfl, h⟩ := h
  rfl

theorem eb_closed_69_1 {a k x : Int32} {I I2 : px_I} {L L2 : px_L} (h : pb_closed a k I L x I2 L2) : I2 69 1 = I 69 1 := by
  unfold pb_closed at h
  obtain ⟨rfl, h⟩ := h
  rfl

theorem eb_closed_69_2 {a k x : Int32} {I I2 : px_I} {L L2 : px_L} (h : pb_closed a k I L x I2 L2) : I2 69 2 = I 69 2 := by
  unfold pb_closed at h
  obtain ⟨rfl, h⟩ := h
  rfl

theorem ek_closed_103_21 {a k x : Int32} {I I2 : px_I} {L L2 : px_L} (h : pk_closed a k I L x I2 L2) : I2 103 21 = I 103 21 := by
  unfold pk_closed at h
  exact h.1 103 21 (by omega)

theorem eL_closed_103 {a k x : Int32} {I I2 : px_I} {L L2 : px_L} (h : pk_closed a k I L x I2 L2) : L2 103 = L 103 := by
  unfold pk_closed at h
  rw [h.2 103 (by omega)]

theorem eb_span_69_0 {a t k h x : Int32} {I I2 : px_I} {L L2 : px_L} (h : pb_span a t k h I L x I2 L2) : I2 69 0 = I 69 0 := by
  unfold pb_span at h
  obtain ⟨rfl, h⟩ := h
  rfl

theorem eb_span_69_1 {a t k h x : Int32} {I I2 : px_I} {L L2 : px_L} (h : pb_span a t k h I L x I2 L2) : I2 69 1 = I 69 1 := by
  unfold pb_span at h
  obtain ⟨rfl, h⟩ := h
  rfl

theorem eb_span_69_2 {a t k h x : Int32} {I I2 : px_I} {L L2 : px_L} (h : pb_span a t k h I L x I2 L2) : I2 69 2 = I 69 2 := by
  unfold pb_span at h
  obtain ⟨rfl, h⟩ := h
  rfl

theorem ek_span_103_21 {a t k h x : Int32} {I I2 : px_I} {L L2 : px_L} (h : pk_span a t k h I L x I2 L2) : I2 103 21 = I 103 21 := by
  unfold pk_span at h
  exact h.1 103 21 (by omega)

theorem eL_span_103 {a t k h x : Int32} {I I2 : px_I} {L L2 : px_L} (h : pk_span a t k h I L x I2 L2) : L2 103 = L 103 := by
  unfold pk_span at h
  rw [h.2 103 (by omega)]

theorem eb_gap_69_0 {a f t k h x : Int32} {I I2 : px_I} {L L2 : px_L} (h : pb_gap a f t k h I L x I2 L2) : I2 69 0 = I 69 0 := by
  unfold pb_gap at h
  obtain ⟨rfl, h⟩ := h
  rfl

theorem eb_gap_69_1 {a f t k h x : Int32} {I I2 : px_I} {L L2 : px_L} (h : pb_gap a f t k h I L x I2 L2) : I2 69 1 = I 69 1 := by
  unfold pb_gap at h
  obtain ⟨rfl, h⟩ := h
  rfl

theorem eb_gap_69_2 {a f t k h x : Int32} {I I2 : px_I} {L L2 : px_L} (h : pb_gap a f t k h I L x I2 L2) : I2 69 2 = I 69 2 := by
  unfold pb_gap at h
  obtain ⟨rfl, h⟩ := h
  rfl

theorem ek_gap_103_21 {a f t k h x : Int32} {I I2 : px_I} {L L2 : px_L} (h : pk_gap a f t k h I L x I2 L2) : I2 103 21 = I 103 21 := by
  unfold pk_gap at h
  exact h.1 103 21 (by omega)

theorem eL_gap_103 {a f t k h x : Int32} {I I2 : px_I} {L L2 : px_L} (h : pk_gap a f t k h I L x I2 L2) : L2 103 = L 103 := by
  unfold pk_gap at h
  rw [h.2 103 (by omega)]

theorem eb_blamed_69_0 {a k i x : Int32} {I I2 : px_I} {L L2 : px_L} (h : pb_blamed a k i I L x I2 L2) : I2 69 0 = I 69 0 := by
  unfold pb_blamed at h
  obtain ⟨rfl, h⟩ := h
  rfl

theorem eb_blamed_69_1 {a k i x : Int32} {I I2 : px_I} {L L2 : px_L} (h : pb_blamed a k i I L x I2 L2) : I2 69 1 = I 69 1 := by
  unfold pb_blamed at h
  obtain ⟨rfl, h⟩ := h
  rfl

theorem eb_blamed_69_2 {a k i x : Int32} {I I2 : px_I} {L L2 : px_L} (h : pb_blamed a k i I L x I2 L2) : I2 69 2 = I 69 2 := by
  unfold pb_blamed at h
  obtain ⟨rfl, h⟩ := h
  rfl

theorem ek_blamed_103_21 {a k i x : Int32} {I I2 : px_I} {L L2 : px_L} (h : pk_blamed a k i I L x I2 L2) : I2 103 21 = I 103 21 := by
  unfold pk_blamed at h
  exact h.1 103 21 (by omega)

theorem eL_blamed_103 {a k i x : Int32} {I I2 : px_I} {L L2 : px_L} (h : pk_blamed a k i I L x I2 L2) : L2 103 = L 103 := by
  unfold pk_blamed at h
  rw [h.2 103 (by omega)]

theorem eb_reach_69_0 {g lo hi sl fa w st x : Int32} {I I2 : px_I} {L L2 : px_L} (h : pb_reach g lo hi sl fa w st I L x I2 L2) : I2 69 0 = I 69 0 := by
  unfold pb_reach at h
  obtain ⟨rfl, h⟩ := h
  rcases h with ⟨G, ⟨g1, g2, g3⟩, rfl, rfl⟩ | ⟨a1, rfl, rfl⟩
  · have gG : G = 41 ∨ G = 55 := by unfold bG at g1; omega
    rw [cReach_o (by omega)]
  · rfl

theorem eb_reach_69_1 {g lo hi sl fa w st x : Int32} {I I2 : px_I} {L L2 : px_L} (h : pb_reach g lo hi sl fa w st I L x I2 L2) : I2 69 1 = I 69 1 := by
  unfold pb_reach at h
  obtain ⟨rfl, h⟩ := h
  rcases h with ⟨G, ⟨g1, g2, g3⟩, rfl, rfl⟩ | ⟨a1, rfl, rfl⟩
  · have gG : G = 41 ∨ G = 55 := by unfold bG at g1; omega
    rw [cReach_o (by omega)]
  · rfl

theorem eb_reach_69_2 {g lo hi sl fa w st x : Int32} {I I2 : px_I} {L L2 : px_L} (h : pb_reach g lo hi sl fa w st I L x I2 L2) : I2 69 2 = I 69 2 := by
  unfold pb_reach at h
  obtain ⟨rfl, h⟩ := h
  rcases h with ⟨G, ⟨g1, g2, g3⟩, rfl, rfl⟩ | ⟨a1, rfl, rfl⟩
  · have gG : G = 41 ∨ G = 55 := by unfold bG at g1; omega
    rw [cReach_o (by omega)]
  · rfl

theorem ek_reach_103_21 {g lo hi sl fa w st x : Int32} {I I2 : px_I} {L L2 : px_L} (h : pk_reach g lo hi sl fa w st I L x I2 L2) : I2 103 21 = I 103 21 := by
  unfold pk_reach at h
  obtain ⟨rfl, h⟩ := h
  rcases h with ⟨a1, rfl, rfl⟩ | ⟨a1, rfl, rfl⟩
  · unfold mReach; (repeat rw [px_u_out (by omega)])
  · rfl

theorem eL_reach_103 {g lo hi sl fa w st x : Int32} {I I2 : px_I} {L L2 : px_L} (h : pk_reach g lo hi sl fa w st I L x I2 L2) : L2 103 = L 103 := by
  unfold pk_reach at h
  rw [h.1]

theorem eb_mouth_69_0 {g st x : Int32} {I I2 : px_I} {L L2 : px_L} (h : pb_mouth g st I L x I2 L2) : I2 69 0 = I 69 0 := by
  unfold pb_mouth at h
  obtain ⟨rfl, h⟩ := h
  rcases h with ⟨G, g1, rfl⟩ | rfl
  · have gG : G = 41 ∨ G = 55 := by unfold bG at g1; omega
    (repeat rw [px_u_out (by omega)])
  · rfl

theorem eb_mouth_69_1 {g st x : Int32} {I I2 : px_I} {L L2 : px_L} (h : pb_mouth g st I L x I2 L2) : I2 69 1 = I 69 1 := by
  unfold pb_mouth at h
  obtain ⟨rfl, h⟩ := h
  rcases h with ⟨G, g1, rfl⟩ | rfl
  · have gG : G = 41 ∨ G = 55 := by unfold bG at g1; omega
    (repeat rw [px_u_out (by omega)])
  · rfl

theorem eb_mouth_69_2 {g st x : Int32} {I I2 : px_I} {L L2 : px_L} (h : pb_mouth g st I L x I2 L2) : I2 69 2 = I 69 2 := by
  unfold pb_mouth at h
  obtain ⟨rfl, h⟩ := h
  rcases h with ⟨G, g1, rfl⟩ | rfl
  · have gG : G = 41 ∨ G = 55 := by unfold bG at g1; omega
    (repeat rw [px_u_out (by omega)])
  · rfl

theorem ek_mouth_103_21 {g st x : Int32} {I I2 : px_I} {L L2 : px_L} (h : pk_mouth g st I L x I2 L2) : I2 103 21 = I 103 21 := by
  unfold pk_mouth at h
  obtain ⟨rfl, h⟩ := h
  rcases h with ⟨a1, a2, rfl, rfl⟩ | ⟨a1, rfl, rfl⟩
  · (repeat rw [px_u_out (by omega)])
  · rfl

theorem eL_mouth_103 {g st x : Int32} {I I2 : px_I} {L L2 : px_L} (h : pk_mouth g st I L x I2 L2) : L2 103 = L 103 := by
  unfold pk_mouth at h
  rw [h.1]

theorem eb_mark_69_0 {g p f t x : Int32} {I I2 : px_I} {L L2 : px_L} (h : pb_mark g p f t I L x I2 L2) : I2 69 0 = I 69 0 := by
  unfold pb_mark at h
  obtain ⟨rfl, h⟩ := h
  rcases h with ⟨G, g1, rfl, rfl⟩ | ⟨a1, rfl, rfl⟩
  · have g2 := g1.1
    have gG : G = 41 ∨ G = 55 := by unfold bG at g2; omega
    unfold cMark; (repeat rw [px_u_out (by omega)])
  · rfl

theorem eb_mark_69_1 {g p f t x : Int32} {I I2 : px_I} {L L2 : px_L} (h : pb_mark g p f t I L x I2 L2) : I2 69 1 = I 69 1 := by
  unfold pb_mark at h
  obtain ⟨rfl, h⟩ := h
  rcases h with ⟨G, g1, rfl, rfl⟩ | ⟨a1, rfl, rfl⟩
  · have g2 := g1.1
    have gG : G = 41 ∨ G = 55 := by unfold bG at g2; omega
    unfold cMark; (repeat rw [px_u_out (by omega)])
  · rfl

theorem eb_mark_69_2 {g p f t x : Int32} {I I2 : px_I} {L L2 : px_L} (h : pb_mark g p f t I L x I2 L2) : I2 69 2 = I 69 2 := by
  unfold pb_mark at h
  obtain ⟨rfl, h⟩ := h
  rcases h with ⟨G, g1, rfl, rfl⟩ | ⟨a1, rfl, rfl⟩
  · have g2 := g1.1
    have gG : G = 41 ∨ G = 55 := by unfold bG at g2; omega
    unfold cMark; (repeat rw [px_u_out (by omega)])
  · rfl

theorem ek_mark_103_21 {g p f t x : Int32} {I I2 : px_I} {L L2 : px_L} (h : pk_mark g p f t I L x I2 L2) : I2 103 21 = I 103 21 := by
  unfold pk_mark at h
  obtain ⟨rfl, h⟩ := h
  rcases h with ⟨a1, rfl, rfl⟩ | ⟨a1, rfl, rfl⟩
  · unfold mMark; (repeat rw [px_u_out (by omega)])
  · rfl

theorem eL_mark_103 {g p f t x : Int32} {I I2 : px_I} {L L2 : px_L} (h : pk_mark g p f t I L x I2 L2) : L2 103 = L 103 := by
  unfold pk_mark at h
  rw [h.1]

theorem eb_when_69_0 {g p h x : Int32} {I I2 : px_I} {L L2 : px_L} (h : pb_when g p h I L x I2 L2) : I2 69 0 = I 69 0 := by
  unfold pb_when at h
  obtain ⟨rfl, h⟩ := h
  rw [h 69 (by decide) (by decide) (by decide) (by decide)]

theorem eb_when_69_1 {g p h x : Int32} {I I2 : px_I} {L L2 : px_L} (h : pb_when g p h I L x I2 L2) : I2 69 1 = I 69 1 := by
  unfold pb_when at h
  obtain ⟨rfl, h⟩ := h
  rw [h 69 (by decide) (by decide) (by decide) (by decide)]

theorem eb_when_69_2 {g p h x : Int32} {I I2 : px_I} {L L2 : px_L} (h : pb_when g p h I L x I2 L2) : I2 69 2 = I 69 2 := by
  unfold pb_when at h
  obtain ⟨rfl, h⟩ := h
  rw [h 69 (by decide) (by decide) (by decide) (by decide)]

theorem ek_when_103_21 {g p h x : Int32} {I I2 : px_I} {L L2 : px_L} (h : pk_when g p h I L x I2 L2) : I2 103 21 = I 103 21 := by
  unfold pk_when at h
  exact h.1 103 21 (by omega)

theorem eL_when_103 {g p h x : Int32} {I I2 : px_I} {L L2 : px_L} (h : pk_when g p h I L x I2 L2) : L2 103 = L 103 := by
  unfold pk_when at h
  rw [h.2 103 (by omega)]

theorem eb_between_69_0 {g p q h x : Int32} {I I2 : px_I} {L L2 : px_L} (h : pb_between g p q h I L x I2 L2) : I2 69 0 = I 69 0 := by
  unfold pb_between at h
  obtain ⟨rfl, h⟩ := h
  rw [h 69 (by decide) (by decide) (by decide) (by decide)]

theorem eb_between_69_1 {g p q h x : Int32} {I I2 : px_I} {L L2 : px_L} (h : pb_between g p q h I L x I2 L2) : I2 69 1 = I 69 1 := by
  unfold pb_between at h
  obtain ⟨rfl, h⟩ := h
  rw [h 69 (by decide) (by decide) (by decide) (by decide)]

theorem eb_between_69_2 {g p q h x : Int32} {I I2 : px_I} {L L2 : px_L} (h : pb_between g p q h I L x I2 L2) : I2 69 2 = I 69 2 := by
  unfold pb_between at h
  obtain ⟨rfl, h⟩ := h
  rw [h 69 (by decide) (by decide) (by decide) (by decide)]

theorem ek_between_103_21 {g p t h x : Int32} {I I2 : px_I} {L L2 : px_L} (h : pk_between g p t h I L x I2 L2) : I2 103 21 = I 103 21 := by
  unfold pk_between at h
  exact h.1 103 21 (by omega)

theorem eL_between_103 {g p t h x : Int32} {I I2 : px_I} {L L2 : px_L} (h : pk_between g p t h I L x I2 L2) : L2 103 = L 103 := by
  unfold pk_between at h
  rw [h.2 103 (by omega)]

theorem eb_lamps_69_0 {g p h lo hi x : Int32} {I I2 : px_I} {L L2 : px_L} (h : pb_lamps g p h lo hi I L x I2 L2) : I2 69 0 = I 69 0 := by
  unfold pb_lamps at h
  rw [h.1]

theorem eb_lamps_69_1 {g p h lo hi x : Int32} {I I2 : px_I} {L L2 : px_L} (h : pb_lamps g p h lo hi I L x I2 L2) : I2 69 1 = I 69 1 := by
  unfold pb_lamps at h
  rw [h.1]

theorem eb_lamps_69_2 {g p h lo hi x : Int32} {I I2 : px_I} {L L2 : px_L} (h : pb_lamps g p h lo hi I L x I2 L2) : I2 69 2 = I 69 2 := by
  unfold pb_lamps at h
  rw [h.1]

theorem ek_lamps_103_21 {g p h lo hi x : Int32} {I I2 : px_I} {L L2 : px_L} (h : pk_lamps g p h lo hi I L x I2 L2) : I2 103 21 = I 103 21 := by
  unfold pk_lamps at h
  rw [h.1]

theorem eL_lamps_103 {g p h lo hi x : Int32} {I I2 : px_I} {L L2 : px_L} (h : pk_lamps g p h lo hi I L x I2 L2) : L2 103 = L 103 := by
  unfold pk_lamps at h
  rw [h.2.1]

theorem eb_unit_69_0 {h x : Int32} {I I2 : px_I} {L L2 : px_L} (h : pb_unit h I L x I2 L2) : I2 69 0 = I 69 0 := by
  unfold pb_unit at h
  rw [h.1]

theorem eb_unit_69_1 {h x : Int32} {I I2 : px_I} {L L2 : px_L} (h : pb_unit h I L x I2 L2) : I2 69 1 = I 69 1 := by
  unfold pb_unit at h
  rw [h.1]

theorem eb_unit_69_2 {h x : Int32} {I I2 : px_I} {L L2 : px_L} (h : pb_unit h I L x I2 L2) : I2 69 2 = I 69 2 := by
  unfold pb_unit at h
  rw [h.1]

theorem ek_unit_103_21 {h x : Int32} {I I2 : px_I} {L L2 : px_L} (h : pk_unit h I L x I2 L2) : I2 103 21 = I 103 21 := by
  unfold pk_unit at h
  rw [h.1]

theorem eL_unit_103 {h x : Int32} {I I2 : px_I} {L L2 : px_L} (h : pk_unit h I L x I2 L2) : L2 103 = L 103 := by
  unfold pk_unit at h
  rw [h.2.1]

theorem eb_feed_69_0 {a b c d e x : Int32} {I I2 : px_I} {L L2 : px_L} (h : pb_feed a b c d e I L x I2 L2) : I2 69 0 = I 69 0 := by
  unfold pb_feed at h
  obtain ⟨rfl, h⟩ := h
  rcases h with ⟨a1, rfl, rfl⟩ | ⟨a1, rfl, rfl⟩
  · rw [cApp_at _ _ 69 0 (by omega) (by omega), cApp_at _ _ 69 0 (by omega) (by omega), cApp_at _ _ 69 0 (by omega) (by omega), cApp_at _ _ 69 0 (by omega) (by omega), cApp_at _ _ 69 0 (by omega) (by omega)]
  · rfl

theorem eb_feed_69_1 {a b c d e x : Int32} {I I2 : px_I} {L L2 : px_L} (h : pb_feed a b c d e I L x I2 L2) : I2 69 1 = I 69 1 := by
  unfold pb_feed at h
  obtain ⟨rfl, h⟩ := h
  rcases h with ⟨a1, rfl, rfl⟩ | ⟨a1, rfl, rfl⟩
  · rw [cApp_at _ _ 69 1 (by omega) (by omega), cApp_at _ _ 69 1 (by omega) (by omega), cApp_at _ _ 69 1 (by omega) (by omega), cApp_at _ _ 69 1 (by omega) (by omega), cApp_at _ _ 69 1 (by omega) (by omega)]
  · rfl

theorem eb_feed_69_2 {a b c d e x : Int32} {I I2 : px_I} {L L2 : px_L} (h : pb_feed a b c d e I L x I2 L2) : I2 69 2 = I 69 2 := by
  unfold pb_feed at h
  obtain ⟨rfl, h⟩ := h
  rcases h with ⟨a1, rfl, rfl⟩ | ⟨a1, rfl, rfl⟩
  · rw [cApp_at _ _ 69 2 (by omega) (by omega), cApp_at _ _ 69 2 (by omega) (by omega), cApp_at _ _ 69 2 (by omega) (by omega), cApp_at _ _ 69 2 (by omega) (by omega), cApp_at _ _ 69 2 (by omega) (by omega)]
  · rfl

theorem ek_feed_103_21 {a b c d e x : Int32} {I I2 : px_I} {L L2 : px_L} (h : pk_feed a b c d e I L x I2 L2) : I2 103 21 = I 103 21 := by
  unfold pk_feed at h
  obtain ⟨rfl, h⟩ := h
  rcases h with ⟨a1, rfl, rfl⟩ | ⟨a1, rfl, rfl⟩
  · rw [mPut_o (by omega) (by omega), mPut_o (by omega) (by omega), mPut_o (by omega) (by omega), mPut_o (by omega) (by omega), mPut_o (by omega) (by omega)]
  · rfl

theorem eL_feed_103 {a b c d e x : Int32} {I I2 : px_I} {L L2 : px_L} (h : pk_feed a b c d e I L x I2 L2) : L2 103 = L 103 := by
  unfold pk_feed at h
  rw [h.1]

theorem eb_end_69_0 {x9 x : Int32} {I I2 : px_I} {L L2 : px_L} (h : pb_end x9 I L x I2 L2) : I2 69 0 = I 69 0 := by
  unfold pb_end at h
  obtain ⟨rfl, h⟩ := h
  rcases h with ⟨a1, rfl, rfl⟩ | ⟨a1, rfl, rfl⟩
  · (repeat rw [px_u_out (by omega)])
  · rfl

theorem eb_end_69_1 {x9 x : Int32} {I I2 : px_I} {L L2 : px_L} (h : pb_end x9 I L x I2 L2) : I2 69 1 = I 69 1 := by
  unfold pb_end at h
  obtain ⟨rfl, h⟩ := h
  rcases h with ⟨a1, rfl, rfl⟩ | ⟨a1, rfl, rfl⟩
  · (repeat rw [px_u_out (by omega)])
  · rfl

theorem eb_end_69_2 {x9 x : Int32} {I I2 : px_I} {L L2 : px_L} (h : pb_end x9 I L x I2 L2) : I2 69 2 = I 69 2 := by
  unfold pb_end at h
  obtain ⟨rfl, h⟩ := h
  rcases h with ⟨a1, rfl, rfl⟩ | ⟨a1, rfl, rfl⟩
  · (repeat rw [px_u_out (by omega)])
  · rfl

theorem ek_end_103_21 {x9 x : Int32} {I I2 : px_I} {L L2 : px_L} (h : pk_end x9 I L x I2 L2) : I2 103 21 = I 103 21 := by
  unfold pk_end at h
  obtain ⟨rfl, h⟩ := h
  rcases h with ⟨a1, a2, rfl, rfl⟩ | ⟨a1, rfl, rfl⟩
  · (repeat rw [px_u_out (by omega)])
  · rfl

theorem eL_end_103 {x9 x : Int32} {I I2 : px_I} {L L2 : px_L} (h : pk_end x9 I L x I2 L2) : L2 103 = L 103 := by
  unfold pk_end at h
  rw [h.1]

theorem eb_way_69_0 {i x : Int32} {I I2 : px_I} {L L2 : px_L} (h : pb_way i I L x I2 L2) : I2 69 0 = I 69 0 := by
  unfold pb_way at h
  exact h.1 69 0 (by omega) (by omega) (by omega) (by omega) (by omega)

theorem eb_way_69_1 {i x : Int32} {I I2 : px_I} {L L2 : px_L} (h : pb_way i I L x I2 L2) : I2 69 1 = I 69 1 := by
  unfold pb_way at h
  exact h.1 69 1 (by omega) (by omega) (by omega) (by omega) (by omega)

theorem eb_way_69_2 {i x : Int32} {I I2 : px_I} {L L2 : px_L} (h : pb_way i I L x I2 L2) : I2 69 2 = I 69 2 := by
  unfold pb_way at h
  exact h.1 69 2 (by omega) (by omega) (by omega) (by omega) (by omega)

theorem ek_way_103_21 {w x : Int32} {I I2 : px_I} {L L2 : px_L} (h : pk_way w I L x I2 L2) : I2 103 21 = I 103 21 := by
  unfold pk_way at h
  obtain ⟨rfl, h⟩ := h
  rcases h with ⟨a1, a2, rfl⟩ | ⟨a1, a2, a3⟩
  · rfl
  · exact a2 103 21 (by omega) (by omega)

theorem eL_way_103 {w x : Int32} {I I2 : px_I} {L L2 : px_L} (h : pk_way w I L x I2 L2) : L2 103 = L 103 := by
  unfold pk_way at h
  rw [h.1]

theorem eb_fault_69_0 {x9 x : Int32} {I I2 : px_I} {L L2 : px_L} (h : pb_fault x9 I L x I2 L2) : I2 69 0 = I 69 0 := by
  unfold pb_fault at h
  rw [h.1]

theorem eb_fault_69_1 {x9 x : Int32} {I I2 : px_I} {L L2 : px_L} (h : pb_fault x9 I L x I2 L2) : I2 69 1 = I 69 1 := by
  unfold pb_fault at h
  rw [h.1]

theorem eb_fault_69_2 {x9 x : Int32} {I I2 : px_I} {L L2 : px_L} (h : pb_fault x9 I L x I2 L2) : I2 69 2 = I 69 2 := by
  unfold pb_fault at h
  rw [h.1]

theorem ek_fault_103_21 {x9 x : Int32} {I I2 : px_I} {L L2 : px_L} (h : pk_fault x9 I L x I2 L2) : I2 103 21 = I 103 21 := by
  unfold pk_fault at h
  rw [h.1]

theorem eL_fault_103 {x9 x : Int32} {I I2 : px_I} {L L2 : px_L} (h : pk_fault x9 I L x I2 L2) : L2 103 = L 103 := by
  unfold pk_fault at h
  rw [h.2.1]

theorem eb_tools_69_0 {a b c d e x : Int32} {I I2 : px_I} {L L2 : px_L} (h : pb_tools a b c d e I L x I2 L2) : I2 69 0 = I 69 0 := by
  unfold pb_tools at h
  obtain ⟨rfl, h⟩ := h
  rcases h with ⟨a1, rfl, a2⟩ | ⟨a1, rfl, rfl⟩
  · rw [a2 69 (by decide)]; (repeat rw [px_u_out (by omega)])
  · rfl

theorem eb_tools_69_1 {a b c d e x : Int32} {I I2 : px_I} {L L2 : px_L} (h : pb_tools a b c d e I L x I2 L2) : I2 69 1 = I 69 1 := by
  unfold pb_tools at h
  obtain ⟨rfl, h⟩ := h
  rcases h with ⟨a1, rfl, a2⟩ | ⟨a1, rfl, rfl⟩
  · rw [a2 69 (by decide)]; (repeat rw [px_u_out (by omega)])
  · rfl

theorem eb_tools_69_2 {a b c d e x : Int32} {I I2 : px_I} {L L2 : px_L} (h : pb_tools a b c d e I L x I2 L2) : I2 69 2 = I 69 2 := by
  unfold pb_tools at h
  obtain ⟨rfl, h⟩ := h
  rcases h with ⟨a1, rfl, a2⟩ | ⟨a1, rfl, rfl⟩
  · rw [a2 69 (by decide)]; (repeat rw [px_u_out (by omega)])
  · rfl

theorem ek_tools_103_21 {a b c d e x : Int32} {I I2 : px_I} {L L2 : px_L} (h : pk_tools a b c d e I L x I2 L2) : I2 103 21 = I 103 21 := by
  unfold pk_tools at h
  obtain ⟨rfl, h⟩ := h
  rcases h with ⟨a1, rfl, rfl⟩ | ⟨a1, rfl, rfl⟩
  · (repeat rw [px_u_out (by omega)])
  · rfl

theorem eL_tools_103 {a b c d e x : Int32} {I I2 : px_I} {L L2 : px_L} (h : pk_tools a b c d e I L x I2 L2) : L2 103 = L 103 := by
  unfold pk_tools at h
  rw [h.1]

theorem eb_run_69_0 {w h a x : Int32} {I I2 : px_I} {L L2 : px_L} (h : pb_run w h a I L x I2 L2) : I2 69 0 = I 69 0 := by
  unfold pb_run at h
  exact h.1 69 0 (by omega) (by omega) (by omega) (by omega) (by omega) (by omega) (by omega)

theorem eb_run_69_1 {w h a x : Int32} {I I2 : px_I} {L L2 : px_L} (h : pb_run w h a I L x I2 L2) : I2 69 1 = I 69 1 := by
  unfold pb_run at h
  exact h.1 69 1 (by omega) (by omega) (by omega) (by omega) (by omega) (by omega) (by omega)

theorem eb_run_69_2 {w h a x : Int32} {I I2 : px_I} {L L2 : px_L} (h : pb_run w h a I L x I2 L2) : I2 69 2 = I 69 2 := by
  unfold pb_run at h
  exact h.1 69 2 (by omega) (by omega) (by omega) (by omega) (by omega) (by omega) (by omega)

theorem ek_run_103_21 {w h a x : Int32} {I I2 : px_I} {L L2 : px_L} (h : pk_run w h a I L x I2 L2) : I2 103 21 = I 103 21 := by
  unfold pk_run at h
  exact h.1 103 21 (by omega) (by omega) (by omega)

theorem eL_run_103 {w h a x : Int32} {I I2 : px_I} {L L2 : px_L} (h : pk_run w h a I L x I2 L2) : L2 103 = L 103 := by
  unfold pk_run at h
  rw [h.2 103 (by omega) (by omega) (by omega) (by omega) (by omega)]

theorem eb_meeting_69_0 {a f b t x9 h x : Int32} {I I2 : px_I} {L L2 : px_L} (h : pb_meeting a f b t x9 h I L x I2 L2) : I2 69 0 = I 69 0 := by
  unfold pb_meeting at h
  exact h.1 69 0 (by omega) (by omega) (by omega) (by omega) (by omega) (by omega) (by omega)

theorem eb_meeting_69_1 {a f b t x9 h x : Int32} {I I2 : px_I} {L L2 : px_L} (h : pb_meeting a f b t x9 h I L x I2 L2) : I2 69 1 = I 69 1 := by
  unfold pb_meeting at h
  exact h.1 69 1 (by omega) (by omega) (by omega) (by omega) (by omega) (by omega) (by omega)

theorem eb_meeting_69_2 {a f b t x9 h x : Int32} {I I2 : px_I} {L L2 : px_L} (h : pb_meeting a f b t x9 h I L x I2 L2) : I2 69 2 = I 69 2 := by
  unfold pb_meeting at h
  exact h.1 69 2 (by omega) (by omega) (by omega) (by omega) (by omega) (by omega) (by omega)

theorem ek_meeting_103_21 {a f b t x9 h x : Int32} {I I2 : px_I} {L L2 : px_L} (h : pk_meeting a f b t x9 h I L x I2 L2) : I2 103 21 = I 103 21 := by
  unfold pk_meeting at h
  exact h.1 103 21 (by omega) (by omega) (by omega)

theorem eL_meeting_103 {a f b t x9 h x : Int32} {I I2 : px_I} {L L2 : px_L} (h : pk_meeting a f b t x9 h I L x I2 L2) : L2 103 = L 103 := by
  unfold pk_meeting at h
  rw [h.2 103 (by omega) (by omega) (by omega) (by omega) (by omega)]

theorem eb_there_69_0 {a lo hi x : Int32} {I I2 : px_I} {L L2 : px_L} (h : pb_there a lo hi I L x I2 L2) : I2 69 0 = I 69 0 := by
  unfold pb_there at h
  obtain ⟨rfl, h⟩ := h
  rcases h with ⟨a1, rfl, rfl⟩ | ⟨a1, rfl, rfl⟩
  · (repeat rw [px_u_out (by omega)])
  · rfl

theorem eb_there_69_1 {a lo hi x : Int32} {I I2 : px_I} {L L2 : px_L} (h : pb_there a lo hi I L x I2 L2) : I2 69 1 = I 69 1 := by
  unfold pb_there at h
  obtain ⟨rfl, h⟩ := h
  rcases h with ⟨a1, rfl, rfl⟩ | ⟨a1, rfl, rfl⟩
  · (repeat rw [px_u_out (by omega)])
  · rfl

theorem eb_there_69_2 {a lo hi x : Int32} {I I2 : px_I} {L L2 : px_L} (h : pb_there a lo hi I L x I2 L2) : I2 69 2 = I 69 2 := by
  unfold pb_there at h
  obtain ⟨rfl, h⟩ := h
  rcases h with ⟨a1, rfl, rfl⟩ | ⟨a1, rfl, rfl⟩
  · (repeat rw [px_u_out (by omega)])
  · rfl

theorem ek_there_103_21 {a lo hi x : Int32} {I I2 : px_I} {L L2 : px_L} (h : pk_there a lo hi I L x I2 L2) : I2 103 21 = I 103 21 := by
  unfold pk_there at h
  obtain ⟨rfl, h⟩ := h
  rcases h with ⟨a1, rfl, rfl⟩ | ⟨a1, rfl, rfl⟩
  · (repeat rw [px_u_out (by omega)])
  · rfl

theorem eL_there_103 {a lo hi x : Int32} {I I2 : px_I} {L L2 : px_L} (h : pk_there a lo hi I L x I2 L2) : L2 103 = L 103 := by
  unfold pk_there at h
  rw [h.1]

theorem eb_fits_69_0 {a f b t x : Int32} {I I2 : px_I} {L L2 : px_L} (h : pb_fits a f b t I L x I2 L2) : I2 69 0 = I 69 0 := by
  unfold pb_fits at h
  exact h.1 69 0 (by omega) (by omega) (by omega) (by omega) (by omega) (by omega) (by omega)

theorem eb_fits_69_1 {a f b t x : Int32} {I I2 : px_I} {L L2 : px_L} (h : pb_fits a f b t I L x I2 L2) : I2 69 1 = I 69 1 := by
  unfold pb_fits at h
  exact h.1 69 1 (by omega) (by omega) (by omega) (by omega) (by omega) (by omega) (by omega)

theorem eb_fits_69_2 {a f b t x : Int32} {I I2 : px_I} {L L2 : px_L} (h : pb_fits a f b t I L x I2 L2) : I2 69 2 = I 69 2 := by
  unfold pb_fits at h
  exact h.1 69 2 (by omega) (by omega) (by omega) (by omega) (by omega) (by omega) (by omega)

theorem ek_fits_103_21 {a f b t x : Int32} {I I2 : px_I} {L L2 : px_L} (h : pk_fits a f b t I L x I2 L2) : I2 103 21 = I 103 21 := by
  unfold pk_fits at h
  exact h.1 103 21 (by omega) (by omega) (by omega)

theorem eL_fits_103 {a f b t x : Int32} {I I2 : px_I} {L L2 : px_L} (h : pk_fits a f b t I L x I2 L2) : L2 103 = L 103 := by
  unfold pk_fits at h
  rw [h.2 103 (by omega) (by omega) (by omega) (by omega) (by omega)]

theorem eb_ways_69_0 {a f b t x9 x : Int32} {I I2 : px_I} {L L2 : px_L} (h : pb_ways a f b t x9 I L x I2 L2) : I2 69 0 = I 69 0 := by
  unfold pb_ways at h
  exact h.1 69 0 (by omega) (by omega) (by omega) (by omega) (by omega) (by omega) (by omega)

theorem eb_ways_69_1 {a f b t x9 x : Int32} {I I2 : px_I} {L L2 : px_L} (h : pb_ways a f b t x9 I L x I2 L2) : I2 69 1 = I 69 1 := by
  unfold pb_ways at h
  exact h.1 69 1 (by omega) (by omega) (by omega) (by omega) (by omega) (by omega) (by omega)

theorem eb_ways_69_2 {a f b t x9 x : Int32} {I I2 : px_I} {L L2 : px_L} (h : pb_ways a f b t x9 I L x I2 L2) : I2 69 2 = I 69 2 := by
  unfold pb_ways at h
  exact h.1 69 2 (by omega) (by omega) (by omega) (by omega) (by omega) (by omega) (by omega)

theorem ek_ways_103_21 {a f b t x9 x : Int32} {I I2 : px_I} {L L2 : px_L} (h : pk_ways a f b t x9 I L x I2 L2) : I2 103 21 = I 103 21 := by
  unfold pk_ways at h
  exact h.1 103 21 (by omega) (by omega) (by omega)

theorem eL_ways_103 {a f b t x9 x : Int32} {I I2 : px_I} {L L2 : px_L} (h : pk_ways a f b t x9 I L x I2 L2) : L2 103 = L 103 := by
  unfold pk_ways at h
  rw [h.2 103 (by omega) (by omega) (by omega) (by omega) (by omega)]

theorem eb_seek_69_0 {a b c d e f x : Int32} {I I2 : px_I} {L L2 : px_L} (h : pb_seek a b c d e f I L x I2 L2) : I2 69 0 = I 69 0 := by
  unfold pb_seek at h
  obtain ⟨rfl, h⟩ := h
  rcases h with ⟨a1, rfl, rfl⟩ | ⟨a1, rfl, rfl⟩
  · (repeat rw [px_u_out (by omega)])
  · rfl

theorem eb_seek_69_1 {a b c d e f x : Int32} {I I2 : px_I} {L L2 : px_L} (h : pb_seek a b c d e f I L x I2 L2) : I2 69 1 = I 69 1 := by
  unfold pb_seek at h
  obtain ⟨rfl, h⟩ := h
  rcases h with ⟨a1, rfl, rfl⟩ | ⟨a1, rfl, rfl⟩
  · (repeat rw [px_u_out (by omega)])
  · rfl

theorem eb_seek_69_2 {a b c d e f x : Int32} {I I2 : px_I} {L L2 : px_L} (h : pb_seek a b c d e f I L x I2 L2) : I2 69 2 = I 69 2 := by
  unfold pb_seek at h
  obtain ⟨rfl, h⟩ := h
  rcases h with ⟨a1, rfl, rfl⟩ | ⟨a1, rfl, rfl⟩
  · (repeat rw [px_u_out (by omega)])
  · rfl

theorem ek_seek_103_21 {a b c d e f x : Int32} {I I2 : px_I} {L L2 : px_L} (h : pk_seek a b c d e f I L x I2 L2) : I2 103 21 = I 103 21 := by
  unfold pk_seek at h
  obtain ⟨rfl, h⟩ := h
  rcases h with ⟨a1, rfl, rfl⟩ | ⟨a1, rfl, rfl⟩
  · (repeat rw [px_u_out (by omega)])
  · rfl

theorem eL_seek_103 {a b c d e f x : Int32} {I I2 : px_I} {L L2 : px_L} (h : pk_seek a b c d e f I L x I2 L2) : L2 103 = L 103 := by
  unfold pk_seek at h
  rw [h.1]

theorem eb_detour_69_0 {a o h x : Int32} {I I2 : px_I} {L L2 : px_L} (h : pb_detour a o h I L x I2 L2) : I2 69 0 = I 69 0 := by
  unfold pb_detour at h
  rw [h.1]

theorem eb_detour_69_1 {a o h x : Int32} {I I2 : px_I} {L L2 : px_L} (h : pb_detour a o h I L x I2 L2) : I2 69 1 = I 69 1 := by
  unfold pb_detour at h
  rw [h.1]

theorem eb_detour_69_2 {a o h x : Int32} {I I2 : px_I} {L L2 : px_L} (h : pb_detour a o h I L x I2 L2) : I2 69 2 = I 69 2 := by
  unfold pb_detour at h
  rw [h.1]

theorem ek_detour_103_21 {a o lo x : Int32} {I I2 : px_I} {L L2 : px_L} (h : pk_detour a o lo I L x I2 L2) : I2 103 21 = I 103 21 := by
  unfold pk_detour at h
  rw [h.1]

theorem eL_detour_103 {a o lo x : Int32} {I I2 : px_I} {L L2 : px_L} (h : pk_detour a o lo I L x I2 L2) : L2 103 = L 103 := by
  unfold pk_detour at h
  rw [h.2 103 (by omega) (by omega)]

theorem eb_table_69_0 {c v x : Int32} {I I2 : px_I} {L L2 : px_L} (h : pb_table c v I L x I2 L2) : I2 69 0 = I 69 0 := by
  unfold pb_table at h
  obtain ⟨rfl, h⟩ := h
  rcases h with ⟨a1, rfl, rfl⟩ | ⟨a1, rfl, rfl⟩
  · (repeat rw [px_u_out (by omega)])
  · rfl

theorem eb_table_69_1 {c v x : Int32} {I I2 : px_I} {L L2 : px_L} (h : pb_table c v I L x I2 L2) : I2 69 1 = I 69 1 := by
  unfold pb_table at h
  obtain ⟨rfl, h⟩ := h
  rcases h with ⟨a1, rfl, rfl⟩ | ⟨a1, rfl, rfl⟩
  · (repeat rw [px_u_out (by omega)])
  · rfl

theorem eb_table_69_2 {c v x : Int32} {I I2 : px_I} {L L2 : px_L} (h : pb_table c v I L x I2 L2) : I2 69 2 = I 69 2 := by
  unfold pb_table at h
  obtain ⟨rfl, h⟩ := h
  rcases h with ⟨a1, rfl, rfl⟩ | ⟨a1, rfl, rfl⟩
  · (repeat rw [px_u_out (by omega)])
  · rfl

theorem ek_table_103_21 {c v x : Int32} {I I2 : px_I} {L L2 : px_L} (h : pk_table c v I L x I2 L2) : I2 103 21 = I 103 21 := by
  unfold pk_table at h
  obtain ⟨rfl, h⟩ := h
  rcases h with ⟨a1, rfl, rfl⟩ | ⟨a1, rfl, rfl⟩
  · (repeat rw [px_u_out (by omega)])
  · rfl

theorem eL_table_103 {c v x : Int32} {I I2 : px_I} {L L2 : px_L} (h : pk_table c v I L x I2 L2) : L2 103 = L 103 := by
  unfold pk_table at h
  rw [h.1]

theorem eb_repair_69_0 {g p y x : Int32} {I I2 : px_I} {L L2 : px_L} (h : pb_repair g p y I L x I2 L2) : I2 69 0 = I 69 0 := by
  unfold pb_repair at h
  obtain ⟨rfl, h⟩ := h
  rcases h with ⟨G, g1, rfl, rfl⟩ | ⟨a1, rfl, rfl⟩
  · have g2 := g1.1
    have gG : G = 41 ∨ G = 55 := by unfold bG at g2; omega
    unfold cRep; (repeat rw [px_u_out (by omega)])
  · rfl

theorem eb_repair_69_1 {g p y x : Int32} {I I2 : px_I} {L L2 : px_L} (h : pb_repair g p y I L x I2 L2) : I2 69 1 = I 69 1 := by
  unfold pb_repair at h
  obtain ⟨rfl, h⟩ := h
  rcases h with ⟨G, g1, rfl, rfl⟩ | ⟨a1, rfl, rfl⟩
  · have g2 := g1.1
    have gG : G = 41 ∨ G = 55 := by unfold bG at g2; omega
    unfold cRep; (repeat rw [px_u_out (by omega)])
  · rfl

theorem eb_repair_69_2 {g p y x : Int32} {I I2 : px_I} {L L2 : px_L} (h : pb_repair g p y I L x I2 L2) : I2 69 2 = I 69 2 := by
  unfold pb_repair at h
  obtain ⟨rfl, h⟩ := h
  rcases h with ⟨G, g1, rfl, rfl⟩ | ⟨a1, rfl, rfl⟩
  · have g2 := g1.1
    have gG : G = 41 ∨ G = 55 := by unfold bG at g2; omega
    unfold cRep; (repeat rw [px_u_out (by omega)])
  · rfl

theorem ek_repair_103_21 {g p y x : Int32} {I I2 : px_I} {L L2 : px_L} (h : pk_repair g p y I L x I2 L2) : I2 103 21 = I 103 21 := by
  unfold pk_repair at h
  obtain ⟨rfl, h⟩ := h
  rcases h with ⟨a1, rfl, rfl⟩ | ⟨a1, rfl, rfl⟩
  · (repeat rw [px_u_out (by omega)])
  · rfl

theorem eL_repair_103 {g p y x : Int32} {I I2 : px_I} {L L2 : px_L} (h : pk_repair g p y I L x I2 L2) : L2 103 = L 103 := by
  unfold pk_repair at h
  rw [h.1]

theorem eb_lime_69_0 {v x : Int32} {I I2 : px_I} {L L2 : px_L} (h : pb_lime v I L x I2 L2) : I2 69 0 = I 69 0 := by
  unfold pb_lime at h
  obtain ⟨rfl, h⟩ := h
  rcases h with ⟨a1, rfl, rfl⟩ | ⟨a1, rfl, rfl⟩
  · (repeat rw [px_u_out (by omega)])
  · rfl

theorem eb_lime_69_1 {v x : Int32} {I I2 : px_I} {L L2 : px_L} (h : pb_lime v I L x I2 L2) : I2 69 1 = I 69 1 := by
  unfold pb_lime at h
  obtain ⟨rfl, h⟩ := h
  rcases h with ⟨a1, rfl, rfl⟩ | ⟨a1, rfl, rfl⟩
  · (repeat rw [px_u_out (by omega)])
  · rfl

theorem eb_lime_69_2 {v x : Int32} {I I2 : px_I} {L L2 : px_L} (h : pb_lime v I L x I2 L2) : I2 69 2 = I 69 2 := by
  unfold pb_lime at h
  obtain ⟨rfl, h⟩ := h
  rcases h with ⟨a1, rfl, rfl⟩ | ⟨a1, rfl, rfl⟩
  · (repeat rw [px_u_out (by omega)])
  · rfl

theorem ek_lime_103_21 {v x : Int32} {I I2 : px_I} {L L2 : px_L} (h : pk_lime v I L x I2 L2) : I2 103 21 = I 103 21 := by
  unfold pk_lime at h
  obtain ⟨rfl, h⟩ := h
  rcases h with ⟨a1, a2, rfl, rfl⟩ | ⟨a1, rfl, rfl⟩
  · (repeat rw [px_u_out (by omega)])
  · rfl

theorem eL_lime_103 {v x : Int32} {I I2 : px_I} {L L2 : px_L} (h : pk_lime v I L x I2 L2) : L2 103 = L 103 := by
  unfold pk_lime at h
  rw [h.1]

theorem eb_flow_69_0 {g y k h x : Int32} {I I2 : px_I} {L L2 : px_L} (h : pb_flow g y k h I L x I2 L2) : I2 69 0 = I 69 0 := by
  unfold pb_flow at h
  exact h.1 69 0 (by omega)

theorem eb_flow_69_1 {g y k h x : Int32} {I I2 : px_I} {L L2 : px_L} (h : pb_flow g y k h I L x I2 L2) : I2 69 1 = I 69 1 := by
  unfold pb_flow at h
  exact h.1 69 1 (by omega)

theorem eb_flow_69_2 {g y k h x : Int32} {I I2 : px_I} {L L2 : px_L} (h : pb_flow g y k h I L x I2 L2) : I2 69 2 = I 69 2 := by
  unfold pb_flow at h
  exact h.1 69 2 (by omega)

theorem ek_flow_103_21 {g y k h x : Int32} {I I2 : px_I} {L L2 : px_L} (h : pk_flow g y k h I L x I2 L2) : I2 103 21 = I 103 21 := by
  unfold pk_flow at h
  exact h.1 103 21 (by omega)

theorem eL_flow_103 {g y k h x : Int32} {I I2 : px_I} {L L2 : px_L} (h : pk_flow g y k h I L x I2 L2) : L2 103 = L 103 := by
  unfold pk_flow at h
  rw [h.2 103 (by omega)]

theorem eb_narrow_69_0 {g y k x : Int32} {I I2 : px_I} {L L2 : px_L} (h : pb_narrow g y k I L x I2 L2) : I2 69 0 = I 69 0 := by
  unfold pb_narrow at h
  exact h.1 69 0 (by omega)

theorem eb_narrow_69_1 {g y k x : Int32} {I I2 : px_I} {L L2 : px_L} (h : pb_narrow g y k I L x I2 L2) : I2 69 1 = I 69 1 := by
  unfold pb_narrow at h
  exact h.1 69 1 (by omega)

theorem eb_narrow_69_2 {g y k x : Int32} {I I2 : px_I} {L L2 : px_L} (h : pb_narrow g y k I L x I2 L2) : I2 69 2 = I 69 2 := by
  unfold pb_narrow at h
  exact h.1 69 2 (by omega)

theorem ek_narrow_103_21 {g y k x : Int32} {I I2 : px_I} {L L2 : px_L} (h : pk_narrow g y k I L x I2 L2) : I2 103 21 = I 103 21 := by
  unfold pk_narrow at h
  exact h.1 103 21 (by omega)

theorem eL_narrow_103 {g y k x : Int32} {I I2 : px_I} {L L2 : px_L} (h : pk_narrow g y k I L x I2 L2) : L2 103 = L 103 := by
  unfold pk_narrow at h
  rw [h.2 103 (by omega)]

theorem eb_about_69_0 {w x : Int32} {I I2 : px_I} {L L2 : px_L} (h : pb_about w I L x I2 L2) : I2 69 0 = I 69 0 := by
  unfold pb_about at h
  rw [h.1]

theorem eb_about_69_1 {w x : Int32} {I I2 : px_I} {L L2 : px_L} (h : pb_about w I L x I2 L2) : I2 69 1 = I 69 1 := by
  unfold pb_about at h
  rw [h.1]

theorem eb_about_69_2 {w x : Int32} {I I2 : px_I} {L L2 : px_L} (h : pb_about w I L x I2 L2) : I2 69 2 = I 69 2 := by
  unfold pb_about at h
  rw [h.1]

theorem ek_about_103_21 {w x : Int32} {I I2 : px_I} {L L2 : px_L} (h : pk_about w I L x I2 L2) : I2 103 21 = I 103 21 := by
  unfold pk_about at h
  rw [h.1]

theorem eL_about_103 {w x : Int32} {I I2 : px_I} {L L2 : px_L} (h : pk_about w I L x I2 L2) : L2 103 = L 103 := by
  unfold pk_about at h
  rw [h.2.1]

def rel (I : px_I) (L : px_L) : Prop := I 69 0 = I 103 21 ∧ (0 ≤ I 69 0 ∧ I 69 0 ≤ 30) ∧ (0 ≤ I 69 1 ∧ I 69 1 ≤ 2000009998) ∧ (0 ≤ I 69 2 ∧ I 69 2 ≤ 2000000000) ∧ ((I 69 0 = 0 ∧ I 69 1 = 0 ∧ I 69 2 = 2000000000) ∨ (I 69 0 ≠ 0 ∧ (L 103 22).toInt = (I 69 1).toInt ∧ (L 103 23).toInt = (I 69 2).toInt))

theorem rel.days {v0 : Int32} {x y : Int32} {n : Nat} {I I2 I3 : px_I} {L L2 L3 : px_L} {R : px_R} (hj : jJ n I R) (hr : rel I L) (f1 : frB I I2 L L2) (p1 : pb_days v0 I L x I2 L2) (f2 : frK I2 I3 L2 L3) (p2 : pk_days v0 I2 L2 y I3 L3) : rel I3 L3 := by
  have f_69_0 : I3 69 0 = I 69 0 := by rw [f2.1 69 (by omega), eb_days_69_0 p1]
  have f_69_1 : I3 69 1 = I 69 1 := by rw [f2.1 69 (by omega), eb_days_69_1 p1]
  have f_69_2 : I3 69 2 = I 69 2 := by rw [f2.1 69 (by omega), eb_days_69_2 p1]
  have f_103_21 : I3 103 21 = I 103 21 := by rw [ek_days_103_21 p2, f1.1 103 (by omega) (by omega)]
  have f_L : L3 103 = L 103 := (eL_days_103 p2).trans (f1.2 103 (by omega) (by omega))
  exact (by unfold rel; rw [f_69_0, f_69_1, f_69_2, f_103_21, f_L]; exact hr)

theorem rel.station {x y : Int32} {n : Nat} {I I2 I3 : px_I} {L L2 L3 : px_L} {R : px_R} (hj : jJ n I R) (hr : rel I L) (f1 : frB I I2 L L2) (p1 : pb_station  I L x I2 L2) (f2 : frK I2 I3 L2 L3) (p2 : pk_station  I2 L2 y I3 L3) : rel I3 L3 := by
  have f_69_0 : I3 69 0 = I 69 0 := by rw [f2.1 69 (by omega), eb_station_69_0 p1]
  have f_69_1 : I3 69 1 = I 69 1 := by rw [f2.1 69 (by omega), eb_station_69_1 p1]
  have f_69_2 : I3 69 2 = I 69 2 := by rw [f2.1 69 (by omega), eb_station_69_2 p1]
  have f_103_21 : I3 103 21 = I 103 21 := by rw [ek_station_103_21 p2, f1.1 103 (by omega) (by omega)]
  have f_L : L3 103 = L 103 := (eL_station_103 p2).trans (f1.2 103 (by omega) (by omega))
  exact (by unfold rel; rw [f_69_0, f_69_1, f_69_2, f_103_21, f_L]; exact hr)

theorem rel.sight {v0 v1 v2 v3 v4 : Int32} {x y : Int32} {n : Nat} {I I2 I3 : px_I} {L L2 L3 : px_L} {R : px_R} (hj : jJ n I R) (hr : rel I L) (f1 : frB I I2 L L2) (p1 : pb_sight v0 v1 v2 v3 v4 I L x I2 L2) (f2 : frK I2 I3 L2 L3) (p2 : pk_sight v0 v1 v2 v3 v4 I2 L2 y I3 L3) : rel I3 L3 := by
  have f_69_0 : I3 69 0 = I 69 0 := by rw [f2.1 69 (by omega), eb_sight_69_0 p1]
  have f_69_1 : I3 69 1 = I 69 1 := by rw [f2.1 69 (by omega), eb_sight_69_1 p1]
  have f_69_2 : I3 69 2 = I 69 2 := by rw [f2.1 69 (by omega), eb_sight_69_2 p1]
  have f_103_21 : I3 103 21 = I 103 21 := by rw [ek_sight_103_21 p2, f1.1 103 (by omega) (by omega)]
  have f_L : L3 103 = L 103 := (eL_sight_103 p2).trans (f1.2 103 (by omega) (by omega))
  exact (by unfold rel; rw [f_69_0, f_69_1, f_69_2, f_103_21, f_L]; exact hr)

theorem rel.closed {v0 v1 : Int32} {x y : Int32} {n : Nat} {I I2 I3 : px_I} {L L2 L3 : px_L} {R : px_R} (hj : jJ n I R) (hr : rel I L) (f1 : frB I I2 L L2) (p1 : pb_closed v0 v1 I L x I2 L2) (f2 : frK I2 I3 L2 L3) (p2 : pk_closed v0 v1 I2 L2 y I3 L3) : rel I3 L3 := by
  have f_69_0 : I3 69 0 = I 69 0 := by rw [f2.1 69 (by omega), eb_closed_69_0 p1]
  have f_69_1 : I3 69 1 = I 69 1 := by rw [f2.1 69 (by omega), eb_closed_69_1 p1]
  have f_69_2 : I3 69 2 = I 69 2 := by rw [f2.1 69 (by omega), eb_closed_69_2 p1]
  have f_103_21 : I3 103 21 = I 103 21 := by rw [ek_closed_103_21 p2, f1.1 103 (by omega) (by omega)]
  have f_L : L3 103 = L 103 := (eL_closed_103 p2).trans (f1.2 103 (by omega) (by omega))
  exact (by unfold rel; rw [f_69_0, f_69_1, f_69_2, f_103_21, f_L]; exact hr)

theorem rel.span {v0 v1 v2 v3 : Int32} {x y : Int32} {n : Nat} {I I2 I3 : px_I} {L L2 L3 : px_L} {R : px_R} (hj : jJ n I R) (hr : rel I L) (f1 : frB I I2 L L2) (p1 : pb_span v0 v1 v2 v3 I L x I2 L2) (f2 : frK I2 I3 L2 L3) (p2 : pk_span v0 v1 v2 v3 I2 L2 y I3 L3) : rel I3 L3 := by
  have f_69_0 : I3 69 0 = I 69 0 := by rw [f2.1 69 (by omega), eb_span_69_0 p1]
  have f_69_1 : I3 69 1 = I 69 1 := by rw [f2.1 69 (by omega), eb_span_69_1 p1]
  have f_69_2 : I3 69 2 = I 69 2 := by rw [f2.1 69 (by omega), eb_span_69_2 p1]
  have f_103_21 : I3 103 21 = I 103 21 := by rw [ek_span_103_21 p2, f1.1 103 (by omega) (by omega)]
  have f_L : L3 103 = L 103 := (eL_span_103 p2).trans (f1.2 103 (by omega) (by omega))
  exact (by unfold rel; rw [f_69_0, f_69_1, f_69_2, f_103_21, f_L]; exact hr)

theorem rel.gap {v0 v1 v2 v3 v4 : Int32} {x y : Int32} {n : Nat} {I I2 I3 : px_I} {L L2 L3 : px_L} {R : px_R} (hj : jJ n I R) (hr : rel I L) (f1 : frB I I2 L L2) (p1 : pb_gap v0 v1 v2 v3 v4 I L x I2 L2) (f2 : frK I2 I3 L2 L3) (p2 : pk_gap v0 v1 v2 v3 v4 I2 L2 y I3 L3) : rel I3 L3 := by
  have f_69_0 : I3 69 0 = I 69 0 := by rw [f2.1 69 (by omega), eb_gap_69_0 p1]
  have f_69_1 : I3 69 1 = I 69 1 := by rw [f2.1 69 (by omega), eb_gap_69_1 p1]
  have f_69_2 : I3 69 2 = I 69 2 := by rw [f2.1 69 (by omega), eb_gap_69_2 p1]
  have f_103_21 : I3 103 21 = I 103 21 := by rw [ek_gap_103_21 p2, f1.1 103 (by omega) (by omega)]
  have f_L : L3 103 = L 103 := (eL_gap_103 p2).trans (f1.2 103 (by omega) (by omega))
  exact (by unfold rel; rw [f_69_0, f_69_1, f_69_2, f_103_21, f_L]; exact hr)

theorem rel.blamed {v0 v1 v2 : Int32} {x y : Int32} {n : Nat} {I I2 I3 : px_I} {L L2 L3 : px_L} {R : px_R} (hj : jJ n I R) (hr : rel I L) (f1 : frB I I2 L L2) (p1 : pb_blamed v0 v1 v2 I L x I2 L2) (f2 : frK I2 I3 L2 L3) (p2 : pk_blamed v0 v1 v2 I2 L2 y I3 L3) : rel I3 L3 := by
  have f_69_0 : I3 69 0 = I 69 0 := by rw [f2.1 69 (by omega), eb_blamed_69_0 p1]
  have f_69_1 : I3 69 1 = I 69 1 := by rw [f2.1 69 (by omega), eb_blamed_69_1 p1]
  have f_69_2 : I3 69 2 = I 69 2 := by rw [f2.1 69 (by omega), eb_blamed_69_2 p1]
  have f_103_21 : I3 103 21 = I 103 21 := by rw [ek_blamed_103_21 p2, f1.1 103 (by omega) (by omega)]
  have f_L : L3 103 = L 103 := (eL_blamed_103 p2).trans (f1.2 103 (by omega) (by omega))
  exact (by unfold rel; rw [f_69_0, f_69_1, f_69_2, f_103_21, f_L]; exact hr)

theorem rel.reach {v0 v1 v2 v3 v4 v5 v6 : Int32} {x y : Int32} {n : Nat} {I I2 I3 : px_I} {L L2 L3 : px_L} {R : px_R} (hj : jJ n I R) (hr : rel I L) (f1 : frB I I2 L L2) (p1 : pb_reach v0 v1 v2 v3 v4 v5 v6 I L x I2 L2) (f2 : frK I2 I3 L2 L3) (p2 : pk_reach v0 v1 v2 v3 v4 v5 v6 I2 L2 y I3 L3) : rel I3 L3 := by
  have f_69_0 : I3 69 0 = I 69 0 := by rw [f2.1 69 (by omega), eb_reach_69_0 p1]
  have f_69_1 : I3 69 1 = I 69 1 := by rw [f2.1 69 (by omega), eb_reach_69_1 p1]
  have f_69_2 : I3 69 2 = I 69 2 := by rw [f2.1 69 (by omega), eb_reach_69_2 p1]
  have f_103_21 : I3 103 21 = I 103 21 := by rw [ek_reach_103_21 p2, f1.1 103 (by omega) (by omega)]
  have f_L : L3 103 = L 103 := (eL_reach_103 p2).trans (f1.2 103 (by omega) (by omega))
  exact (by unfold rel; rw [f_69_0, f_69_1, f_69_2, f_103_21, f_L]; exact hr)

theorem rel.mouth {v0 v1 : Int32} {x y : Int32} {n : Nat} {I I2 I3 : px_I} {L L2 L3 : px_L} {R : px_R} (hj : jJ n I R) (hr : rel I L) (f1 : frB I I2 L L2) (p1 : pb_mouth v0 v1 I L x I2 L2) (f2 : frK I2 I3 L2 L3) (p2 : pk_mouth v0 v1 I2 L2 y I3 L3) : rel I3 L3 := by
  have f_69_0 : I3 69 0 = I 69 0 := by rw [f2.1 69 (by omega), eb_mouth_69_0 p1]
  have f_69_1 : I3 69 1 = I 69 1 := by rw [f2.1 69 (by omega), eb_mouth_69_1 p1]
  have f_69_2 : I3 69 2 = I 69 2 := by rw [f2.1 69 (by omega), eb_mouth_69_2 p1]
  have f_103_21 : I3 103 21 = I 103 21 := by rw [ek_mouth_103_21 p2, f1.1 103 (by omega) (by omega)]
  have f_L : L3 103 = L 103 := (eL_mouth_103 p2).trans (f1.2 103 (by omega) (by omega))
  exact (by unfold rel; rw [f_69_0, f_69_1, f_69_2, f_103_21, f_L]; exact hr)

theorem rel.mark {v0 v1 v2 v3 : Int32} {x y : Int32} {n : Nat} {I I2 I3 : px_I} {L L2 L3 : px_L} {R : px_R} (hj : jJ n I R) (hr : rel I L) (f1 : frB I I2 L L2) (p1 : pb_mark v0 v1 v2 v3 I L x I2 L2) (f2 : frK I2 I3 L2 L3) (p2 : pk_mark v0 v1 v2 v3 I2 L2 y I3 L3) : rel I3 L3 := by
  have f_69_0 : I3 69 0 = I 69 0 := by rw [f2.1 69 (by omega), eb_mark_69_0 p1]
  have f_69_1 : I3 69 1 = I 69 1 := by rw [f2.1 69 (by omega), eb_mark_69_1 p1]
  have f_69_2 : I3 69 2 = I 69 2 := by rw [f2.1 69 (by omega), eb_mark_69_2 p1]
  have f_103_21 : I3 103 21 = I 103 21 := by rw [ek_mark_103_21 p2, f1.1 103 (by omega) (by omega)]
  have f_L : L3 103 = L 103 := (eL_mark_103 p2).trans (f1.2 103 (by omega) (by omega))
  exact (by unfold rel; rw [f_69_0, f_69_1, f_69_2, f_103_21, f_L]; exact hr)

theorem rel.when {v0 v1 v2 : Int32} {x y : Int32} {n : Nat} {I I2 I3 : px_I} {L L2 L3 : px_L} {R : px_R} (hj : jJ n I R) (hr : rel I L) (f1 : frB I I2 L L2) (p1 : pb_when v0 v1 v2 I L x I2 L2) (f2 : frK I2 I3 L2 L3) (p2 : pk_when v0 v1 v2 I2 L2 y I3 L3) : rel I3 L3 := by
  have f_69_0 : I3 69 0 = I 69 0 := by rw [f2.1 69 (by omega), eb_when_69_0 p1]
  have f_69_1 : I3 69 1 = I 69 1 := by rw [f2.1 69 (by omega), eb_when_69_1 p1]
  have f_69_2 : I3 69 2 = I 69 2 := by rw [f2.1 69 (by omega), eb_when_69_2 p1]
  have f_103_21 : I3 103 21 = I 103 21 := by rw [ek_when_103_21 p2, f1.1 103 (by omega) (by omega)]
  have f_L : L3 103 = L 103 := (eL_when_103 p2).trans (f1.2 103 (by omega) (by omega))
  exact (by unfold rel; rw [f_69_0, f_69_1, f_69_2, f_103_21, f_L]; exact hr)

theorem rel.between {v0 v1 v2 v3 : Int32} {x y : Int32} {n : Nat} {I I2 I3 : px_I} {L L2 L3 : px_L} {R : px_R} (hj : jJ n I R) (hr : rel I L) (f1 : frB I I2 L L2) (p1 : pb_between v0 v1 v2 v3 I L x I2 L2) (f2 : frK I2 I3 L2 L3) (p2 : pk_between v0 v1 v2 v3 I2 L2 y I3 L3) : rel I3 L3 := by
  have f_69_0 : I3 69 0 = I 69 0 := by rw [f2.1 69 (by omega), eb_between_69_0 p1]
  have f_69_1 : I3 69 1 = I 69 1 := by rw [f2.1 69 (by omega), eb_between_69_1 p1]
  have f_69_2 : I3 69 2 = I 69 2 := by rw [f2.1 69 (by omega), eb_between_69_2 p1]
  have f_103_21 : I3 103 21 = I 103 21 := by rw [ek_between_103_21 p2, f1.1 103 (by omega) (by omega)]
  have f_L : L3 103 = L 103 := (eL_between_103 p2).trans (f1.2 103 (by omega) (by omega))
  exact (by unfold rel; rw [f_69_0, f_69_1, f_69_2, f_103_21, f_L]; exact hr)

theorem rel.lamps {v0 v1 v2 v3 v4 : Int32} {x y : Int32} {n : Nat} {I I2 I3 : px_I} {L L2 L3 : px_L} {R : px_R} (hj : jJ n I R) (hr : rel I L) (f1 : frB I I2 L L2) (p1 : pb_lamps v0 v1 v2 v3 v4 I L x I2 L2) (f2 : frK I2 I3 L2 L3) (p2 : pk_lamps v0 v1 v2 v3 v4 I2 L2 y I3 L3) : rel I3 L3 := by
  have f_69_0 : I3 69 0 = I 69 0 := by rw [f2.1 69 (by omega), eb_lamps_69_0 p1]
  have f_69_1 : I3 69 1 = I 69 1 := by rw [f2.1 69 (by omega), eb_lamps_69_1 p1]
  have f_69_2 : I3 69 2 = I 69 2 := by rw [f2.1 69 (by omega), eb_lamps_69_2 p1]
  have f_103_21 : I3 103 21 = I 103 21 := by rw [ek_lamps_103_21 p2, f1.1 103 (by omega) (by omega)]
  have f_L : L3 103 = L 103 := (eL_lamps_103 p2).trans (f1.2 103 (by omega) (by omega))
  exact (by unfold rel; rw [f_69_0, f_69_1, f_69_2, f_103_21, f_L]; exact hr)

theorem relq_count {v0 v1 v2 : Int32} {x y : Int32} {n : Nat} {I I2 I3 : px_I} {L L2 L3 : px_L} {R : px_R} (hj : jJ n I R) (hr : rel I L) (f1 : frB I I2 L L2) (p1 : pb_count v0 v1 v2 I L x I2 L2) (f2 : frK I2 I3 L2 L3) (p2 : pk_count v0 v1 v2 I2 L2 y I3 L3) : x = y ∧ (I3 69 0 = I3 103 21 ∧ (0 ≤ I3 69 0 ∧ I3 69 0 ≤ 30) ∧ (0 ≤ I3 69 1 ∧ I3 69 1 ≤ 2000009998) ∧ (0 ≤ I3 69 2 ∧ I3 69 2 ≤ 2000000000) ∧ ((I3 69 0 = 0 ∧ I3 69 1 = 0 ∧ I3 69 2 = 2000000000) ∨ (I3 69 0 ≠ 0 ∧ (L3 103 22).toInt = (I3 69 1).toInt ∧ (L3 103 23).toInt = (I3 69 2).toInt))) := by
  have h_ct : I 69 0 = I 103 21 ∧ (0 ≤ I 69 0 ∧ I 69 0 ≤ 30) ∧ (0 ≤ I 69 1 ∧ I 69 1 ≤ 2000009998) ∧ (0 ≤ I 69 2 ∧ I 69 2 ≤ 2000000000) ∧ ((I 69 0 = 0 ∧ I 69 1 = 0 ∧ I 69 2 = 2000000000) ∨ (I 69 0 ≠ 0 ∧ (L 103 22).toInt = (I 69 1).toInt ∧ (L 103 23).toInt = (I 69 2).toInt)) := hr
  unfold pb_count at p1
  unfold pk_count at p2
  have e1 : I2 103 = I 103 := f1.1 103 (by omega) (by omega)
  have e2 : L2 103 = L 103 := f1.2 103 (by omega) (by omega)
  have e5 : I3 69 = I2 69 := f2.1 69 (by omega)
  obtain ⟨c1, c2, c3, c4, c5⟩ := h_ct
  have h21 : I2 103 21 = I 69 0 := by rw [e1]; exact c1.symm
  have cl : (I 69 0 = 0 ∧ I 69 1 = 0) ∨ (I 69 0 ≠ 0 ∧ (L2 103 22).toInt = (I 69 1).toInt) := by
    rw [e2]; exact c5.imp (fun h => ⟨h.1, h.2.1⟩) (fun h => ⟨h.1, h.2.1⟩)
  have ch : (I 69 0 = 0 ∧ I 69 2 = 2000000000) ∨ (I 69 0 ≠ 0 ∧ (L2 103 23).toInt = (I 69 2).toInt) := by
    rw [e2]; exact c5.imp (fun h => ⟨h.1, h.2.2⟩) (fun h => ⟨h.1, h.2.2⟩)
  have hlo : (1 ≤ v0 ∧ v0 ≤ 9999) → (1 ≤ v1 ∧ v1 ≤ 2000000) → (mLo I2 L2 v0 v1).toInt = (cCf I v0 v1).toInt := fun hu hl => px_lo hu hl h21 c2.1 cl
  have hhi : (1 ≤ v0 ∧ v0 ≤ 9999) → (1 ≤ v2 ∧ v2 ≤ 2000000) → (mHi I2 L2 v0 v2).toInt = (cCt I v0 v2).toInt := fun hu hl => px_hi hu hl h21 c2.1 ch
  rcases p1.2 with ⟨a1, a2, a3⟩ | ⟨a1, a2, a3⟩
  · obtain ⟨⟨t1, t2, t3⟩, t4⟩ := a1
    have u1 : 1 ≤ v1 ∧ v1 ≤ 2000000 := ⟨t3.1, by grind⟩
    have u2 : 1 ≤ v2 ∧ v2 ≤ 2000000 := ⟨by grind, t3.2.2⟩
    rcases p2 with ⟨b1, b2, b3, b4⟩ | ⟨b1, b2, b3, b4⟩
    · refine ⟨by rw [a2, b2, h21], ?_⟩
      have q1 := px_cfb (I := I) t2 u1 c3
      have q2 := px_ctb (I := I) t2 u2 c4
      have w1 := hlo t2 u1
      have w2 := hhi t2 u2
      have d0 : I3 69 0 = I 69 0 + 1 := by rw [e5, a3, px_u_at]
      have d1 : I3 69 1 = cCf I v0 v1 := by rw [e5, a3, px_u_at_ne (by decide), px_u_at_ne (by decide), px_u_at]
      have d2 : I3 69 2 = cCt I v0 v2 := by rw [e5, a3, px_u_at_ne (by decide), px_u_at]
      have d3 : I3 103 21 = I 69 0 + 1 := by rw [b3, px_u_at, h21]
      have d4 : L3 103 22 = mLo I2 L2 v0 v1 := by rw [b4, px_u_at_ne (by decide), px_u_at]
      have d5 : L3 103 23 = mHi I2 L2 v0 v2 := by rw [b4, px_u_at]
      rw [d0, d1, d2, d3, d4, d5]
      exact ⟨rfl, ⟨by grind, by grind⟩, q1, q2, Or.inr ⟨by grind, w1, w2⟩⟩
    · refine absurd ?_ b1
      refine ⟨t2, u1, t3.2, by rw [h21]; grind, ?_⟩
      rw [Int64.le_iff_toInt_le, hlo t2 u1, hhi t2 u2]
      exact Int32.le_iff_toInt_le.mp t4
  · rcases p2 with ⟨b1, b2, b3, b4⟩ | ⟨b1, b2, b3, b4⟩
    · refine absurd ?_ a1
      obtain ⟨t2, t3, t4, t5, t6⟩ := b1
      rw [h21] at t5
      have u2 : 1 ≤ v2 ∧ v2 ≤ 2000000 := ⟨by grind, t4.2⟩
      refine ⟨⟨by grind, t2, t3.1, t4⟩, ?_⟩
      rw [Int64.le_iff_toInt_le, hlo t2 t3, hhi t2 u2] at t6
      exact Int32.le_iff_toInt_le.mpr t6
    · refine ⟨by rw [a2, b2], ?_⟩
      rw [e5, b3, a3, b4, p1.1]
      exact ⟨c1, c2, c3, c4, c5⟩

theorem rel.count {v0 v1 v2 : Int32} {x y : Int32} {n : Nat} {I I2 I3 : px_I} {L L2 L3 : px_L} {R : px_R} (hj : jJ n I R) (hr : rel I L) (f1 : frB I I2 L L2) (p1 : pb_count v0 v1 v2 I L x I2 L2) (f2 : frK I2 I3 L2 L3) (p2 : pk_count v0 v1 v2 I2 L2 y I3 L3) : rel I3 L3 := by
  have hq0 := (relq_count hj hr f1 p1 f2 p2).2
  exact hq0

theorem relq_unit {v0 : Int32} {x y : Int32} {n : Nat} {I I2 I3 : px_I} {L L2 L3 : px_L} {R : px_R} (hj : jJ n I R) (hr : rel I L) (f1 : frB I I2 L L2) (p1 : pb_unit v0 I L x I2 L2) (f2 : frK I2 I3 L2 L3) (p2 : pk_unit v0 I2 L2 y I3 L3) : x = y := by
  have h_ct : I 69 0 = I 103 21 ∧ (0 ≤ I 69 0 ∧ I 69 0 ≤ 30) ∧ (0 ≤ I 69 1 ∧ I 69 1 ≤ 2000009998) ∧ (0 ≤ I 69 2 ∧ I 69 2 ≤ 2000000000) ∧ ((I 69 0 = 0 ∧ I 69 1 = 0 ∧ I 69 2 = 2000000000) ∨ (I 69 0 ≠ 0 ∧ (L 103 22).toInt = (I 69 1).toInt ∧ (L 103 23).toInt = (I 69 2).toInt)) := hr
  unfold pb_unit at p1
  unfold pk_unit at p2
  obtain ⟨c1, c2, c3, c4, c5⟩ := h_ct
  have e1 : I2 103 = I 103 := f1.1 103 (by omega) (by omega)
  have e2 : L2 103 = L 103 := f1.2 103 (by omega) (by omega)
  rw [p1.2.2, p2.2.2, e1, e2, c1]
  split
  · rfl
  · rename_i h
    rw [← c1] at h
    rcases c5 with c5 | c5
    · exact absurd c5.1 h
    · split
      · exact (px_32of c5.2.2).symm
      · exact (px_32of c5.2.1).symm

theorem rel.unit {v0 : Int32} {x y : Int32} {n : Nat} {I I2 I3 : px_I} {L L2 L3 : px_L} {R : px_R} (hj : jJ n I R) (hr : rel I L) (f1 : frB I I2 L L2) (p1 : pb_unit v0 I L x I2 L2) (f2 : frK I2 I3 L2 L3) (p2 : pk_unit v0 I2 L2 y I3 L3) : x = y ∧ rel I3 L3 := by
  have f_69_0 : I3 69 0 = I 69 0 := by rw [f2.1 69 (by omega), eb_unit_69_0 p1]
  have f_69_1 : I3 69 1 = I 69 1 := by rw [f2.1 69 (by omega), eb_unit_69_1 p1]
  have f_69_2 : I3 69 2 = I 69 2 := by rw [f2.1 69 (by omega), eb_unit_69_2 p1]
  have f_103_21 : I3 103 21 = I 103 21 := by rw [ek_unit_103_21 p2, f1.1 103 (by omega) (by omega)]
  have f_L : L3 103 = L 103 := (eL_unit_103 p2).trans (f1.2 103 (by omega) (by omega))
  exact ⟨(relq_unit hj hr f1 p1 f2 p2), (by unfold rel; rw [f_69_0, f_69_1, f_69_2, f_103_21, f_L]; exact hr)⟩

theorem rel.feed {v0 v1 v2 v3 v4 : Int32} {x y : Int32} {n : Nat} {I I2 I3 : px_I} {L L2 L3 : px_L} {R : px_R} (hj : jJ n I R) (hr : rel I L) (f1 : frB I I2 L L2) (p1 : pb_feed v0 v1 v2 v3 v4 I L x I2 L2) (f2 : frK I2 I3 L2 L3) (p2 : pk_feed v0 v1 v2 v3 v4 I2 L2 y I3 L3) : rel I3 L3 := by
  have f_69_0 : I3 69 0 = I 69 0 := by rw [f2.1 69 (by omega), eb_feed_69_0 p1]
  have f_69_1 : I3 69 1 = I 69 1 := by rw [f2.1 69 (by omega), eb_feed_69_1 p1]
  have f_69_2 : I3 69 2 = I 69 2 := by rw [f2.1 69 (by omega), eb_feed_69_2 p1]
  have f_103_21 : I3 103 21 = I 103 21 := by rw [ek_feed_103_21 p2, f1.1 103 (by omega) (by omega)]
  have f_L : L3 103 = L 103 := (eL_feed_103 p2).trans (f1.2 103 (by omega) (by omega))
  exact (by unfold rel; rw [f_69_0, f_69_1, f_69_2, f_103_21, f_L]; exact hr)

theorem rel.end {v0 : Int32} {x y : Int32} {n : Nat} {I I2 I3 : px_I} {L L2 L3 : px_L} {R : px_R} (hj : jJ n I R) (hr : rel I L) (f1 : frB I I2 L L2) (p1 : pb_end v0 I L x I2 L2) (f2 : frK I2 I3 L2 L3) (p2 : pk_end v0 I2 L2 y I3 L3) : rel I3 L3 := by
  have f_69_0 : I3 69 0 = I 69 0 := by rw [f2.1 69 (by omega), eb_end_69_0 p1]
  have f_69_1 : I3 69 1 = I 69 1 := by rw [f2.1 69 (by omega), eb_end_69_1 p1]
  have f_69_2 : I3 69 2 = I 69 2 := by rw [f2.1 69 (by omega), eb_end_69_2 p1]
  have f_103_21 : I3 103 21 = I 103 21 := by rw [ek_end_103_21 p2, f1.1 103 (by omega) (by omega)]
  have f_L : L3 103 = L 103 := (eL_end_103 p2).trans (f1.2 103 (by omega) (by omega))
  exact (by unfold rel; rw [f_69_0, f_69_1, f_69_2, f_103_21, f_L]; exact hr)

theorem rel.way {v0 : Int32} {x y : Int32} {n : Nat} {I I2 I3 : px_I} {L L2 L3 : px_L} {R : px_R} (hj : jJ n I R) (hr : rel I L) (f1 : frB I I2 L L2) (p1 : pb_way v0 I L x I2 L2) (f2 : frK I2 I3 L2 L3) (p2 : pk_way v0 I2 L2 y I3 L3) : rel I3 L3 := by
  have f_69_0 : I3 69 0 = I 69 0 := by rw [f2.1 69 (by omega), eb_way_69_0 p1]
  have f_69_1 : I3 69 1 = I 69 1 := by rw [f2.1 69 (by omega), eb_way_69_1 p1]
  have f_69_2 : I3 69 2 = I 69 2 := by rw [f2.1 69 (by omega), eb_way_69_2 p1]
  have f_103_21 : I3 103 21 = I 103 21 := by rw [ek_way_103_21 p2, f1.1 103 (by omega) (by omega)]
  have f_L : L3 103 = L 103 := (eL_way_103 p2).trans (f1.2 103 (by omega) (by omega))
  exact (by unfold rel; rw [f_69_0, f_69_1, f_69_2, f_103_21, f_L]; exact hr)

theorem rel.fault {v0 : Int32} {x y : Int32} {n : Nat} {I I2 I3 : px_I} {L L2 L3 : px_L} {R : px_R} (hj : jJ n I R) (hr : rel I L) (f1 : frB I I2 L L2) (p1 : pb_fault v0 I L x I2 L2) (f2 : frK I2 I3 L2 L3) (p2 : pk_fault v0 I2 L2 y I3 L3) : rel I3 L3 := by
  have f_69_0 : I3 69 0 = I 69 0 := by rw [f2.1 69 (by omega), eb_fault_69_0 p1]
  have f_69_1 : I3 69 1 = I 69 1 := by rw [f2.1 69 (by omega), eb_fault_69_1 p1]
  have f_69_2 : I3 69 2 = I 69 2 := by rw [f2.1 69 (by omega), eb_fault_69_2 p1]
  have f_103_21 : I3 103 21 = I 103 21 := by rw [ek_fault_103_21 p2, f1.1 103 (by omega) (by omega)]
  have f_L : L3 103 = L 103 := (eL_fault_103 p2).trans (f1.2 103 (by omega) (by omega))
  exact (by unfold rel; rw [f_69_0, f_69_1, f_69_2, f_103_21, f_L]; exact hr)

theorem rel.tools {v0 v1 v2 v3 v4 : Int32} {x y : Int32} {n : Nat} {I I2 I3 : px_I} {L L2 L3 : px_L} {R : px_R} (hj : jJ n I R) (hr : rel I L) (f1 : frB I I2 L L2) (p1 : pb_tools v0 v1 v2 v3 v4 I L x I2 L2) (f2 : frK I2 I3 L2 L3) (p2 : pk_tools v0 v1 v2 v3 v4 I2 L2 y I3 L3) : rel I3 L3 := by
  have f_69_0 : I3 69 0 = I 69 0 := by rw [f2.1 69 (by omega), eb_tools_69_0 p1]
  have f_69_1 : I3 69 1 = I 69 1 := by rw [f2.1 69 (by omega), eb_tools_69_1 p1]
  have f_69_2 : I3 69 2 = I 69 2 := by rw [f2.1 69 (by omega), eb_tools_69_2 p1]
  have f_103_21 : I3 103 21 = I 103 21 := by rw [ek_tools_103_21 p2, f1.1 103 (by omega) (by omega)]
  have f_L : L3 103 = L 103 := (eL_tools_103 p2).trans (f1.2 103 (by omega) (by omega))
  exact (by unfold rel; rw [f_69_0, f_69_1, f_69_2, f_103_21, f_L]; exact hr)

theorem rel.run {v0 v1 v2 : Int32} {x y : Int32} {n : Nat} {I I2 I3 : px_I} {L L2 L3 : px_L} {R : px_R} (hj : jJ n I R) (hr : rel I L) (f1 : frB I I2 L L2) (p1 : pb_run v0 v1 v2 I L x I2 L2) (f2 : frK I2 I3 L2 L3) (p2 : pk_run v0 v1 v2 I2 L2 y I3 L3) : rel I3 L3 := by
  have f_69_0 : I3 69 0 = I 69 0 := by rw [f2.1 69 (by omega), eb_run_69_0 p1]
  have f_69_1 : I3 69 1 = I 69 1 := by rw [f2.1 69 (by omega), eb_run_69_1 p1]
  have f_69_2 : I3 69 2 = I 69 2 := by rw [f2.1 69 (by omega), eb_run_69_2 p1]
  have f_103_21 : I3 103 21 = I 103 21 := by rw [ek_run_103_21 p2, f1.1 103 (by omega) (by omega)]
  have f_L : L3 103 = L 103 := (eL_run_103 p2).trans (f1.2 103 (by omega) (by omega))
  exact (by unfold rel; rw [f_69_0, f_69_1, f_69_2, f_103_21, f_L]; exact hr)

theorem rel.meeting {v0 v1 v2 v3 v4 v5 : Int32} {x y : Int32} {n : Nat} {I I2 I3 : px_I} {L L2 L3 : px_L} {R : px_R} (hj : jJ n I R) (hr : rel I L) (f1 : frB I I2 L L2) (p1 : pb_meeting v0 v1 v2 v3 v4 v5 I L x I2 L2) (f2 : frK I2 I3 L2 L3) (p2 : pk_meeting v0 v1 v2 v3 v4 v5 I2 L2 y I3 L3) : rel I3 L3 := by
  have f_69_0 : I3 69 0 = I 69 0 := by rw [f2.1 69 (by omega), eb_meeting_69_0 p1]
  have f_69_1 : I3 69 1 = I 69 1 := by rw [f2.1 69 (by omega), eb_meeting_69_1 p1]
  have f_69_2 : I3 69 2 = I 69 2 := by rw [f2.1 69 (by omega), eb_meeting_69_2 p1]
  have f_103_21 : I3 103 21 = I 103 21 := by rw [ek_meeting_103_21 p2, f1.1 103 (by omega) (by omega)]
  have f_L : L3 103 = L 103 := (eL_meeting_103 p2).trans (f1.2 103 (by omega) (by omega))
  exact (by unfold rel; rw [f_69_0, f_69_1, f_69_2, f_103_21, f_L]; exact hr)

theorem rel.there {v0 v1 v2 : Int32} {x y : Int32} {n : Nat} {I I2 I3 : px_I} {L L2 L3 : px_L} {R : px_R} (hj : jJ n I R) (hr : rel I L) (f1 : frB I I2 L L2) (p1 : pb_there v0 v1 v2 I L x I2 L2) (f2 : frK I2 I3 L2 L3) (p2 : pk_there v0 v1 v2 I2 L2 y I3 L3) : rel I3 L3 := by
  have f_69_0 : I3 69 0 = I 69 0 := by rw [f2.1 69 (by omega), eb_there_69_0 p1]
  have f_69_1 : I3 69 1 = I 69 1 := by rw [f2.1 69 (by omega), eb_there_69_1 p1]
  have f_69_2 : I3 69 2 = I 69 2 := by rw [f2.1 69 (by omega), eb_there_69_2 p1]
  have f_103_21 : I3 103 21 = I 103 21 := by rw [ek_there_103_21 p2, f1.1 103 (by omega) (by omega)]
  have f_L : L3 103 = L 103 := (eL_there_103 p2).trans (f1.2 103 (by omega) (by omega))
  exact (by unfold rel; rw [f_69_0, f_69_1, f_69_2, f_103_21, f_L]; exact hr)

theorem rel.fits {v0 v1 v2 v3 : Int32} {x y : Int32} {n : Nat} {I I2 I3 : px_I} {L L2 L3 : px_L} {R : px_R} (hj : jJ n I R) (hr : rel I L) (f1 : frB I I2 L L2) (p1 : pb_fits v0 v1 v2 v3 I L x I2 L2) (f2 : frK I2 I3 L2 L3) (p2 : pk_fits v0 v1 v2 v3 I2 L2 y I3 L3) : rel I3 L3 := by
  have f_69_0 : I3 69 0 = I 69 0 := by rw [f2.1 69 (by omega), eb_fits_69_0 p1]
  have f_69_1 : I3 69 1 = I 69 1 := by rw [f2.1 69 (by omega), eb_fits_69_1 p1]
  have f_69_2 : I3 69 2 = I 69 2 := by rw [f2.1 69 (by omega), eb_fits_69_2 p1]
  have f_103_21 : I3 103 21 = I 103 21 := by rw [ek_fits_103_21 p2, f1.1 103 (by omega) (by omega)]
  have f_L : L3 103 = L 103 := (eL_fits_103 p2).trans (f1.2 103 (by omega) (by omega))
  exact (by unfold rel; rw [f_69_0, f_69_1, f_69_2, f_103_21, f_L]; exact hr)

theorem rel.ways {v0 v1 v2 v3 v4 : Int32} {x y : Int32} {n : Nat} {I I2 I3 : px_I} {L L2 L3 : px_L} {R : px_R} (hj : jJ n I R) (hr : rel I L) (f1 : frB I I2 L L2) (p1 : pb_ways v0 v1 v2 v3 v4 I L x I2 L2) (f2 : frK I2 I3 L2 L3) (p2 : pk_ways v0 v1 v2 v3 v4 I2 L2 y I3 L3) : rel I3 L3 := by
  have f_69_0 : I3 69 0 = I 69 0 := by rw [f2.1 69 (by omega), eb_ways_69_0 p1]
  have f_69_1 : I3 69 1 = I 69 1 := by rw [f2.1 69 (by omega), eb_ways_69_1 p1]
  have f_69_2 : I3 69 2 = I 69 2 := by rw [f2.1 69 (by omega), eb_ways_69_2 p1]
  have f_103_21 : I3 103 21 = I 103 21 := by rw [ek_ways_103_21 p2, f1.1 103 (by omega) (by omega)]
  have f_L : L3 103 = L 103 := (eL_ways_103 p2).trans (f1.2 103 (by omega) (by omega))
  exact (by unfold rel; rw [f_69_0, f_69_1, f_69_2, f_103_21, f_L]; exact hr)

theorem rel.seek {v0 v1 v2 v3 v4 v5 : Int32} {x y : Int32} {n : Nat} {I I2 I3 : px_I} {L L2 L3 : px_L} {R : px_R} (hj : jJ n I R) (hr : rel I L) (f1 : frB I I2 L L2) (p1 : pb_seek v0 v1 v2 v3 v4 v5 I L x I2 L2) (f2 : frK I2 I3 L2 L3) (p2 : pk_seek v0 v1 v2 v3 v4 v5 I2 L2 y I3 L3) : rel I3 L3 := by
  have f_69_0 : I3 69 0 = I 69 0 := by rw [f2.1 69 (by omega), eb_seek_69_0 p1]
  have f_69_1 : I3 69 1 = I 69 1 := by rw [f2.1 69 (by omega), eb_seek_69_1 p1]
  have f_69_2 : I3 69 2 = I 69 2 := by rw [f2.1 69 (by omega), eb_seek_69_2 p1]
  have f_103_21 : I3 103 21 = I 103 21 := by rw [ek_seek_103_21 p2, f1.1 103 (by omega) (by omega)]
  have f_L : L3 103 = L 103 := (eL_seek_103 p2).trans (f1.2 103 (by omega) (by omega))
  exact (by unfold rel; rw [f_69_0, f_69_1, f_69_2, f_103_21, f_L]; exact hr)

theorem rel.chance {n : Nat} {I I2 I3 : px_I} {L L2 L3 : px_L} {R : px_R} (hj : jJ n I R) (hr : rel I L) (f1 : frB I I2 L L2) (p1 : I2 = I ∧ cSL L L2) (f2 : frK I2 I3 L2 L3) (p2 : I3 = I2 ∧ mNL L2 L3) : rel I3 L3 := by
  have f_69_0 : I3 69 0 = I 69 0 := by rw [f2.1 69 (by omega), p1.1]
  have f_69_1 : I3 69 1 = I 69 1 := by rw [f2.1 69 (by omega), p1.1]
  have f_69_2 : I3 69 2 = I 69 2 := by rw [f2.1 69 (by omega), p1.1]
  have f_103_21 : I3 103 21 = I 103 21 := by rw [p2.1, f1.1 103 (by omega) (by omega)]
  have f_L : L3 103 = L 103 := (p2.2 103 (by omega) (by omega)).trans (f1.2 103 (by omega) (by omega))
  exact (by unfold rel; rw [f_69_0, f_69_1, f_69_2, f_103_21, f_L]; exact hr)

theorem rel.detour {v0 v1 v2 : Int32} {x y : Int32} {n : Nat} {I I2 I3 : px_I} {L L2 L3 : px_L} {R : px_R} (hj : jJ n I R) (hr : rel I L) (f1 : frB I I2 L L2) (p1 : pb_detour v0 v1 v2 I L x I2 L2) (f2 : frK I2 I3 L2 L3) (p2 : pk_detour v0 v1 v2 I2 L2 y I3 L3) : rel I3 L3 := by
  have f_69_0 : I3 69 0 = I 69 0 := by rw [f2.1 69 (by omega), eb_detour_69_0 p1]
  have f_69_1 : I3 69 1 = I 69 1 := by rw [f2.1 69 (by omega), eb_detour_69_1 p1]
  have f_69_2 : I3 69 2 = I 69 2 := by rw [f2.1 69 (by omega), eb_detour_69_2 p1]
  have f_103_21 : I3 103 21 = I 103 21 := by rw [ek_detour_103_21 p2, f1.1 103 (by omega) (by omega)]
  have f_L : L3 103 = L 103 := (eL_detour_103 p2).trans (f1.2 103 (by omega) (by omega))
  exact (by unfold rel; rw [f_69_0, f_69_1, f_69_2, f_103_21, f_L]; exact hr)

theorem rel.table {v0 v1 : Int32} {x y : Int32} {n : Nat} {I I2 I3 : px_I} {L L2 L3 : px_L} {R : px_R} (hj : jJ n I R) (hr : rel I L) (f1 : frB I I2 L L2) (p1 : pb_table v0 v1 I L x I2 L2) (f2 : frK I2 I3 L2 L3) (p2 : pk_table v0 v1 I2 L2 y I3 L3) : rel I3 L3 := by
  have f_69_0 : I3 69 0 = I 69 0 := by rw [f2.1 69 (by omega), eb_table_69_0 p1]
  have f_69_1 : I3 69 1 = I 69 1 := by rw [f2.1 69 (by omega), eb_table_69_1 p1]
  have f_69_2 : I3 69 2 = I 69 2 := by rw [f2.1 69 (by omega), eb_table_69_2 p1]
  have f_103_21 : I3 103 21 = I 103 21 := by rw [ek_table_103_21 p2, f1.1 103 (by omega) (by omega)]
  have f_L : L3 103 = L 103 := (eL_table_103 p2).trans (f1.2 103 (by omega) (by omega))
  exact (by unfold rel; rw [f_69_0, f_69_1, f_69_2, f_103_21, f_L]; exact hr)

theorem rel.repair {v0 v1 v2 : Int32} {x y : Int32} {n : Nat} {I I2 I3 : px_I} {L L2 L3 : px_L} {R : px_R} (hj : jJ n I R) (hr : rel I L) (f1 : frB I I2 L L2) (p1 : pb_repair v0 v1 v2 I L x I2 L2) (f2 : frK I2 I3 L2 L3) (p2 : pk_repair v0 v1 v2 I2 L2 y I3 L3) : rel I3 L3 := by
  have f_69_0 : I3 69 0 = I 69 0 := by rw [f2.1 69 (by omega), eb_repair_69_0 p1]
  have f_69_1 : I3 69 1 = I 69 1 := by rw [f2.1 69 (by omega), eb_repair_69_1 p1]
  have f_69_2 : I3 69 2 = I 69 2 := by rw [f2.1 69 (by omega), eb_repair_69_2 p1]
  have f_103_21 : I3 103 21 = I 103 21 := by rw [ek_repair_103_21 p2, f1.1 103 (by omega) (by omega)]
  have f_L : L3 103 = L 103 := (eL_repair_103 p2).trans (f1.2 103 (by omega) (by omega))
  exact (by unfold rel; rw [f_69_0, f_69_1, f_69_2, f_103_21, f_L]; exact hr)

theorem rel.lime {v0 : Int32} {x y : Int32} {n : Nat} {I I2 I3 : px_I} {L L2 L3 : px_L} {R : px_R} (hj : jJ n I R) (hr : rel I L) (f1 : frB I I2 L L2) (p1 : pb_lime v0 I L x I2 L2) (f2 : frK I2 I3 L2 L3) (p2 : pk_lime v0 I2 L2 y I3 L3) : rel I3 L3 := by
  have f_69_0 : I3 69 0 = I 69 0 := by rw [f2.1 69 (by omega), eb_lime_69_0 p1]
  have f_69_1 : I3 69 1 = I 69 1 := by rw [f2.1 69 (by omega), eb_lime_69_1 p1]
  have f_69_2 : I3 69 2 = I 69 2 := by rw [f2.1 69 (by omega), eb_lime_69_2 p1]
  have f_103_21 : I3 103 21 = I 103 21 := by rw [ek_lime_103_21 p2, f1.1 103 (by omega) (by omega)]
  have f_L : L3 103 = L 103 := (eL_lime_103 p2).trans (f1.2 103 (by omega) (by omega))
  exact (by unfold rel; rw [f_69_0, f_69_1, f_69_2, f_103_21, f_L]; exact hr)

theorem rel.flow {v0 v1 v2 v3 : Int32} {x y : Int32} {n : Nat} {I I2 I3 : px_I} {L L2 L3 : px_L} {R : px_R} (hj : jJ n I R) (hr : rel I L) (f1 : frB I I2 L L2) (p1 : pb_flow v0 v1 v2 v3 I L x I2 L2) (f2 : frK I2 I3 L2 L3) (p2 : pk_flow v0 v1 v2 v3 I2 L2 y I3 L3) : rel I3 L3 := by
  have f_69_0 : I3 69 0 = I 69 0 := by rw [f2.1 69 (by omega), eb_flow_69_0 p1]
  have f_69_1 : I3 69 1 = I 69 1 := by rw [f2.1 69 (by omega), eb_flow_69_1 p1]
  have f_69_2 : I3 69 2 = I 69 2 := by rw [f2.1 69 (by omega), eb_flow_69_2 p1]
  have f_103_21 : I3 103 21 = I 103 21 := by rw [ek_flow_103_21 p2, f1.1 103 (by omega) (by omega)]
  have f_L : L3 103 = L 103 := (eL_flow_103 p2).trans (f1.2 103 (by omega) (by omega))
  exact (by unfold rel; rw [f_69_0, f_69_1, f_69_2, f_103_21, f_L]; exact hr)

theorem rel.narrow {v0 v1 v2 : Int32} {x y : Int32} {n : Nat} {I I2 I3 : px_I} {L L2 L3 : px_L} {R : px_R} (hj : jJ n I R) (hr : rel I L) (f1 : frB I I2 L L2) (p1 : pb_narrow v0 v1 v2 I L x I2 L2) (f2 : frK I2 I3 L2 L3) (p2 : pk_narrow v0 v1 v2 I2 L2 y I3 L3) : rel I3 L3 := by
  have f_69_0 : I3 69 0 = I 69 0 := by rw [f2.1 69 (by omega), eb_narrow_69_0 p1]
  have f_69_1 : I3 69 1 = I 69 1 := by rw [f2.1 69 (by omega), eb_narrow_69_1 p1]
  have f_69_2 : I3 69 2 = I 69 2 := by rw [f2.1 69 (by omega), eb_narrow_69_2 p1]
  have f_103_21 : I3 103 21 = I 103 21 := by rw [ek_narrow_103_21 p2, f1.1 103 (by omega) (by omega)]
  have f_L : L3 103 = L 103 := (eL_narrow_103 p2).trans (f1.2 103 (by omega) (by omega))
  exact (by unfold rel; rw [f_69_0, f_69_1, f_69_2, f_103_21, f_L]; exact hr)

theorem rel.about {v0 : Int32} {x y : Int32} {n : Nat} {I I2 I3 : px_I} {L L2 L3 : px_L} {R : px_R} (hj : jJ n I R) (hr : rel I L) (f1 : frB I I2 L L2) (p1 : pb_about v0 I L x I2 L2) (f2 : frK I2 I3 L2 L3) (p2 : pk_about v0 I2 L2 y I3 L3) : rel I3 L3 := by
  have f_69_0 : I3 69 0 = I 69 0 := by rw [f2.1 69 (by omega), eb_about_69_0 p1]
  have f_69_1 : I3 69 1 = I 69 1 := by rw [f2.1 69 (by omega), eb_about_69_1 p1]
  have f_69_2 : I3 69 2 = I 69 2 := by rw [f2.1 69 (by omega), eb_about_69_2 p1]
  have f_103_21 : I3 103 21 = I 103 21 := by rw [ek_about_103_21 p2, f1.1 103 (by omega) (by omega)]
  have f_L : L3 103 = L 103 := (eL_about_103 p2).trans (f1.2 103 (by omega) (by omega))
  exact (by unfold rel; rw [f_69_0, f_69_1, f_69_2, f_103_21, f_L]; exact hr)
