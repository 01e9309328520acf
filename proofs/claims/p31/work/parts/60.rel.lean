/-! what agrees in both books -/

theorem px_n0 : (0 : Int32).toNatClampNeg = 0 := by decide
theorem px_n1 : (1 : Int32).toNatClampNeg = 1 := by decide
theorem px_01 {g : Int32} (h0 : 0 ≤ g) (h1 : g ≤ 1) : g = 0 ∨ g = 1 := by grind
theorem cReach_p {G : Nat} {I : px_I} {lo hi sl fa w st : Int32} : cReach G I lo hi sl fa w st G 13 = (if I G 13 = 0 then 1 else I G 13) + 1 := by
  unfold cReach cRch
  rw [px_u_ne (by omega), px_u_ne (by omega), px_u_ne (by omega), px_u_ne (by omega), px_u_ne (by omega), cPeg_13]
  split
  · rename_i h
    rw [cPeg_13, h]; rfl
  · rfl
theorem mReach_p {I : px_I} {g lo hi sl fa w st : Int32} : mReach I g lo hi sl fa w st 110 g.toNatClampNeg = mP0 I g + 1 := by unfold mReach; rw [px_u_at]
theorem mReach_q {I : px_I} {g lo hi sl fa w st : Int32} {k : Nat} (h : k ≠ g.toNatClampNeg) : mReach I g lo hi sl fa w st 110 k = I 110 k := by
  unfold mReach
  rw [px_u_at_ne h]
  repeat rw [px_u_ne (by omega)]
  rw [px_u_at_ne h]
theorem bG_01 {g : Int32} (h0 : 0 ≤ g) (h1 : g ≤ 1) : ∃ G, bG g G := by
  rcases px_01 h0 h1 with rfl | rfl
  · exact ⟨41, Or.inl ⟨rfl, rfl⟩⟩
  · exact ⟨55, Or.inr ⟨rfl, rfl⟩⟩
theorem bG_le {g : Int32} {G : Nat} (h : bG g G) : 0 ≤ g ∧ g ≤ 1 := by
  rcases h with ⟨rfl, rfl⟩ | ⟨rfl, rfl⟩ <;> decide

theorem eb_days_33_7 {x9 x : Int32} {I I2 : px_I} {L L2 : px_L} (h : pb_days x9 I L x I2 L2) : I2 33 7 = I 33 7 := by
  unfold pb_days at h
  obtain ⟨rfl, h⟩ := h
  rcases h with ⟨a1, a2, rfl, rfl⟩ | ⟨a1, rfl, rfl⟩
  · (repeat rw [px_u_out (by omega)])
  · rfl

theorem ek_days_103_1 {x9 x : Int32} {I I2 : px_I} {L L2 : px_L} (h : pk_days x9 I L x I2 L2) : I2 103 1 = I 103 1 := by
  unfold pk_days at h
  obtain ⟨rfl, h⟩ := h
  rcases h with ⟨a1, a2, a3, rfl, rfl⟩ | ⟨a1, rfl, rfl⟩
  · (repeat rw [px_u_out (by omega)])
  · rfl

theorem eb_sight_33_7 {a f t lo hi x : Int32} {I I2 : px_I} {L L2 : px_L} (h : pb_sight a f t lo hi I L x I2 L2) : I2 33 7 = I 33 7 := by
  unfold pb_sight at h
  obtain ⟨rfl, h⟩ := h
  rcases h with ⟨a1, rfl, rfl⟩ | ⟨a1, rfl, rfl⟩
  · (repeat rw [px_u_out (by omega)])
  · rfl

theorem ek_sight_103_1 {a f t lo hi x : Int32} {I I2 : px_I} {L L2 : px_L} (h : pk_sight a f t lo hi I L x I2 L2) : I2 103 1 = I 103 1 := by
  unfold pk_sight at h
  obtain ⟨rfl, h⟩ := h
  rcases h with ⟨a1, rfl, rfl⟩ | ⟨a1, rfl, rfl⟩
  · (repeat rw [px_u_out (by omega)])
  · rfl

theorem eb_closed_33_7 {a k x : Int32} {I I2 : px_I} {L L2 : px_L} (h : pb_closed a k I L x I2 L2) : I2 33 7 = I 33 7 := by
  unfold pb_closed at h
  obtain ⟨rfl, h⟩ := h
  rfl

theorem ek_closed_103_1 {a k x : Int32} {I I2 : px_I} {L L2 : px_L} (h : pk_closed a k I L x I2 L2) : I2 103 1 = I 103 1 := by
  unfold pk_closed at h
  exact h.1 103 1 (by omega)

theorem eb_span_33_7 {a t k h x : Int32} {I I2 : px_I} {L L2 : px_L} (h : pb_span a t k h I L x I2 L2) : I2 33 7 = I 33 7 := by
  unfold pb_span at h
  obtain ⟨rfl, h⟩ := h
  rfl

theorem ek_span_103_1 {a t k h x : Int32} {I I2 : px_I} {L L2 : px_L} (h : pk_span a t k h I L x I2 L2) : I2 103 1 = I 103 1 := by
  unfold pk_span at h
  exact h.1 103 1 (by omega)

theorem eb_gap_33_7 {a f t k h x : Int32} {I I2 : px_I} {L L2 : px_L} (h : pb_gap a f t k h I L x I2 L2) : I2 33 7 = I 33 7 := by
  unfold pb_gap at h
  obtain ⟨rfl, h⟩ := h
  rfl

theorem ek_gap_103_1 {a f t k h x : Int32} {I I2 : px_I} {L L2 : px_L} (h : pk_gap a f t k h I L x I2 L2) : I2 103 1 = I 103 1 := by
  unfold pk_gap at h
  exact h.1 103 1 (by omega)

theorem eb_blamed_33_7 {a k i x : Int32} {I I2 : px_I} {L L2 : px_L} (h : pb_blamed a k i I L x I2 L2) : I2 33 7 = I 33 7 := by
  unfold pb_blamed at h
  obtain ⟨rfl, h⟩ := h
  rfl

theorem ek_blamed_103_1 {a k i x : Int32} {I I2 : px_I} {L L2 : px_L} (h : pk_blamed a k i I L x I2 L2) : I2 103 1 = I 103 1 := by
  unfold pk_blamed at h
  exact h.1 103 1 (by omega)

theorem eb_reach_33_7 {g lo hi sl fa w st x : Int32} {I I2 : px_I} {L L2 : px_L} (h : pb_reach g lo hi sl fa w st I L x I2 L2) : I2 33 7 = I 33 7 := by
  unfold pb_reach at h
  obtain ⟨rfl, h⟩ := h
  rcases h with ⟨G, ⟨g1, g2, g3⟩, rfl, rfl⟩ | ⟨a1, rfl, rfl⟩
  · have gG : G = 41 ∨ G = 55 := by unfold bG at g1; omega
    rw [cReach_o (by omega)]
  · rfl

theorem ek_reach_103_1 {g lo hi sl fa w st x : Int32} {I I2 : px_I} {L L2 : px_L} (h : pk_reach g lo hi sl fa w st I L x I2 L2) : I2 103 1 = I 103 1 := by
  unfold pk_reach at h
  obtain ⟨rfl, h⟩ := h
  rcases h with ⟨a1, rfl, rfl⟩ | ⟨a1, rfl, rfl⟩
  · unfold mReach; (repeat rw [px_u_out (by omega)])
  · rfl

theorem eb_mouth_33_7 {g st x : Int32} {I I2 : px_I} {L L2 : px_L} (h : pb_mouth g st I L x I2 L2) : I2 33 7 = I 33 7 := by
  unfold pb_mouth at h
  obtain ⟨rfl, h⟩ := h
  rcases h with ⟨G, g1, rfl⟩ | rfl
  · have gG : G = 41 ∨ G = 55 := by unfold bG at g1; omega
    (repeat rw [px_u_out (by omega)])
  · rfl

theorem ek_mouth_103_1 {g st x : Int32} {I I2 : px_I} {L L2 : px_L} (h : pk_mouth g st I L x I2 L2) : I2 103 1 = I 103 1 := by
  unfold pk_mouth at h
  obtain ⟨rfl, h⟩ := h
  rcases h with ⟨a1, a2, rfl, rfl⟩ | ⟨a1, rfl, rfl⟩
  · (repeat rw [px_u_out (by omega)])
  · rfl

theorem eb_mark_33_7 {g p f t x : Int32} {I I2 : px_I} {L L2 : px_L} (h : pb_mark g p f t I L x I2 L2) : I2 33 7 = I 33 7 := by
  unfold pb_mark at h
  obtain ⟨rfl, h⟩ := h
  rcases h with ⟨G, g1, rfl, rfl⟩ | ⟨a1, rfl, rfl⟩
  · have g2 := g1.1
    have gG : G = 41 ∨ G = 55 := by unfold bG at g2; omega
    unfold cMark; (repeat rw [px_u_out (by omega)])
  · rfl

theorem ek_mark_103_1 {g p f t x : Int32} {I I2 : px_I} {L L2 : px_L} (h : pk_mark g p f t I L x I2 L2) : I2 103 1 = I 103 1 := by
  unfold pk_mark at h
  obtain ⟨rfl, h⟩ := h
  rcases h with ⟨a1, rfl, rfl⟩ | ⟨a1, rfl, rfl⟩
  · unfold mMark; (repeat rw [px_u_out (by omega)])
  · rfl

theorem eb_when_33_7 {g p h x : Int32} {I I2 : px_I} {L L2 : px_L} (h : pb_when g p h I L x I2 L2) : I2 33 7 = I 33 7 := by
  unfold pb_when at h
  obtain ⟨rfl, h⟩ := h
  rw [h 33 (by decide) (by decide) (by decide) (by decide)]

theorem ek_when_103_1 {g p h x : Int32} {I I2 : px_I} {L L2 : px_L} (h : pk_when g p h I L x I2 L2) : I2 103 1 = I 103 1 := by
  unfold pk_when at h
  exact h.1 103 1 (by omega)

theorem eb_between_33_7 {g p q h x : Int32} {I I2 : px_I} {L L2 : px_L} (h : pb_between g p q h I L x I2 L2) : I2 33 7 = I 33 7 := by
  unfold pb_between at h
  obtain ⟨rfl, h⟩ := h
  rw [h 33 (by decide) (by decide) (by decide) (by decide)]

theorem ek_between_103_1 {g p t h x : Int32} {I I2 : px_I} {L L2 : px_L} (h : pk_between g p t h I L x I2 L2) : I2 103 1 = I 103 1 := by
  unfold pk_between at h
  exact h.1 103 1 (by omega)

theorem eb_lamps_33_7 {g p h lo hi x : Int32} {I I2 : px_I} {L L2 : px_L} (h : pb_lamps g p h lo hi I L x I2 L2) : I2 33 7 = I 33 7 := by
  unfold pb_lamps at h
  rw [h.1]

theorem ek_lamps_103_1 {g p h lo hi x : Int32} {I I2 : px_I} {L L2 : px_L} (h : pk_lamps g p h lo hi I L x I2 L2) : I2 103 1 = I 103 1 := by
  unfold pk_lamps at h
  rw [h.1]

theorem eb_count_33_7 {u lo hi x : Int32} {I I2 : px_I} {L L2 : px_L} (h : pb_count u lo hi I L x I2 L2) : I2 33 7 = I 33 7 := by
  unfold pb_count at h
  obtain ⟨rfl, h⟩ := h
  rcases h with ⟨a1, rfl, rfl⟩ | ⟨a1, rfl, rfl⟩
  · (repeat rw [px_u_out (by omega)])
  · rfl

theorem ek_count_103_1 {u lo hi x : Int32} {I I2 : px_I} {L L2 : px_L} (h : pk_count u lo hi I L x I2 L2) : I2 103 1 = I 103 1 := by
  unfold pk_count at h
  rcases h with ⟨a1, rfl, rfl, rfl⟩ | ⟨a1, rfl, rfl, rfl⟩
  · (repeat rw [px_u_out (by omega)])
  · rfl

theorem eb_unit_33_7 {h x : Int32} {I I2 : px_I} {L L2 : px_L} (h : pb_unit h I L x I2 L2) : I2 33 7 = I 33 7 := by
  unfold pb_unit at h
  rw [h.1]

theorem ek_unit_103_1 {h x : Int32} {I I2 : px_I} {L L2 : px_L} (h : pk_unit h I L x I2 L2) : I2 103 1 = I 103 1 := by
  unfold pk_unit at h
  rw [h.1]

theorem eb_feed_33_7 {a b c d e x : Int32} {I I2 : px_I} {L L2 : px_L} (h : pb_feed a b c d e I L x I2 L2) : I2 33 7 = I 33 7 := by
  unfold pb_feed at h
  obtain ⟨rfl, h⟩ := h
  rcases h with ⟨a1, rfl, rfl⟩ | ⟨a1, rfl, rfl⟩
  · rw [cApp_at _ _ 33 7 (by omega) (by omega), cApp_at _ _ 33 7 (by omega) (by omega), cApp_at _ _ 33 7 (by omega) (by omega), cApp_at _ _ 33 7 (by omega) (by omega), cApp_at _ _ 33 7 (by omega) (by omega)]
  · rfl

theorem ek_feed_103_1 {a b c d e x : Int32} {I I2 : px_I} {L L2 : px_L} (h : pk_feed a b c d e I L x I2 L2) : I2 103 1 = I 103 1 := by
  unfold pk_feed at h
  obtain ⟨rfl, h⟩ := h
  rcases h with ⟨a1, rfl, rfl⟩ | ⟨a1, rfl, rfl⟩
  · rw [mPut_o (by omega) (by omega), mPut_o (by omega) (by omega), mPut_o (by omega) (by omega), mPut_o (by omega) (by omega), mPut_o (by omega) (by omega)]
  · rfl

theorem eb_end_33_7 {x9 x : Int32} {I I2 : px_I} {L L2 : px_L} (h : pb_end x9 I L x I2 L2) : I2 33 7 = I 33 7 := by
  unfold pb_end at h
  obtain ⟨rfl, h⟩ := h
  rcases h with ⟨a1, rfl, rfl⟩ | ⟨a1, rfl, rfl⟩
  · (repeat rw [px_u_out (by omega)])
  · rfl

theorem ek_end_103_1 {x9 x : Int32} {I I2 : px_I} {L L2 : px_L} (h : pk_end x9 I L x I2 L2) : I2 103 1 = I 103 1 := by
  unfold pk_end at h
  obtain ⟨rfl, h⟩ := h
  rcases h with ⟨a1, a2, rfl, rfl⟩ | ⟨a1, rfl, rfl⟩
  · (repeat rw [px_u_out (by omega)])
  · rfl

theorem eb_way_33_7 {i x : Int32} {I I2 : px_I} {L L2 : px_L} (h : pb_way i I L x I2 L2) : I2 33 7 = I 33 7 := by
  unfold pb_way at h
  exact h.1 33 7 (by omega) (by omega) (by omega) (by omega) (by omega)

theorem ek_way_103_1 {w x : Int32} {I I2 : px_I} {L L2 : px_L} (h : pk_way w I L x I2 L2) : I2 103 1 = I 103 1 := by
  unfold pk_way at h
  obtain ⟨rfl, h⟩ := h
  rcases h with ⟨a1, a2, rfl⟩ | ⟨a1, a2, a3⟩
  · rfl
  · exact a2 103 1 (by omega) (by omega)

theorem eb_fault_33_7 {x9 x : Int32} {I I2 : px_I} {L L2 : px_L} (h : pb_fault x9 I L x I2 L2) : I2 33 7 = I 33 7 := by
  unfold pb_fault at h
  rw [h.1]

theorem ek_fault_103_1 {x9 x : Int32} {I I2 : px_I} {L L2 : px_L} (h : pk_fault x9 I L x I2 L2) : I2 103 1 = I 103 1 := by
  unfold pk_fault at h
  rw [h.1]

theorem eb_tools_33_7 {a b c d e x : Int32} {I I2 : px_I} {L L2 : px_L} (h : pb_tools a b c d e I L x I2 L2) : I2 33 7 = I 33 7 := by
  unfold pb_tools at h
  obtain ⟨rfl, h⟩ := h
  rcases h with ⟨a1, rfl, a2⟩ | ⟨a1, rfl, rfl⟩
  · rw [a2 33 (by decide)]; (repeat rw [px_u_out (by omega)])
  · rfl

theorem ek_tools_103_1 {a b c d e x : Int32} {I I2 : px_I} {L L2 : px_L} (h : pk_tools a b c d e I L x I2 L2) : I2 103 1 = I 103 1 := by
  unfold pk_tools at h
  obtain ⟨rfl, h⟩ := h
  rcases h with ⟨a1, rfl, rfl⟩ | ⟨a1, rfl, rfl⟩
  · (repeat rw [px_u_out (by omega)])
  · rfl

theorem eb_run_33_7 {w h a x : Int32} {I I2 : px_I} {L L2 : px_L} (h : pb_run w h a I L x I2 L2) : I2 33 7 = I 33 7 := by
  unfold pb_run at h
  exact h.1 33 7 (by omega) (by omega) (by omega) (by omega) (by omega) (by omega) (by omega)

theorem ek_run_103_1 {w h a x : Int32} {I I2 : px_I} {L L2 : px_L} (h : pk_run w h a I L x I2 L2) : I2 103 1 = I 103 1 := by
  unfold pk_run at h
  exact h.1 103 1 (by omega) (by omega) (by omega)

theorem eb_meeting_33_7 {a f b t x9 h x : Int32} {I I2 : px_I} {L L2 : px_L} (h : pb_meeting a f b t x9 h I L x I2 L2) : I2 33 7 = I 33 7 := by
  unfold pb_meeting at h
  exact h.1 33 7 (by omega) (by omega) (by omega) (by omega) (by omega) (by omega) (by omega)

theorem ek_meeting_103_1 {a f b t x9 h x : Int32} {I I2 : px_I} {L L2 : px_L} (h : pk_meeting a f b t x9 h I L x I2 L2) : I2 103 1 = I 103 1 := by
  unfold pk_meeting at h
  exact h.1 103 1 (by omega) (by omega) (by omega)

theorem eb_there_33_7 {a lo hi x : Int32} {I I2 : px_I} {L L2 : px_L} (h : pb_there a lo hi I L x I2 L2) : I2 33 7 = I 33 7 := by
  unfold pb_there at h
  obtain ⟨rfl, h⟩ := h
  rcases h with ⟨a1, rfl, rfl⟩ | ⟨a1, rfl, rfl⟩
  · (repeat rw [px_u_out (by omega)])
  · rfl

theorem ek_there_103_1 {a lo hi x : Int32} {I I2 : px_I} {L L2 : px_L} (h : pk_there a lo hi I L x I2 L2) : I2 103 1 = I 103 1 := by
  unfold pk_there at h
  obtain ⟨rfl, h⟩ := h
  rcases h with ⟨a1, rfl, rfl⟩ | ⟨a1, rfl, rfl⟩
  · (repeat rw [px_u_out (by omega)])
  · rfl

theorem eb_fits_33_7 {a f b t x : Int32} {I I2 : px_I} {L L2 : px_L} (h : pb_fits a f b t I L x I2 L2) : I2 33 7 = I 33 7 := by
  unfold pb_fits at h
  exact h.1 33 7 (by omega) (by omega) (by omega) (by omega) (by omega) (by omega) (by omega)

theorem ek_fits_103_1 {a f b t x : Int32} {I I2 : px_I} {L L2 : px_L} (h : pk_fits a f b t I L x I2 L2) : I2 103 1 = I 103 1 := by
  unfold pk_fits at h
  exact h.1 103 1 (by omega) (by omega) (by omega)

theorem eb_ways_33_7 {a f b t x9 x : Int32} {I I2 : px_I} {L L2 : px_L} (h : pb_ways a f b t x9 I L x I2 L2) : I2 33 7 = I 33 7 := by
  unfold pb_ways at h
  exact h.1 33 7 (by omega) (by omega) (by omega) (by omega) (by omega) (by omega) (by omega)

theorem ek_ways_103_1 {a f b t x9 x : Int32} {I I2 : px_I} {L L2 : px_L} (h : pk_ways a f b t x9 I L x I2 L2) : I2 103 1 = I 103 1 := by
  unfold pk_ways at h
  exact h.1 103 1 (by omega) (by omega) (by omega)

theorem eb_seek_33_7 {a b c d e f x : Int32} {I I2 : px_I} {L L2 : px_L} (h : pb_seek a b c d e f I L x I2 L2) : I2 33 7 = I 33 7 := by
  unfold pb_seek at h
  obtain ⟨rfl, h⟩ := h
  rcases h with ⟨a1, rfl, rfl⟩ | ⟨a1, rfl, rfl⟩
  · (repeat rw [px_u_out (by omega)])
  · rfl

theorem ek_seek_103_1 {a b c d e f x : Int32} {I I2 : px_I} {L L2 : px_L} (h : pk_seek a b c d e f I L x I2 L2) : I2 103 1 = I 103 1 := by
  unfold pk_seek at h
  obtain ⟨rfl, h⟩ := h
  rcases h with ⟨a1, rfl, rfl⟩ | ⟨a1, rfl, rfl⟩
  · (repeat rw [px_u_out (by omega)])
  · rfl

theorem eb_detour_33_7 {a o h x : Int32} {I I2 : px_I} {L L2 : px_L} (h : pb_detour a o h I L x I2 L2) : I2 33 7 = I 33 7 := by
  unfold pb_detour at h
  rw [h.1]

theorem ek_detour_103_1 {a o lo x : Int32} {I I2 : px_I} {L L2 : px_L} (h : pk_detour a o lo I L x I2 L2) : I2 103 1 = I 103 1 := by
  unfold pk_detour at h
  rw [h.1]

theorem eb_table_33_7 {c v x : Int32} {I I2 : px_I} {L L2 : px_L} (h : pb_table c v I L x I2 L2) : I2 33 7 = I 33 7 := by
  unfold pb_table at h
  obtain ⟨rfl, h⟩ := h
  rcases h with ⟨a1, rfl, rfl⟩ | ⟨a1, rfl, rfl⟩
  · (repeat rw [px_u_out (by omega)])
  · rfl

theorem ek_table_103_1 {c v x : Int32} {I I2 : px_I} {L L2 : px_L} (h : pk_table c v I L x I2 L2) : I2 103 1 = I 103 1 := by
  unfold pk_table at h
  obtain ⟨rfl, h⟩ := h
  rcases h with ⟨a1, rfl, rfl⟩ | ⟨a1, rfl, rfl⟩
  · (repeat rw [px_u_out (by omega)])
  · rfl

theorem eb_repair_33_7 {g p y x : Int32} {I I2 : px_I} {L L2 : px_L} (h : pb_repair g p y I L x I2 L2) : I2 33 7 = I 33 7 := by
  unfold pb_repair at h
  obtain ⟨rfl, h⟩ := h
  rcases h with ⟨G, g1, rfl, rfl⟩ | ⟨a1, rfl, rfl⟩
  · have g2 := g1.1
    have gG : G = 41 ∨ G = 55 := by unfold bG at g2; omega
    unfold cRep; (repeat rw [px_u_out (by omega)])
  · rfl

theorem ek_repair_103_1 {g p y x : Int32} {I I2 : px_I} {L L2 : px_L} (h : pk_repair g p y I L x I2 L2) : I2 103 1 = I 103 1 := by
  unfold pk_repair at h
  obtain ⟨rfl, h⟩ := h
  rcases h with ⟨a1, rfl, rfl⟩ | ⟨a1, rfl, rfl⟩
  · (repeat rw [px_u_out (by omega)])
  · rfl

theorem eb_lime_33_7 {v x : Int32} {I I2 : px_I} {L L2 : px_L} (h : pb_lime v I L x I2 L2) : I2 33 7 = I 33 7 := by
  unfold pb_lime at h
  obtain ⟨rfl, h⟩ := h
  rcases h with ⟨a1, rfl, rfl⟩ | ⟨a1, rfl, rfl⟩
  · (repeat rw [px_u_out (by omega)])
  · rfl

theorem ek_lime_103_1 {v x : Int32} {I I2 : px_I} {L L2 : px_L} (h : pk_lime v I L x I2 L2) : I2 103 1 = I 103 1 := by
  unfold pk_lime at h
  obtain ⟨rfl, h⟩ := h
  rcases h with ⟨a1, a2, rfl, rfl⟩ | ⟨a1, rfl, rfl⟩
  · (repeat rw [px_u_out (by omega)])
  · rfl

theorem eb_flow_33_7 {g y k h x : Int32} {I I2 : px_I} {L L2 : px_L} (h : pb_flow g y k h I L x I2 L2) : I2 33 7 = I 33 7 := by
  unfold pb_flow at h
  exact h.1 33 7 (by omega)

theorem ek_flow_103_1 {g y k h x : Int32} {I I2 : px_I} {L L2 : px_L} (h : pk_flow g y k h I L x I2 L2) : I2 103 1 = I 103 1 := by
  unfold pk_flow at h
  exact h.1 103 1 (by omega)

theorem eb_narrow_33_7 {g y k x : Int32} {I I2 : px_I} {L L2 : px_L} (h : pb_narrow g y k I L x I2 L2) : I2 33 7 = I 33 7 := by
  unfold pb_narrow at h
  exact h.1 33 7 (by omega)

theorem ek_narrow_103_1 {g y k x : Int32} {I I2 : px_I} {L L2 : px_L} (h : pk_narrow g y k I L x I2 L2) : I2 103 1 = I 103 1 := by
  unfold pk_narrow at h
  exact h.1 103 1 (by omega)

theorem eb_about_33_7 {w x : Int32} {I I2 : px_I} {L L2 : px_L} (h : pb_about w I L x I2 L2) : I2 33 7 = I 33 7 := by
  unfold pb_about at h
  rw [h.1]

theorem ek_about_103_1 {w x : Int32} {I I2 : px_I} {L L2 : px_L} (h : pk_about w I L x I2 L2) : I2 103 1 = I 103 1 := by
  unfold pk_about at h
  rw [h.1]

theorem eb_days_41_13 {x9 x : Int32} {I I2 : px_I} {L L2 : px_L} (h : pb_days x9 I L x I2 L2) : I2 41 13 = I 41 13 := by
  unfold pb_days at h
  obtain ⟨rfl, h⟩ := h
  rcases h with ⟨a1, a2, rfl, rfl⟩ | ⟨a1, rfl, rfl⟩
  · (repeat rw [px_u_out (by omega)])
  · rfl

theorem ek_days_110_0 {x9 x : Int32} {I I2 : px_I} {L L2 : px_L} (h : pk_days x9 I L x I2 L2) : I2 110 0 = I 110 0 := by
  unfold pk_days at h
  obtain ⟨rfl, h⟩ := h
  rcases h with ⟨a1, a2, a3, rfl, rfl⟩ | ⟨a1, rfl, rfl⟩
  · (repeat rw [px_u_out (by omega)])
  · rfl

theorem eb_station_41_13 { x : Int32} {I I2 : px_I} {L L2 : px_L} (h : pb_station  I L x I2 L2) : I2 41 13 = I 41 13 := by
  unfold pb_station at h
  obtain ⟨rfl, h⟩ := h
  rcases h with ⟨a1, rfl, rfl⟩ | ⟨a1, rfl, rfl⟩
  · (repeat rw [px_u_out (by omega)])
  · rfl

theorem ek_station_110_0 { x : Int32} {I I2 : px_I} {L L2 : px_L} (h : pk_station  I L x I2 L2) : I2 110 0 = I 110 0 := by
  unfold pk_station at h
  obtain ⟨rfl, h⟩ := h
  rcases h with ⟨a1, rfl, rfl⟩ | ⟨a1, rfl, rfl⟩
  · (repeat rw [px_u_out (by omega)])
  · rfl

theorem eb_sight_41_13 {a f t lo hi x : Int32} {I I2 : px_I} {L L2 : px_L} (h : pb_sight a f t lo hi I L x I2 L2) : I2 41 13 = I 41 13 := by
  unfold pb_sight at h
  obtain ⟨rfl, h⟩ := h
  rcases h with ⟨a1, rfl, rfl⟩ | ⟨a1, rfl, rfl⟩
  · (repeat rw [px_u_out (by omega)])
  · rfl

theorem ek_sight_110_0 {a f t lo hi x : Int32} {I I2 : px_I} {L L2 : px_L} (h : pk_sight a f t lo hi I L x I2 L2) : I2 110 0 = I 110 0 := by
  unfold pk_sight at h
  obtain ⟨rfl, h⟩ := h
  rcases h with ⟨a1, rfl, rfl⟩ | ⟨a1, rfl, rfl⟩
  · (repeat rw [px_u_out (by omega)])
  · rfl

theorem eb_closed_41_13 {a k x : Int32} {I I2 : px_I} {L L2 : px_L} (h : pb_closed a k I L x I2 L2) : I2 41 13 = I 41 13 := by
  unfold pb_closed at h
  obtain ⟨rfl, h⟩ := h
  rfl

theorem ek_closed_110_0 {a k x : Int32} {I I2 : px_I} {L L2 : px_L} (h : pk_closed a k I L x I2 L2) : I2 110 0 = I 110 0 := by
  unfold pk_closed at h
  exact h.1 110 0 (by omega)

theorem eb_span_41_13 {a t k h x : Int32} {I I2 : px_I} {L L2 : px_L} (h : pb_span a t k h I L x I2 L2) : I2 41 13 = I 41 13 := by
  unfold pb_span at h
  obtain ⟨rfl, h⟩ := h
  rfl

theorem ek_span_110_0 {a t k h x : Int32} {I I2 : px_I} {L L2 : px_L} (h : pk_span a t k h I L x I2 L2) : I2 110 0 = I 110 0 := by
  unfold pk_span at h
  exact h.1 110 0 (by omega)

theorem eb_gap_41_13 {a f t k h x : Int32} {I I2 : px_I} {L L2 : px_L} (h : pb_gap a f t k h I L x I2 L2) : I2 41 13 = I 41 13 := by
  unfold pb_gap at h
  obtain ⟨rfl, h⟩ := h
  rfl

theorem ek_gap_110_0 {a f t k h x : Int32} {I I2 : px_I} {L L2 : px_L} (h : pk_gap a f t k h I L x I2 L2) : I2 110 0 = I 110 0 := by
  unfold pk_gap at h
  exact h.1 110 0 (by omega)

theorem eb_blamed_41_13 {a k i x : Int32} {I I2 : px_I} {L L2 : px_L} (h : pb_blamed a k i I L x I2 L2) : I2 41 13 = I 41 13 := by
  unfold pb_blamed at h
  obtain ⟨rfl, h⟩ := h
  rfl

theorem ek_blamed_110_0 {a k i x : Int32} {I I2 : px_I} {L L2 : px_L} (h : pk_blamed a k i I L x I2 L2) : I2 110 0 = I 110 0 := by
  unfold pk_blamed at h
  exact h.1 110 0 (by omega)

theorem eb_mouth_41_13 {g st x : Int32} {I I2 : px_I} {L L2 : px_L} (h : pb_mouth g st I L x I2 L2) : I2 41 13 = I 41 13 := by
  unfold pb_mouth at h
  obtain ⟨rfl, h⟩ := h
  rcases h with ⟨G, g1, rfl⟩ | rfl
  · have gG : G = 41 ∨ G = 55 := by unfold bG at g1; omega
    (repeat rw [px_u_out (by omega)])
  · rfl

theorem ek_mouth_110_0 {g st x : Int32} {I I2 : px_I} {L L2 : px_L} (h : pk_mouth g st I L x I2 L2) : I2 110 0 = I 110 0 := by
  unfold pk_mouth at h
  obtain ⟨rfl, h⟩ := h
  rcases h with ⟨a1, a2, rfl, rfl⟩ | ⟨a1, rfl, rfl⟩
  · (repeat rw [px_u_out (by omega)])
  · rfl

theorem eb_mark_41_13 {g p f t x : Int32} {I I2 : px_I} {L L2 : px_L} (h : pb_mark g p f t I L x I2 L2) : I2 41 13 = I 41 13 := by
  unfold pb_mark at h
  obtain ⟨rfl, h⟩ := h
  rcases h with ⟨G, g1, rfl, rfl⟩ | ⟨a1, rfl, rfl⟩
  · have g2 := g1.1
    have gG : G = 41 ∨ G = 55 := by unfold bG at g2; omega
    unfold cMark; (repeat rw [px_u_out (by omega)])
  · rfl

theorem ek_mark_110_0 {g p f t x : Int32} {I I2 : px_I} {L L2 : px_L} (h : pk_mark g p f t I L x I2 L2) : I2 110 0 = I 110 0 := by
  unfold pk_mark at h
  obtain ⟨rfl, h⟩ := h
  rcases h with ⟨a1, rfl, rfl⟩ | ⟨a1, rfl, rfl⟩
  · unfold mMark; (repeat rw [px_u_out (by omega)])
  · rfl

theorem eb_when_41_13 {g p h x : Int32} {I I2 : px_I} {L L2 : px_L} (h : pb_when g p h I L x I2 L2) : I2 41 13 = I 41 13 := by
  unfold pb_when at h
  obtain ⟨rfl, h⟩ := h
  rw [h 41 (by decide) (by decide) (by decide) (by decide)]

theorem ek_when_110_0 {g p h x : Int32} {I I2 : px_I} {L L2 : px_L} (h : pk_when g p h I L x I2 L2) : I2 110 0 = I 110 0 := by
  unfold pk_when at h
  exact h.1 110 0 (by omega)

theorem eb_between_41_13 {g p q h x : Int32} {I I2 : px_I} {L L2 : px_L} (h : pb_between g p q h I L x I2 L2) : I2 41 13 = I 41 13 := by
  unfold pb_between at h
  obtain ⟨rfl, h⟩ := h
  rw [h 41 (by decide) (by decide) (by decide) (by decide)]

theorem ek_between_110_0 {g p t h x : Int32} {I I2 : px_I} {L L2 : px_L} (h : pk_between g p t h I L x I2 L2) : I2 110 0 = I 110 0 := by
  unfold pk_between at h
  exact h.1 110 0 (by omega)

theorem eb_lamps_41_13 {g p h lo hi x : Int32} {I I2 : px_I} {L L2 : px_L} (h : pb_lamps g p h lo hi I L x I2 L2) : I2 41 13 = I 41 13 := by
  unfold pb_lamps at h
  rw [h.1]

theorem ek_lamps_110_0 {g p h lo hi x : Int32} {I I2 : px_I} {L L2 : px_L} (h : pk_lamps g p h lo hi I L x I2 L2) : I2 110 0 = I 110 0 := by
  unfold pk_lamps at h
  rw [h.1]

theorem eb_count_41_13 {u lo hi x : Int32} {I I2 : px_I} {L L2 : px_L} (h : pb_count u lo hi I L x I2 L2) : I2 41 13 = I 41 13 := by
  unfold pb_count at h
  obtain ⟨rfl, h⟩ := h
  rcases h with ⟨a1, rfl, rfl⟩ | ⟨a1, rfl, rfl⟩
  · (repeat rw [px_u_out (by omega)])
  · rfl

theorem ek_count_110_0 {u lo hi x : Int32} {I I2 : px_I} {L L2 : px_L} (h : pk_count u lo hi I L x I2 L2) : I2 110 0 = I 110 0 := by
  unfold pk_count at h
  rcases h with ⟨a1, rfl, rfl, rfl⟩ | ⟨a1, rfl, rfl, rfl⟩
  · (repeat rw [px_u_out (by omega)])
  · rfl

theorem eb_unit_41_13 {h x : Int32} {I I2 : px_I} {L L2 : px_L} (h : pb_unit h I L x I2 L2) : I2 41 13 = I 41 13 := by
  unfold pb_unit at h
  rw [h.1]

theorem ek_unit_110_0 {h x : Int32} {I I2 : px_I} {L L2 : px_L} (h : pk_unit h I L x I2 L2) : I2 110 0 = I 110 0 := by
  unfold pk_unit at h
  rw [h.1]

theorem eb_feed_41_13 {a b c d e x : Int32} {I I2 : px_I} {L L2 : px_L} (h : pb_feed a b c d e I L x I2 L2) : I2 41 13 = I 41 13 := by
  unfold pb_feed at h
  obtain ⟨rfl, h⟩ := h
  rcases h with ⟨a1, rfl, rfl⟩ | ⟨a1, rfl, rfl⟩
  · rw [cApp_at _ _ 41 13 (by omega) (by omega), cApp_at _ _ 41 13 (by omega) (by omega), cApp_at _ _ 41 13 (by omega) (by omega), cApp_at _ _ 41 13 (by omega) (by omega), cApp_at _ _ 41 13 (by omega) (by omega)]
  · rfl

theorem ek_feed_110_0 {a b c d e x : Int32} {I I2 : px_I} {L L2 : px_L} (h : pk_feed a b c d e I L x I2 L2) : I2 110 0 = I 110 0 := by
  unfold pk_feed at h
  obtain ⟨rfl, h⟩ := h
  rcases h with ⟨a1, rfl, rfl⟩ | ⟨a1, rfl, rfl⟩
  · rw [mPut_o (by omega) (by omega), mPut_o (by omega) (by omega), mPut_o (by omega) (by omega), mPut_o (by omega) (by omega), mPut_o (by omega) (by omega)]
  · rfl

theorem eb_end_41_13 {x9 x : Int32} {I I2 : px_I} {L L2 : px_L} (h : pb_end x9 I L x I2 L2) : I2 41 13 = I 41 13 := by
  unfold pb_end at h
  obtain ⟨rfl, h⟩ := h
  rcases h with ⟨a1, rfl, rfl⟩ | ⟨a1, rfl, rfl⟩
  · (repeat rw [px_u_out (by omega)])
  · rfl

theorem ek_end_110_0 {x9 x : Int32} {I I2 : px_I} {L L2 : px_L} (h : pk_end x9 I L x I2 L2) : I2 110 0 = I 110 0 := by
  unfold pk_end at h
  obtain ⟨rfl, h⟩ := h
  rcases h with ⟨a1, a2, rfl, rfl⟩ | ⟨a1, rfl, rfl⟩
  · (repeat rw [px_u_out (by omega)])
  · rfl

theorem eb_way_41_13 {i x : Int32} {I I2 : px_I} {L L2 : px_L} (h : pb_way i I L x I2 L2) : I2 41 13 = I 41 13 := by
  unfold pb_way at h
  exact h.1 41 13 (by omega) (by omega) (by omega) (by omega) (by omega)

theorem ek_way_110_0 {w x : Int32} {I I2 : px_I} {L L2 : px_L} (h : pk_way w I L x I2 L2) : I2 110 0 = I 110 0 := by
  unfold pk_way at h
  obtain ⟨rfl, h⟩ := h
  rcases h with ⟨a1, a2, rfl⟩ | ⟨a1, a2, a3⟩
  · rfl
  · exact a2 110 0 (by omega) (by omega)

theorem eb_fault_41_13 {x9 x : Int32} {I I2 : px_I} {L L2 : px_L} (h : pb_fault x9 I L x I2 L2) : I2 41 13 = I 41 13 := by
  unfold pb_fault at h
  rw [h.1]

theorem ek_fault_110_0 {x9 x : Int32} {I I2 : px_I} {L L2 : px_L} (h : pk_fault x9 I L x I2 L2) : I2 110 0 = I 110 0 := by
  unfold pk_fault at h
  rw [h.1]

theorem eb_tools_41_13 {a b c d e x : Int32} {I I2 : px_I} {L L2 : px_L} (h : pb_tools a b c d e I L x I2 L2) : I2 41 13 = I 41 13 := by
  unfold pb_tools at h
  obtain ⟨rfl, h⟩ := h
  rcases h with ⟨a1, rfl, a2⟩ | ⟨a1, rfl, rfl⟩
  · rw [a2 41 (by decide)]; (repeat rw [px_u_out (by omega)])
  · rfl

theorem ek_tools_110_0 {a b c d e x : Int32} {I I2 : px_I} {L L2 : px_L} (h : pk_tools a b c d e I L x I2 L2) : I2 110 0 = I 110 0 := by
  unfold pk_tools at h
  obtain ⟨rfl, h⟩ := h
  rcases h with ⟨a1, rfl, rfl⟩ | ⟨a1, rfl, rfl⟩
  · (repeat rw [px_u_out (by omega)])
  · rfl

theorem eb_run_41_13 {w h a x : Int32} {I I2 : px_I} {L L2 : px_L} (h : pb_run w h a I L x I2 L2) : I2 41 13 = I 41 13 := by
  unfold pb_run at h
  exact h.1 41 13 (by omega) (by omega) (by omega) (by omega) (by omega) (by omega) (by omega)

theorem ek_run_110_0 {w h a x : Int32} {I I2 : px_I} {L L2 : px_L} (h : pk_run w h a I L x I2 L2) : I2 110 0 = I 110 0 := by
  unfold pk_run at h
  exact h.1 110 0 (by omega) (by omega) (by omega)

theorem eb_meeting_41_13 {a f b t x9 h x : Int32} {I I2 : px_I} {L L2 : px_L} (h : pb_meeting a f b t x9 h I L x I2 L2) : I2 41 13 = I 41 13 := by
  unfold pb_meeting at h
  exact h.1 41 13 (by omega) (by omega) (by omega) (by omega) (by omega) (by omega) (by omega)

theorem ek_meeting_110_0 {a f b t x9 h x : Int32} {I I2 : px_I} {L L2 : px_L} (h : pk_meeting a f b t x9 h I L x I2 L2) : I2 110 0 = I 110 0 := by
  unfold pk_meeting at h
  exact h.1 110 0 (by omega) (by omega) (by omega)

theorem eb_there_41_13 {a lo hi x : Int32} {I I2 : px_I} {L L2 : px_L} (h : pb_there a lo hi I L x I2 L2) : I2 41 13 = I 41 13 := by
  unfold pb_there at h
  obtain ⟨rfl, h⟩ := h
  rcases h with ⟨a1, rfl, rfl⟩ | ⟨a1, rfl, rfl⟩
  · (repeat rw [px_u_out (by omega)])
  · rfl

theorem ek_there_110_0 {a lo hi x : Int32} {I I2 : px_I} {L L2 : px_L} (h : pk_there a lo hi I L x I2 L2) : I2 110 0 = I 110 0 := by
  unfold pk_there at h
  obtain ⟨rfl, h⟩ := h
  rcases h with ⟨a1, rfl, rfl⟩ | ⟨a1, rfl, rfl⟩
  · (repeat rw [px_u_out (by omega)])
  · rfl

theorem eb_fits_41_13 {a f b t x : Int32} {I I2 : px_I} {L L2 : px_L} (h : pb_fits a f b t I L x I2 L2) : I2 41 13 = I 41 13 := by
  unfold pb_fits at h
  exact h.1 41 13 (by omega) (by omega) (by omega) (by omega) (by omega) (by omega) (by omega)

theorem ek_fits_110_0 {a f b t x : Int32} {I I2 : px_I} {L L2 : px_L} (h : pk_fits a f b t I L x I2 L2) : I2 110 0 = I 110 0 := by
  unfold pk_fits at h
  exact h.1 110 0 (by omega) (by omega) (by omega)

theorem eb_ways_41_13 {a f b t x9 x : Int32} {I I2 : px_I} {L L2 : px_L} (h : pb_ways a f b t x9 I L x I2 L2) : I2 41 13 = I 41 13 := by
  unfold pb_ways at h
  exact h.1 41 13 (by omega) (by omega) (by omega) (by omega) (by omega) (by omega) (by omega)

theorem ek_ways_110_0 {a f b t x9 x : Int32} {I I2 : px_I} {L L2 : px_L} (h : pk_ways a f b t x9 I L x I2 L2) : I2 110 0 = I 110 0 := by
  unfold pk_ways at h
  exact h.1 110 0 (by omega) (by omega) (by omega)

theorem eb_seek_41_13 {a b c d e f x : Int32} {I I2 : px_I} {L L2 : px_L} (h : pb_seek a b c d e f I L x I2 L2) : I2 41 13 = I 41 13 := by
  unfold pb_seek at h
  obtain ⟨rfl, h⟩ := h
  rcases h with ⟨a1, rfl, rfl⟩ | ⟨a1, rfl, rfl⟩
  · (repeat rw [px_u_out (by omega)])
  · rfl

theorem ek_seek_110_0 {a b c d e f x : Int32} {I I2 : px_I} {L L2 : px_L} (h : pk_seek a b c d e f I L x I2 L2) : I2 110 0 = I 110 0 := by
  unfold pk_seek at h
  obtain ⟨rfl, h⟩ := h
  rcases h with ⟨a1, rfl, rfl⟩ | ⟨a1, rfl, rfl⟩
  · (repeat rw [px_u_out (by omega)])
  · rfl

theorem eb_detour_41_13 {a o h x : Int32} {I I2 : px_I} {L L2 : px_L} (h : pb_detour a o h I L x I2 L2) : I2 41 13 = I 41 13 := by
  unfold pb_detour at h
  rw [h.1]

theorem ek_detour_110_0 {a o lo x : Int32} {I I2 : px_I} {L L2 : px_L} (h : pk_detour a o lo I L x I2 L2) : I2 110 0 = I 110 0 := by
  unfold pk_detour at h
  rw [h.1]

theorem eb_table_41_13 {c v x : Int32} {I I2 : px_I} {L L2 : px_L} (h : pb_table c v I L x I2 L2) : I2 41 13 = I 41 13 := by
  unfold pb_table at h
  obtain ⟨rfl, h⟩ := h
  rcases h with ⟨a1, rfl, rfl⟩ | ⟨a1, rfl, rfl⟩
  · (repeat rw [px_u_out (by omega)])
  · rfl

theorem ek_table_110_0 {c v x : Int32} {I I2 : px_I} {L L2 : px_L} (h : pk_table c v I L x I2 L2) : I2 110 0 = I 110 0 := by
  unfold pk_table at h
  obtain ⟨rfl, h⟩ := h
  rcases h with ⟨a1, rfl, rfl⟩ | ⟨a1, rfl, rfl⟩
  · (repeat rw [px_u_out (by omega)])
  · rfl

theorem eb_repair_41_13 {g p y x : Int32} {I I2 : px_I} {L L2 : px_L} (h : pb_repair g p y I L x I2 L2) : I2 41 13 = I 41 13 := by
  unfold pb_repair at h
  obtain ⟨rfl, h⟩ := h
  rcases h with ⟨G, g1, rfl, rfl⟩ | ⟨a1, rfl, rfl⟩
  · have g2 := g1.1
    have gG : G = 41 ∨ G = 55 := by unfold bG at g2; omega
    unfold cRep; (repeat rw [px_u_out (by omega)])
  · rfl

theorem ek_repair_110_0 {g p y x : Int32} {I I2 : px_I} {L L2 : px_L} (h : pk_repair g p y I L x I2 L2) : I2 110 0 = I 110 0 := by
  unfold pk_repair at h
  obtain ⟨rfl, h⟩ := h
  rcases h with ⟨a1, rfl, rfl⟩ | ⟨a1, rfl, rfl⟩
  · (repeat rw [px_u_out (by omega)])
  · rfl

theorem eb_lime_41_13 {v x : Int32} {I I2 : px_I} {L L2 : px_L} (h : pb_lime v I L x I2 L2) : I2 41 13 = I 41 13 := by
  unfold pb_lime at h
  obtain ⟨rfl, h⟩ := h
  rcases h with ⟨a1, rfl, rfl⟩ | ⟨a1, rfl, rfl⟩
  · (repeat rw [px_u_out (by omega)])
  · rfl

theorem ek_lime_110_0 {v x : Int32} {I I2 : px_I} {L L2 : px_L} (h : pk_lime v I L x I2 L2) : I2 110 0 = I 110 0 := by
  unfold pk_lime at h
  obtain ⟨rfl, h⟩ := h
  rcases h with ⟨a1, a2, rfl, rfl⟩ | ⟨a1, rfl, rfl⟩
  · (repeat rw [px_u_out (by omega)])
  · rfl

theorem eb_flow_41_13 {g y k h x : Int32} {I I2 : px_I} {L L2 : px_L} (h : pb_flow g y k h I L x I2 L2) : I2 41 13 = I 41 13 := by
  unfold pb_flow at h
  exact h.1 41 13 (by omega)

theorem ek_flow_110_0 {g y k h x : Int32} {I I2 : px_I} {L L2 : px_L} (h : pk_flow g y k h I L x I2 L2) : I2 110 0 = I 110 0 := by
  unfold pk_flow at h
  exact h.1 110 0 (by omega)

theorem eb_narrow_41_13 {g y k x : Int32} {I I2 : px_I} {L L2 : px_L} (h : pb_narrow g y k I L x I2 L2) : I2 41 13 = I 41 13 := by
  unfold pb_narrow at h
  exact h.1 41 13 (by omega)

theorem ek_narrow_110_0 {g y k x : Int32} {I I2 : px_I} {L L2 : px_L} (h : pk_narrow g y k I L x I2 L2) : I2 110 0 = I 110 0 := by
  unfold pk_narrow at h
  exact h.1 110 0 (by omega)

theorem eb_about_41_13 {w x : Int32} {I I2 : px_I} {L L2 : px_L} (h : pb_about w I L x I2 L2) : I2 41 13 = I 41 13 := by
  unfold pb_about at h
  rw [h.1]

theorem ek_about_110_0 {w x : Int32} {I I2 : px_I} {L L2 : px_L} (h : pk_about w I L x I2 L2) : I2 110 0 = I 110 0 := by
  unfold pk_about at h
  rw [h.1]

theorem eb_days_55_13 {x9 x : Int32} {I I2 : px_I} {L L2 : px_L} (h : pb_days x9 I L x I2 L2) : I2 55 13 = I 55 13 := by
  unfold pb_days at h
  obtain ⟨rfl, h⟩ := h
  rcases h with ⟨a1, a2, rfl, rfl⟩ | ⟨a1, rfl, rfl⟩
  · (repeat rw [px_u_out (by omega)])
  · rfl

theorem ek_days_110_1 {x9 x : Int32} {I I2 : px_I} {L L2 : px_L} (h : pk_days x9 I L x I2 L2) : I2 110 1 = I 110 1 := by
  unfold pk_days at h
  obtain ⟨rfl, h⟩ := h
  rcases h with ⟨a1, a2, a3, rfl, rfl⟩ | ⟨a1, rfl, rfl⟩
  · (repeat rw [px_u_out (by omega)])
  · rfl

theorem eb_station_55_13 { x : Int32} {I I2 : px_I} {L L2 : px_L} (h : pb_station  I L x I2 L2) : I2 55 13 = I 55 13 := by
  unfold pb_station at h
  obtain ⟨rfl, h⟩ := h
  rcases h with ⟨a1, rfl, rfl⟩ | ⟨a1, rfl, rfl⟩
  · (repeat rw [px_u_out (by omega)])
  · rfl

theorem ek_station_110_1 { x : Int32} {I I2 : px_I} {L L2 : px_L} (h : pk_station  I L x I2 L2) : I2 110 1 = I 110 1 := by
  unfold pk_station at h
  obtain ⟨rfl, h⟩ := h
  rcases h with ⟨a1, rfl, rfl⟩ | ⟨a1, rfl, rfl⟩
  · (repeat rw [px_u_out (by omega)])
  · rfl

theorem eb_sight_55_13 {a f t lo hi x : Int32} {I I2 : px_I} {L L2 : px_L} (h : pb_sight a f t lo hi I L x I2 L2) : I2 55 13 = I 55 13 := by
  unfold pb_sight at h
  obtain ⟨rfl, h⟩ := h
  rcases h with ⟨a1, rfl, rfl⟩ | ⟨a1, rfl, rfl⟩
  · (repeat rw [px_u_out (by omega)])
  · rfl

theorem ek_sight_110_1 {a f t lo hi x : Int32} {I I2 : px_I} {L L2 : px_L} (h : pk_sight a f t lo hi I L x I2 L2) : I2 110 1 = I 110 1 := by
  unfold pk_sight at h
  obtain ⟨rfl, h⟩ := h
  rcases h with ⟨a1, rfl, rfl⟩ | ⟨a1, rfl, rfl⟩
  · (repeat rw [px_u_out (by omega)])
  · rfl

theorem eb_closed_55_13 {a k x : Int32} {I I2 : px_I} {L L2 : px_L} (h : pb_closed a k I L x I2 L2) : I2 55 13 = I 55 13 := by
  unfold pb_closed at h
  obtain ⟨rfl, h⟩ := h
  rfl

theorem ek_closed_110_1 {a k x : Int32} {I I2 : px_I} {L L2 : px_L} (h : pk_closed a k I L x I2 L2) : I2 110 1 = I 110 1 := by
  unfold pk_closed at h
  exact h.1 110 1 (by omega)

theorem eb_span_55_13 {a t k h x : Int32} {I I2 : px_I} {L L2 : px_L} (h : pb_span a t k h I L x I2 L2) : I2 55 13 = I 55 13 := by
  unfold pb_span at h
  obtain ⟨rfl, h⟩ := h
  rfl

theorem ek_span_110_1 {a t k h x : Int32} {I I2 : px_I} {L L2 : px_L} (h : pk_span a t k h I L x I2 L2) : I2 110 1 = I 110 1 := by
  unfold pk_span at h
  exact h.1 110 1 (by omega)

theorem eb_gap_55_13 {a f t k h x : Int32} {I I2 : px_I} {L L2 : px_L} (h : pb_gap a f t k h I L x I2 L2) : I2 55 13 = I 55 13 := by
  unfold pb_gap at h
  obtain ⟨rfl, h⟩ := h
  rfl

theorem ek_gap_110_1 {a f t k h x : Int32} {I I2 : px_I} {L L2 : px_L} (h : pk_gap a f t k h I L x I2 L2) : I2 110 1 = I 110 1 := by
  unfold pk_gap at h
  exact h.1 110 1 (by omega)

theorem eb_blamed_55_13 {a k i x : Int32} {I I2 : px_I} {L L2 : px_L} (h : pb_blamed a k i I L x I2 L2) : I2 55 13 = I 55 13 := by
  unfold pb_blamed at h
  obtain ⟨rfl, h⟩ := h
  rfl

theorem ek_blamed_110_1 {a k i x : Int32} {I I2 : px_I} {L L2 : px_L} (h : pk_blamed a k i I L x I2 L2) : I2 110 1 = I 110 1 := by
  unfold pk_blamed at h
  exact h.1 110 1 (by omega)

theorem eb_mouth_55_13 {g st x : Int32} {I I2 : px_I} {L L2 : px_L} (h : pb_mouth g st I L x I2 L2) : I2 55 13 = I 55 13 := by
  unfold pb_mouth at h
  obtain ⟨rfl, h⟩ := h
  rcases h with ⟨G, g1, rfl⟩ | rfl
  · have gG : G = 41 ∨ G = 55 := by unfold bG at g1; omega
    (repeat rw [px_u_out (by omega)])
  · rfl

theorem ek_mouth_110_1 {g st x : Int32} {I I2 : px_I} {L L2 : px_L} (h : pk_mouth g st I L x I2 L2) : I2 110 1 = I 110 1 := by
  unfold pk_mouth at h
  obtain ⟨rfl, h⟩ := h
  rcases h with ⟨a1, a2, rfl, rfl⟩ | ⟨a1, rfl, rfl⟩
  · (repeat rw [px_u_out (by omega)])
  · rfl

theorem eb_mark_55_13 {g p f t x : Int32} {I I2 : px_I} {L L2 : px_L} (h : pb_mark g p f t I L x I2 L2) : I2 55 13 = I 55 13 := by
  unfold pb_mark at h
  obtain ⟨rfl, h⟩ := h
  rcases h with ⟨G, g1, rfl, rfl⟩ | ⟨a1, rfl, rfl⟩
  · have g2 := g1.1
    have gG : G = 41 ∨ G = 55 := by unfold bG at g2; omega
    unfold cMark; (repeat rw [px_u_out (by omega)])
  · rfl

theorem ek_mark_110_1 {g p f t x : Int32} {I I2 : px_I} {L L2 : px_L} (h : pk_mark g p f t I L x I2 L2) : I2 110 1 = I 110 1 := by
  unfold pk_mark at h
  obtain ⟨rfl, h⟩ := h
  rcases h with ⟨a1, rfl, rfl⟩ | ⟨a1, rfl, rfl⟩
  · unfold mMark; (repeat rw [px_u_out (by omega)])
  · rfl

theorem eb_when_55_13 {g p h x : Int32} {I I2 : px_I} {L L2 : px_L} (h : pb_when g p h I L x I2 L2) : I2 55 13 = I 55 13 := by
  unfold pb_when at h
  obtain ⟨rfl, h⟩ := h
  rw [h 55 (by decide) (by decide) (by decide) (by decide)]

theorem ek_when_110_1 {g p h x : Int32} {I I2 : px_I} {L L2 : px_L} (h : pk_when g p h I L x I2 L2) : I2 110 1 = I 110 1 := by
  unfold pk_when at h
  exact h.1 110 1 (by omega)

theorem eb_between_55_13 {g p q h x : Int32} {I I2 : px_I} {L L2 : px_L} (h : pb_between g p q h I L x I2 L2) : I2 55 13 = I 55 13 := by
  unfold pb_between at h
  obtain ⟨rfl, h⟩ := h
  rw [h 55 (by decide) (by decide) (by decide) (by decide)]

theorem ek_between_110_1 {g p t h x : Int32} {I I2 : px_I} {L L2 : px_L} (h : pk_between g p t h I L x I2 L2) : I2 110 1 = I 110 1 := by
  unfold pk_between at h
  exact h.1 110 1 (by omega)

theorem eb_lamps_55_13 {g p h lo hi x : Int32} {I I2 : px_I} {L L2 : px_L} (h : pb_lamps g p h lo hi I L x I2 L2) : I2 55 13 = I 55 13 := by
  unfold pb_lamps at h
  rw [h.1]

theorem ek_lamps_110_1 {g p h lo hi x : Int32} {I I2 : px_I} {L L2 : px_L} (h : pk_lamps g p h lo hi I L x I2 L2) : I2 110 1 = I 110 1 := by
  unfold pk_lamps at h
  rw [h.1]

theorem eb_count_55_13 {u lo hi x : Int32} {I I2 : px_I} {L L2 : px_L} (h : pb_count u lo hi I L x I2 L2) : I2 55 13 = I 55 13 := by
  unfold pb_count at h
  obtain ⟨rfl, h⟩ := h
  rcases h with ⟨a1, rfl, rfl⟩ | ⟨a1, rfl, rfl⟩
  · (repeat rw [px_u_out (by omega)])
  · rfl

theorem ek_count_110_1 {u lo hi x : Int32} {I I2 : px_I} {L L2 : px_L} (h : pk_count u lo hi I L x I2 L2) : I2 110 1 = I 110 1 := by
  unfold pk_count at h
  rcases h with ⟨a1, rfl, rfl, rfl⟩ | ⟨a1, rfl, rfl, rfl⟩
  · (repeat rw [px_u_out (by omega)])
  · rfl

theorem eb_unit_55_13 {h x : Int32} {I I2 : px_I} {L L2 : px_L} (h : pb_unit h I L x I2 L2) : I2 55 13 = I 55 13 := by
  unfold pb_unit at h
  rw [h.1]

theorem ek_unit_110_1 {h x : Int32} {I I2 : px_I} {L L2 : px_L} (h : pk_unit h I L x I2 L2) : I2 110 1 = I 110 1 := by
  unfold pk_unit at h
  rw [h.1]

theorem eb_feed_55_13 {a b c d e x : Int32} {I I2 : px_I} {L L2 : px_L} (h : pb_feed a b c d e I L x I2 L2) : I2 55 13 = I 55 13 := by
  unfold pb_feed at h
  obtain ⟨rfl, h⟩ := h
  rcases h with ⟨a1, rfl, rfl⟩ | ⟨a1, rfl, rfl⟩
  · rw [cApp_at _ _ 55 13 (by omega) (by omega), cApp_at _ _ 55 13 (by omega) (by omega), cApp_at _ _ 55 13 (by omega) (by omega), cApp_at _ _ 55 13 (by omega) (by omega), cApp_at _ _ 55 13 (by omega) (by omega)]
  · rfl

theorem ek_feed_110_1 {a b c d e x : Int32} {I I2 : px_I} {L L2 : px_L} (h : pk_feed a b c d e I L x I2 L2) : I2 110 1 = I 110 1 := by
  unfold pk_feed at h
  obtain ⟨rfl, h⟩ := h
  rcases h with ⟨a1, rfl, rfl⟩ | ⟨a1, rfl, rfl⟩
  · rw [mPut_o (by omega) (by omega), mPut_o (by omega) (by omega), mPut_o (by omega) (by omega), mPut_o (by omega) (by omega), mPut_o (by omega) (by omega)]
  · rfl

theorem eb_end_55_13 {x9 x : Int32} {I I2 : px_I} {L L2 : px_L} (h : pb_end x9 I L x I2 L2) : I2 55 13 = I 55 13 := by
  unfold pb_end at h
  obtain ⟨rfl, h⟩ := h
  rcases h with ⟨a1, rfl, rfl⟩ | ⟨a1, rfl, rfl⟩
  · (repeat rw [px_u_out (by omega)])
  · rfl

theorem ek_end_110_1 {x9 x : Int32} {I I2 : px_I} {L L2 : px_L} (h : pk_end x9 I L x I2 L2) : I2 110 1 = I 110 1 := by
  unfold pk_end at h
  obtain ⟨rfl, h⟩ := h
  rcases h with ⟨a1, a2, rfl, rfl⟩ | ⟨a1, rfl, rfl⟩
  · (repeat rw [px_u_out (by omega)])
  · rfl

theorem eb_way_55_13 {i x : Int32} {I I2 : px_I} {L L2 : px_L} (h : pb_way i I L x I2 L2) : I2 55 13 = I 55 13 := by
  unfold pb_way at h
  exact h.1 55 13 (by omega) (by omega) (by omega) (by omega) (by omega)

theorem ek_way_110_1 {w x : Int32} {I I2 : px_I} {L L2 : px_L} (h : pk_way w I L x I2 L2) : I2 110 1 = I 110 1 := by
  unfold pk_way at h
  obtain ⟨rfl, h⟩ := h
  rcases h with ⟨a1, a2, rfl⟩ | ⟨a1, a2, a3⟩
  · rfl
  · exact a2 110 1 (by omega) (by omega)

theorem eb_fault_55_13 {x9 x : Int32} {I I2 : px_I} {L L2 : px_L} (h : pb_fault x9 I L x I2 L2) : I2 55 13 = I 55 13 := by
  unfold pb_fault at h
  rw [h.1]

theorem ek_fault_110_1 {x9 x : Int32} {I I2 : px_I} {L L2 : px_L} (h : pk_fault x9 I L x I2 L2) : I2 110 1 = I 110 1 := by
  unfold pk_fault at h
  rw [h.1]

theorem eb_tools_55_13 {a b c d e x : Int32} {I I2 : px_I} {L L2 : px_L} (h : pb_tools a b c d e I L x I2 L2) : I2 55 13 = I 55 13 := by
  unfold pb_tools at h
  obtain ⟨rfl, h⟩ := h
  rcases h with ⟨a1, rfl, a2⟩ | ⟨a1, rfl, rfl⟩
  · rw [a2 55 (by decide)]; (repeat rw [px_u_out (by omega)])
  · rfl

theorem ek_tools_110_1 {a b c d e x : Int32} {I I2 : px_I} {L L2 : px_L} (h : pk_tools a b c d e I L x I2 L2) : I2 110 1 = I 110 1 := by
  unfold pk_tools at h
  obtain ⟨rfl, h⟩ := h
  rcases h with ⟨a1, rfl, rfl⟩ | ⟨a1, rfl, rfl⟩
  · (repeat rw [px_u_out (by omega)])
  · rfl

theorem eb_run_55_13 {w h a x : Int32} {I I2 : px_I} {L L2 : px_L} (h : pb_run w h a I L x I2 L2) : I2 55 13 = I 55 13 := by
  unfold pb_run at h
  exact h.1 55 13 (by omega) (by omega) (by omega) (by omega) (by omega) (by omega) (by omega)

theorem ek_run_110_1 {w h a x : Int32} {I I2 : px_I} {L L2 : px_L} (h : pk_run w h a I L x I2 L2) : I2 110 1 = I 110 1 := by
  unfold pk_run at h
  exact h.1 110 1 (by omega) (by omega) (by omega)

theorem eb_meeting_55_13 {a f b t x9 h x : Int32} {I I2 : px_I} {L L2 : px_L} (h : pb_meeting a f b t x9 h I L x I2 L2) : I2 55 13 = I 55 13 := by
  unfold pb_meeting at h
  exact h.1 55 13 (by omega) (by omega) (by omega) (by omega) (by omega) (by omega) (by omega)

theorem ek_meeting_110_1 {a f b t x9 h x : Int32} {I I2 : px_I} {L L2 : px_L} (h : pk_meeting a f b t x9 h I L x I2 L2) : I2 110 1 = I 110 1 := by
  unfold pk_meeting at h
  exact h.1 110 1 (by omega) (by omega) (by omega)

theorem eb_there_55_13 {a lo hi x : Int32} {I I2 : px_I} {L L2 : px_L} (h : pb_there a lo hi I L x I2 L2) : I2 55 13 = I 55 13 := by
  unfold pb_there at h
  obtain ⟨rfl, h⟩ := h
  rcases h with ⟨a1, rfl, rfl⟩ | ⟨a1, rfl, rfl⟩
  · (repeat rw [px_u_out (by omega)])
  · rfl

theorem ek_there_110_1 {a lo hi x : Int32} {I I2 : px_I} {L L2 : px_L} (h : pk_there a lo hi I L x I2 L2) : I2 110 1 = I 110 1 := by
  unfold pk_there at h
  obtain ⟨rfl, h⟩ := h
  rcases h with ⟨a1, rfl, rfl⟩ | ⟨a1, rfl, rfl⟩
  · (repeat rw [px_u_out (by omega)])
  · rfl

theorem eb_fits_55_13 {a f b t x : Int32} {I I2 : px_I} {L L2 : px_L} (h : pb_fits a f b t I L x I2 L2) : I2 55 13 = I 55 13 := by
  unfold pb_fits at h
  exact h.1 55 13 (by omega) (by omega) (by omega) (by omega) (by omega) (by omega) (by omega)

theorem ek_fits_110_1 {a f b t x : Int32} {I I2 : px_I} {L L2 : px_L} (h : pk_fits a f b t I L x I2 L2) : I2 110 1 = I 110 1 := by
  unfold pk_fits at h
  exact h.1 110 1 (by omega) (by omega) (by omega)

theorem eb_ways_55_13 {a f b t x9 x : Int32} {I I2 : px_I} {L L2 : px_L} (h : pb_ways a f b t x9 I L x I2 L2) : I2 55 13 = I 55 13 := by
  unfold pb_ways at h
  exact h.1 55 13 (by omega) (by omega) (by omega) (by omega) (by omega) (by omega) (by omega)

theorem ek_ways_110_1 {a f b t x9 x : Int32} {I I2 : px_I} {L L2 : px_L} (h : pk_ways a f b t x9 I L x I2 L2) : I2 110 1 = I 110 1 := by
  unfold pk_ways at h
  exact h.1 110 1 (by omega) (by omega) (by omega)

theorem eb_seek_55_13 {a b c d e f x : Int32} {I I2 : px_I} {L L2 : px_L} (h : pb_seek a b c d e f I L x I2 L2) : I2 55 13 = I 55 13 := by
  unfold pb_seek at h
  obtain ⟨rfl, h⟩ := h
  rcases h with ⟨a1, rfl, rfl⟩ | ⟨a1, rfl, rfl⟩
  · (repeat rw [px_u_out (by omega)])
  · rfl

theorem ek_seek_110_1 {a b c d e f x : Int32} {I I2 : px_I} {L L2 : px_L} (h : pk_seek a b c d e f I L x I2 L2) : I2 110 1 = I 110 1 := by
  unfold pk_seek at h
  obtain ⟨rfl, h⟩ := h
  rcases h with ⟨a1, rfl, rfl⟩ | ⟨a1, rfl, rfl⟩
  · (repeat rw [px_u_out (by omega)])
  · rfl

theorem eb_detour_55_13 {a o h x : Int32} {I I2 : px_I} {L L2 : px_L} (h : pb_detour a o h I L x I2 L2) : I2 55 13 = I 55 13 := by
  unfold pb_detour at h
  rw [h.1]

theorem ek_detour_110_1 {a o lo x : Int32} {I I2 : px_I} {L L2 : px_L} (h : pk_detour a o lo I L x I2 L2) : I2 110 1 = I 110 1 := by
  unfold pk_detour at h
  rw [h.1]

theorem eb_table_55_13 {c v x : Int32} {I I2 : px_I} {L L2 : px_L} (h : pb_table c v I L x I2 L2) : I2 55 13 = I 55 13 := by
  unfold pb_table at h
  obtain ⟨rfl, h⟩ := h
  rcases h with ⟨a1, rfl, rfl⟩ | ⟨a1, rfl, rfl⟩
  · (repeat rw [px_u_out (by omega)])
  · rfl

theorem ek_table_110_1 {c v x : Int32} {I I2 : px_I} {L L2 : px_L} (h : pk_table c v I L x I2 L2) : I2 110 1 = I 110 1 := by
  unfold pk_table at h
  obtain ⟨rfl, h⟩ := h
  rcases h with ⟨a1, rfl, rfl⟩ | ⟨a1, rfl, rfl⟩
  · (repeat rw [px_u_out (by omega)])
  · rfl

theorem eb_repair_55_13 {g p y x : Int32} {I I2 : px_I} {L L2 : px_L} (h : pb_repair g p y I L x I2 L2) : I2 55 13 = I 55 13 := by
  unfold pb_repair at h
  obtain ⟨rfl, h⟩ := h
  rcases h with ⟨G, g1, rfl, rfl⟩ | ⟨a1, rfl, rfl⟩
  · have g2 := g1.1
    have gG : G = 41 ∨ G = 55 := by unfold bG at g2; omega
    unfold cRep; (repeat rw [px_u_out (by omega)])
  · rfl

theorem ek_repair_110_1 {g p y x : Int32} {I I2 : px_I} {L L2 : px_L} (h : pk_repair g p y I L x I2 L2) : I2 110 1 = I 110 1 := by
  unfold pk_repair at h
  obtain ⟨rfl, h⟩ := h
  rcases h with ⟨a1, rfl, rfl⟩ | ⟨a1, rfl, rfl⟩
  · (repeat rw [px_u_out (by omega)])
  · rfl

theorem eb_lime_55_13 {v x : Int32} {I I2 : px_I} {L L2 : px_L} (h : pb_lime v I L x I2 L2) : I2 55 13 = I 55 13 := by
  unfold pb_lime at h
  obtain ⟨rfl, h⟩ := h
  rcases h with ⟨a1, rfl, rfl⟩ | ⟨a1, rfl, rfl⟩
  · (repeat rw [px_u_out (by omega)])
  · rfl

theorem ek_lime_110_1 {v x : Int32} {I I2 : px_I} {L L2 : px_L} (h : pk_lime v I L x I2 L2) : I2 110 1 = I 110 1 := by
  unfold pk_lime at h
  obtain ⟨rfl, h⟩ := h
  rcases h with ⟨a1, a2, rfl, rfl⟩ | ⟨a1, rfl, rfl⟩
  · (repeat rw [px_u_out (by omega)])
  · rfl

theorem eb_flow_55_13 {g y k h x : Int32} {I I2 : px_I} {L L2 : px_L} (h : pb_flow g y k h I L x I2 L2) : I2 55 13 = I 55 13 := by
  unfold pb_flow at h
  exact h.1 55 13 (by omega)

theorem ek_flow_110_1 {g y k h x : Int32} {I I2 : px_I} {L L2 : px_L} (h : pk_flow g y k h I L x I2 L2) : I2 110 1 = I 110 1 := by
  unfold pk_flow at h
  exact h.1 110 1 (by omega)

theorem eb_narrow_55_13 {g y k x : Int32} {I I2 : px_I} {L L2 : px_L} (h : pb_narrow g y k I L x I2 L2) : I2 55 13 = I 55 13 := by
  unfold pb_narrow at h
  exact h.1 55 13 (by omega)

theorem ek_narrow_110_1 {g y k x : Int32} {I I2 : px_I} {L L2 : px_L} (h : pk_narrow g y k I L x I2 L2) : I2 110 1 = I 110 1 := by
  unfold pk_narrow at h
  exact h.1 110 1 (by omega)

theorem eb_about_55_13 {w x : Int32} {I I2 : px_I} {L L2 : px_L} (h : pb_about w I L x I2 L2) : I2 55 13 = I 55 13 := by
  unfold pb_about at h
  rw [h.1]

theorem ek_about_110_1 {w x : Int32} {I I2 : px_I} {L L2 : px_L} (h : pk_about w I L x I2 L2) : I2 110 1 = I 110 1 := by
  unfold pk_about at h
  rw [h.1]

theorem eb_days_41_15 {x9 x : Int32} {I I2 : px_I} {L L2 : px_L} (h : pb_days x9 I L x I2 L2) : I2 41 15 = I 41 15 := by
  unfold pb_days at h
  obtain ⟨rfl, h⟩ := h
  rcases h with ⟨a1, a2, rfl, rfl⟩ | ⟨a1, rfl, rfl⟩
  · (repeat rw [px_u_out (by omega)])
  · rfl

theorem eb_days_55_15 {x9 x : Int32} {I I2 : px_I} {L L2 : px_L} (h : pb_days x9 I L x I2 L2) : I2 55 15 = I 55 15 := by
  unfold pb_days at h
  obtain ⟨rfl, h⟩ := h
  rcases h with ⟨a1, a2, rfl, rfl⟩ | ⟨a1, rfl, rfl⟩
  · (repeat rw [px_u_out (by omega)])
  · rfl

theorem ek_days_103_63 {x9 x : Int32} {I I2 : px_I} {L L2 : px_L} (h : pk_days x9 I L x I2 L2) : I2 103 63 = I 103 63 := by
  unfold pk_days at h
  obtain ⟨rfl, h⟩ := h
  rcases h with ⟨a1, a2, a3, rfl, rfl⟩ | ⟨a1, rfl, rfl⟩
  · (repeat rw [px_u_out (by omega)])
  · rfl

theorem eb_station_41_15 { x : Int32} {I I2 : px_I} {L L2 : px_L} (h : pb_station  I L x I2 L2) : I2 41 15 = I 41 15 := by
  unfold pb_station at h
  obtain ⟨rfl, h⟩ := h
  rcases h with ⟨a1, rfl, rfl⟩ | ⟨a1, rfl, rfl⟩
  · (repeat rw [px_u_out (by omega)])
  · rfl

theorem eb_station_55_15 { x : Int32} {I I2 : px_I} {L L2 : px_L} (h : pb_station  I L x I2 L2) : I2 55 15 = I 55 15 := by
  unfold pb_station at h
  obtain ⟨rfl, h⟩ := h
  rcases h with ⟨a1, rfl, rfl⟩ | ⟨a1, rfl, rfl⟩
  · (repeat rw [px_u_out (by omega)])
  · rfl

theorem ek_station_103_63 { x : Int32} {I I2 : px_I} {L L2 : px_L} (h : pk_station  I L x I2 L2) : I2 103 63 = I 103 63 := by
  unfold pk_station at h
  obtain ⟨rfl, h⟩ := h
  rcases h with ⟨a1, rfl, rfl⟩ | ⟨a1, rfl, rfl⟩
  · (repeat rw [px_u_out (by omega)])
  · rfl

theorem eb_sight_41_15 {a f t lo hi x : Int32} {I I2 : px_I} {L L2 : px_L} (h : pb_sight a f t lo hi I L x I2 L2) : I2 41 15 = I 41 15 := by
  unfold pb_sight at h
  obtain ⟨rfl, h⟩ := h
  rcases h with ⟨a1, rfl, rfl⟩ | ⟨a1, rfl, rfl⟩
  · (repeat rw [px_u_out (by omega)])
  · rfl

theorem eb_sight_55_15 {a f t lo hi x : Int32} {I I2 : px_I} {L L2 : px_L} (h : pb_sight a f t lo hi I L x I2 L2) : I2 55 15 = I 55 15 := by
  unfold pb_sight at h
  obtain ⟨rfl, h⟩ := h
  rcases h with ⟨a1, rfl, rfl⟩ | ⟨a1, rfl, rfl⟩
  · (repeat rw [px_u_out (by omega)])
  · rfl

theorem ek_sight_103_63 {a f t lo hi x : Int32} {I I2 : px_I} {L L2 : px_L} (h : pk_sight a f t lo hi I L x I2 L2) : I2 103 63 = I 103 63 := by
  unfold pk_sight at h
  obtain ⟨rfl, h⟩ := h
  rcases h with ⟨a1, rfl, rfl⟩ | ⟨a1, rfl, rfl⟩
  · (repeat rw [px_u_out (by omega)])
  · rfl

theorem eb_closed_41_15 {a k x : Int32} {I I2 : px_I} {L L2 : px_L} (h : pb_closed a k I L x I2 L2) : I2 41 15 = I 41 15 := by
  unfold pb_closed at h
  obtain ⟨rfl, h⟩ := h
  rfl

theorem eb_closed_55_15 {a k x : Int32} {I I2 : px_I} {L L2 : px_L} (h : pb_closed a k I L x I2 L2) : I2 55 15 = I 55 15 := by
  unfold pb_closed at h
  obtain ⟨rfl, h⟩ := h
  rfl

theorem ek_closed_103_63 {a k x : Int32} {I I2 : px_I} {L L2 : px_L} (h : pk_closed a k I L x I2 L2) : I2 103 63 = I 103 63 := by
  unfold pk_closed at h
  exact h.1 103 63 (by omega)

theorem eb_span_41_15 {a t k h x : Int32} {I I2 : px_I} {L L2 : px_L} (h : pb_span a t k h I L x I2 L2) : I2 41 15 = I 41 15 := by
  unfold pb_span at h
  obtain ⟨rfl, h⟩ := h
  rfl

theorem eb_span_55_15 {a t k h x : Int32} {I I2 : px_I} {L L2 : px_L} (h : pb_span a t k h I L x I2 L2) : I2 55 15 = I 55 15 := by
  unfold pb_span at h
  obtain ⟨rfl, h⟩ := h
  rfl

theorem ek_span_103_63 {a t k h x : Int32} {I I2 : px_I} {L L2 : px_L} (h : pk_span a t k h I L x I2 L2) : I2 103 63 = I 103 63 := by
  unfold pk_span at h
  exact h.1 103 63 (by omega)

theorem eb_gap_41_15 {a f t k h x : Int32} {I I2 : px_I} {L L2 : px_L} (h : pb_gap a f t k h I L x I2 L2) : I2 41 15 = I 41 15 := by
  unfold pb_gap at h
  obtain ⟨rfl, h⟩ := h
  rfl

theorem eb_gap_55_15 {a f t k h x : Int32} {I I2 : px_I} {L L2 : px_L} (h : pb_gap a f t k h I L x I2 L2) : I2 55 15 = I 55 15 := by
  unfold pb_gap at h
  obtain ⟨rfl, h⟩ := h
  rfl

theorem ek_gap_103_63 {a f t k h x : Int32} {I I2 : px_I} {L L2 : px_L} (h : pk_gap a f t k h I L x I2 L2) : I2 103 63 = I 103 63 := by
  unfold pk_gap at h
  exact h.1 103 63 (by omega)

theorem eb_blamed_41_15 {a k i x : Int32} {I I2 : px_I} {L L2 : px_L} (h : pb_blamed a k i I L x I2 L2) : I2 41 15 = I 41 15 := by
  unfold pb_blamed at h
  obtain ⟨rfl, h⟩ := h
  rfl

theorem eb_blamed_55_15 {a k i x : Int32} {I I2 : px_I} {L L2 : px_L} (h : pb_blamed a k i I L x I2 L2) : I2 55 15 = I 55 15 := by
  unfold pb_blamed at h
  obtain ⟨rfl, h⟩ := h
  rfl

theorem ek_blamed_103_63 {a k i x : Int32} {I I2 : px_I} {L L2 : px_L} (h : pk_blamed a k i I L x I2 L2) : I2 103 63 = I 103 63 := by
  unfold pk_blamed at h
  exact h.1 103 63 (by omega)

theorem eb_reach_41_15 {g lo hi sl fa w st x : Int32} {I I2 : px_I} {L L2 : px_L} (h : pb_reach g lo hi sl fa w st I L x I2 L2) : I2 41 15 = I 41 15 := by
  unfold pb_reach at h
  obtain ⟨rfl, h⟩ := h
  rcases h with ⟨G, ⟨g1, g2, g3⟩, rfl, rfl⟩ | ⟨a1, rfl, rfl⟩
  · have gG : G = 41 ∨ G = 55 := by unfold bG at g1; omega
    rcases gG with rfl | rfl
    · rw [cReach_f (G := 41) (by omega)]
    · rw [cReach_o (G := 55) (by omega)]
  · rfl

theorem eb_reach_55_15 {g lo hi sl fa w st x : Int32} {I I2 : px_I} {L L2 : px_L} (h : pb_reach g lo hi sl fa w st I L x I2 L2) : I2 55 15 = I 55 15 := by
  unfold pb_reach at h
  obtain ⟨rfl, h⟩ := h
  rcases h with ⟨G, ⟨g1, g2, g3⟩, rfl, rfl⟩ | ⟨a1, rfl, rfl⟩
  · have gG : G = 41 ∨ G = 55 := by unfold bG at g1; omega
    rcases gG with rfl | rfl
    · rw [cReach_o (G := 41) (by omega)]
    · rw [cReach_f (G := 55) (by omega)]
  · rfl

theorem ek_reach_103_63 {g lo hi sl fa w st x : Int32} {I I2 : px_I} {L L2 : px_L} (h : pk_reach g lo hi sl fa w st I L x I2 L2) : I2 103 63 = I 103 63 := by
  unfold pk_reach at h
  obtain ⟨rfl, h⟩ := h
  rcases h with ⟨a1, rfl, rfl⟩ | ⟨a1, rfl, rfl⟩
  · unfold mReach; (repeat rw [px_u_out (by omega)])
  · rfl

theorem eb_mouth_41_15 {g st x : Int32} {I I2 : px_I} {L L2 : px_L} (h : pb_mouth g st I L x I2 L2) : I2 41 15 = I 41 15 := by
  unfold pb_mouth at h
  obtain ⟨rfl, h⟩ := h
  rcases h with ⟨G, g1, rfl⟩ | rfl
  · have gG : G = 41 ∨ G = 55 := by unfold bG at g1; omega
    (repeat rw [px_u_out (by omega)])
  · rfl

theorem eb_mouth_55_15 {g st x : Int32} {I I2 : px_I} {L L2 : px_L} (h : pb_mouth g st I L x I2 L2) : I2 55 15 = I 55 15 := by
  unfold pb_mouth at h
  obtain ⟨rfl, h⟩ := h
  rcases h with ⟨G, g1, rfl⟩ | rfl
  · have gG : G = 41 ∨ G = 55 := by unfold bG at g1; omega
    (repeat rw [px_u_out (by omega)])
  · rfl

theorem ek_mouth_103_63 {g st x : Int32} {I I2 : px_I} {L L2 : px_L} (h : pk_mouth g st I L x I2 L2) : I2 103 63 = I 103 63 := by
  unfold pk_mouth at h
  obtain ⟨rfl, h⟩ := h
  rcases h with ⟨a1, a2, rfl, rfl⟩ | ⟨a1, rfl, rfl⟩
  · (repeat rw [px_u_out (by omega)])
  · rfl

theorem eb_mark_41_15 {g p f t x : Int32} {I I2 : px_I} {L L2 : px_L} (h : pb_mark g p f t I L x I2 L2) : I2 41 15 = I 41 15 := by
  unfold pb_mark at h
  obtain ⟨rfl, h⟩ := h
  rcases h with ⟨G, g1, rfl, rfl⟩ | ⟨a1, rfl, rfl⟩
  · have g2 := g1.1
    have gG : G = 41 ∨ G = 55 := by unfold bG at g2; omega
    unfold cMark; (repeat rw [px_u_out (by omega)])
  · rfl

theorem eb_mark_55_15 {g p f t x : Int32} {I I2 : px_I} {L L2 : px_L} (h : pb_mark g p f t I L x I2 L2) : I2 55 15 = I 55 15 := by
  unfold pb_mark at h
  obtain ⟨rfl, h⟩ := h
  rcases h with ⟨G, g1, rfl, rfl⟩ | ⟨a1, rfl, rfl⟩
  · have g2 := g1.1
    have gG : G = 41 ∨ G = 55 := by unfold bG at g2; omega
    unfold cMark; (repeat rw [px_u_out (by omega)])
  · rfl

theorem ek_mark_103_63 {g p f t x : Int32} {I I2 : px_I} {L L2 : px_L} (h : pk_mark g p f t I L x I2 L2) : I2 103 63 = I 103 63 := by
  unfold pk_mark at h
  obtain ⟨rfl, h⟩ := h
  rcases h with ⟨a1, rfl, rfl⟩ | ⟨a1, rfl, rfl⟩
  · unfold mMark; (repeat rw [px_u_out (by omega)])
  · rfl

theorem eb_when_41_15 {g p h x : Int32} {I I2 : px_I} {L L2 : px_L} (h : pb_when g p h I L x I2 L2) : I2 41 15 = I 41 15 := by
  unfold pb_when at h
  obtain ⟨rfl, h⟩ := h
  rw [h 41 (by decide) (by decide) (by decide) (by decide)]

theorem eb_when_55_15 {g p h x : Int32} {I I2 : px_I} {L L2 : px_L} (h : pb_when g p h I L x I2 L2) : I2 55 15 = I 55 15 := by
  unfold pb_when at h
  obtain ⟨rfl, h⟩ := h
  rw [h 55 (by decide) (by decide) (by decide) (by decide)]

theorem ek_when_103_63 {g p h x : Int32} {I I2 : px_I} {L L2 : px_L} (h : pk_when g p h I L x I2 L2) : I2 103 63 = I 103 63 := by
  unfold pk_when at h
  exact h.1 103 63 (by omega)

theorem eb_between_41_15 {g p q h x : Int32} {I I2 : px_I} {L L2 : px_L} (h : pb_between g p q h I L x I2 L2) : I2 41 15 = I 41 15 := by
  unfold pb_between at h
  obtain ⟨rfl, h⟩ := h
  rw [h 41 (by decide) (by decide) (by decide) (by decide)]

theorem eb_between_55_15 {g p q h x : Int32} {I I2 : px_I} {L L2 : px_L} (h : pb_between g p q h I L x I2 L2) : I2 55 15 = I 55 15 := by
  unfold pb_between at h
  obtain ⟨rfl, h⟩ := h
  rw [h 55 (by decide) (by decide) (by decide) (by decide)]

theorem ek_between_103_63 {g p t h x : Int32} {I I2 : px_I} {L L2 : px_L} (h : pk_between g p t h I L x I2 L2) : I2 103 63 = I 103 63 := by
  unfold pk_between at h
  exact h.1 103 63 (by omega)

theorem eb_lamps_41_15 {g p h lo hi x : Int32} {I I2 : px_I} {L L2 : px_L} (h : pb_lamps g p h lo hi I L x I2 L2) : I2 41 15 = I 41 15 := by
  unfold pb_lamps at h
  rw [h.1]

theorem eb_lamps_55_15 {g p h lo hi x : Int32} {I I2 : px_I} {L L2 : px_L} (h : pb_lamps g p h lo hi I L x I2 L2) : I2 55 15 = I 55 15 := by
  unfold pb_lamps at h
  rw [h.1]

theorem ek_lamps_103_63 {g p h lo hi x : Int32} {I I2 : px_I} {L L2 : px_L} (h : pk_lamps g p h lo hi I L x I2 L2) : I2 103 63 = I 103 63 := by
  unfold pk_lamps at h
  rw [h.1]

theorem eb_count_41_15 {u lo hi x : Int32} {I I2 : px_I} {L L2 : px_L} (h : pb_count u lo hi I L x I2 L2) : I2 41 15 = I 41 15 := by
  unfold pb_count at h
  obtain ⟨rfl, h⟩ := h
  rcases h with ⟨a1, rfl, rfl⟩ | ⟨a1, rfl, rfl⟩
  · (repeat rw [px_u_out (by omega)])
  · rfl

theorem eb_count_55_15 {u lo hi x : Int32} {I I2 : px_I} {L L2 : px_L} (h : pb_count u lo hi I L x I2 L2) : I2 55 15 = I 55 15 := by
  unfold pb_count at h
  obtain ⟨rfl, h⟩ := h
  rcases h with ⟨a1, rfl, rfl⟩ | ⟨a1, rfl, rfl⟩
  · (repeat rw [px_u_out (by omega)])
  · rfl

theorem ek_count_103_63 {u lo hi x : Int32} {I I2 : px_I} {L L2 : px_L} (h : pk_count u lo hi I L x I2 L2) : I2 103 63 = I 103 63 := by
  unfold pk_count at h
  rcases h with ⟨a1, rfl, rfl, rfl⟩ | ⟨a1, rfl, rfl, rfl⟩
  · (repeat rw [px_u_out (by omega)])
  · rfl

theorem eb_unit_41_15 {h x : Int32} {I I2 : px_I} {L L2 : px_L} (h : pb_unit h I L x I2 L2) : I2 41 15 = I 41 15 := by
  unfold pb_unit at h
  rw [h.1]

theorem eb_unit_55_15 {h x : Int32} {I I2 : px_I} {L L2 : px_L} (h : pb_unit h I L x I2 L2) : I2 55 15 = I 55 15 := by
  unfold pb_unit at h
  rw [h.1]

theorem ek_unit_103_63 {h x : Int32} {I I2 : px_I} {L L2 : px_L} (h : pk_unit h I L x I2 L2) : I2 103 63 = I 103 63 := by
  unfold pk_unit at h
  rw [h.1]

theorem eb_feed_41_15 {a b c d e x : Int32} {I I2 : px_I} {L L2 : px_L} (h : pb_feed a b c d e I L x I2 L2) : I2 41 15 = I 41 15 := by
  unfold pb_feed at h
  obtain ⟨rfl, h⟩ := h
  rcases h with ⟨a1, rfl, rfl⟩ | ⟨a1, rfl, rfl⟩
  · rw [cApp_at _ _ 41 15 (by omega) (by omega), cApp_at _ _ 41 15 (by omega) (by omega), cApp_at _ _ 41 15 (by omega) (by omega), cApp_at _ _ 41 15 (by omega) (by omega), cApp_at _ _ 41 15 (by omega) (by omega)]
  · rfl

theorem eb_feed_55_15 {a b c d e x : Int32} {I I2 : px_I} {L L2 : px_L} (h : pb_feed a b c d e I L x I2 L2) : I2 55 15 = I 55 15 := by
  unfold pb_feed at h
  obtain ⟨rfl, h⟩ := h
  rcases h with ⟨a1, rfl, rfl⟩ | ⟨a1, rfl, rfl⟩
  · rw [cApp_at _ _ 55 15 (by omega) (by omega), cApp_at _ _ 55 15 (by omega) (by omega), cApp_at _ _ 55 15 (by omega) (by omega), cApp_at _ _ 55 15 (by omega) (by omega), cApp_at _ _ 55 15 (by omega) (by omega)]
  · rfl

theorem ek_feed_103_63 {a b c d e x : Int32} {I I2 : px_I} {L L2 : px_L} (h : pk_feed a b c d e I L x I2 L2) : I2 103 63 = I 103 63 := by
  unfold pk_feed at h
  obtain ⟨rfl, h⟩ := h
  rcases h with ⟨a1, rfl, rfl⟩ | ⟨a1, rfl, rfl⟩
  · rw [mPut_o (by omega) (by omega), mPut_o (by omega) (by omega), mPut_o (by omega) (by omega), mPut_o (by omega) (by omega), mPut_o (by omega) (by omega)]
  · rfl

theorem eb_end_41_15 {x9 x : Int32} {I I2 : px_I} {L L2 : px_L} (h : pb_end x9 I L x I2 L2) : I2 41 15 = I 41 15 := by
  unfold pb_end at h
  obtain ⟨rfl, h⟩ := h
  rcases h with ⟨a1, rfl, rfl⟩ | ⟨a1, rfl, rfl⟩
  · (repeat rw [px_u_out (by omega)])
  · rfl

theorem eb_end_55_15 {x9 x : Int32} {I I2 : px_I} {L L2 : px_L} (h : pb_end x9 I L x I2 L2) : I2 55 15 = I 55 15 := by
  unfold pb_end at h
  obtain ⟨rfl, h⟩ := h
  rcases h with ⟨a1, rfl, rfl⟩ | ⟨a1, rfl, rfl⟩
  · (repeat rw [px_u_out (by omega)])
  · rfl

theorem ek_end_103_63 {x9 x : Int32} {I I2 : px_I} {L L2 : px_L} (h : pk_end x9 I L x I2 L2) : I2 103 63 = I 103 63 := by
  unfold pk_end at h
  obtain ⟨rfl, h⟩ := h
  rcases h with ⟨a1, a2, rfl, rfl⟩ | ⟨a1, rfl, rfl⟩
  · (repeat rw [px_u_out (by omega)])
  · rfl

theorem eb_way_41_15 {i x : Int32} {I I2 : px_I} {L L2 : px_L} (h : pb_way i I L x I2 L2) : I2 41 15 = I 41 15 := by
  unfold pb_way at h
  exact h.1 41 15 (by omega) (by omega) (by omega) (by omega) (by omega)

theorem eb_way_55_15 {i x : Int32} {I I2 : px_I} {L L2 : px_L} (h : pb_way i I L x I2 L2) : I2 55 15 = I 55 15 := by
  unfold pb_way at h
  exact h.1 55 15 (by omega) (by omega) (by omega) (by omega) (by omega)

theorem ek_way_103_63 {w x : Int32} {I I2 : px_I} {L L2 : px_L} (h : pk_way w I L x I2 L2) : I2 103 63 = I 103 63 := by
  unfold pk_way at h
  obtain ⟨rfl, h⟩ := h
  rcases h with ⟨a1, a2, rfl⟩ | ⟨a1, a2, a3⟩
  · rfl
  · exact a2 103 63 (by omega) (by omega)

theorem eb_fault_41_15 {x9 x : Int32} {I I2 : px_I} {L L2 : px_L} (h : pb_fault x9 I L x I2 L2) : I2 41 15 = I 41 15 := by
  unfold pb_fault at h
  rw [h.1]

theorem eb_fault_55_15 {x9 x : Int32} {I I2 : px_I} {L L2 : px_L} (h : pb_fault x9 I L x I2 L2) : I2 55 15 = I 55 15 := by
  unfold pb_fault at h
  rw [h.1]

theorem ek_fault_103_63 {x9 x : Int32} {I I2 : px_I} {L L2 : px_L} (h : pk_fault x9 I L x I2 L2) : I2 103 63 = I 103 63 := by
  unfold pk_fault at h
  rw [h.1]

theorem eb_tools_41_15 {a b c d e x : Int32} {I I2 : px_I} {L L2 : px_L} (h : pb_tools a b c d e I L x I2 L2) : I2 41 15 = I 41 15 := by
  unfold pb_tools at h
  obtain ⟨rfl, h⟩ := h
  rcases h with ⟨a1, rfl, a2⟩ | ⟨a1, rfl, rfl⟩
  · rw [a2 41 (by decide)]; (repeat rw [px_u_out (by omega)])
  · rfl

theorem eb_tools_55_15 {a b c d e x : Int32} {I I2 : px_I} {L L2 : px_L} (h : pb_tools a b c d e I L x I2 L2) : I2 55 15 = I 55 15 := by
  unfold pb_tools at h
  obtain ⟨rfl, h⟩ := h
  rcases h with ⟨a1, rfl, a2⟩ | ⟨a1, rfl, rfl⟩
  · rw [a2 55 (by decide)]; (repeat rw [px_u_out (by omega)])
  · rfl

theorem ek_tools_103_63 {a b c d e x : Int32} {I I2 : px_I} {L L2 : px_L} (h : pk_tools a b c d e I L x I2 L2) : I2 103 63 = I 103 63 := by
  unfold pk_tools at h
  obtain ⟨rfl, h⟩ := h
  rcases h with ⟨a1, rfl, rfl⟩ | ⟨a1, rfl, rfl⟩
  · (repeat rw [px_u_out (by omega)])
  · rfl

theorem eb_run_41_15 {w h a x : Int32} {I I2 : px_I} {L L2 : px_L} (h : pb_run w h a I L x I2 L2) : I2 41 15 = I 41 15 := by
  unfold pb_run at h
  exact h.1 41 15 (by omega) (by omega) (by omega) (by omega) (by omega) (by omega) (by omega)

theorem eb_run_55_15 {w h a x : Int32} {I I2 : px_I} {L L2 : px_L} (h : pb_run w h a I L x I2 L2) : I2 55 15 = I 55 15 := by
  unfold pb_run at h
  exact h.1 55 15 (by omega) (by omega) (by omega) (by omega) (by omega) (by omega) (by omega)

theorem ek_run_103_63 {w h a x : Int32} {I I2 : px_I} {L L2 : px_L} (h : pk_run w h a I L x I2 L2) : I2 103 63 = I 103 63 := by
  unfold pk_run at h
  exact h.1 103 63 (by omega) (by omega) (by omega)

theorem eb_meeting_41_15 {a f b t x9 h x : Int32} {I I2 : px_I} {L L2 : px_L} (h : pb_meeting a f b t x9 h I L x I2 L2) : I2 41 15 = I 41 15 := by
  unfold pb_meeting at h
  exact h.1 41 15 (by omega) (by omega) (by omega) (by omega) (by omega) (by omega) (by omega)

theorem eb_meeting_55_15 {a f b t x9 h x : Int32} {I I2 : px_I} {L L2 : px_L} (h : pb_meeting a f b t x9 h I L x I2 L2) : I2 55 15 = I 55 15 := by
  unfold pb_meeting at h
  exact h.1 55 15 (by omega) (by omega) (by omega) (by omega) (by omega) (by omega) (by omega)

theorem ek_meeting_103_63 {a f b t x9 h x : Int32} {I I2 : px_I} {L L2 : px_L} (h : pk_meeting a f b t x9 h I L x I2 L2) : I2 103 63 = I 103 63 := by
  unfold pk_meeting at h
  exact h.1 103 63 (by omega) (by omega) (by omega)

theorem eb_there_41_15 {a lo hi x : Int32} {I I2 : px_I} {L L2 : px_L} (h : pb_there a lo hi I L x I2 L2) : I2 41 15 = I 41 15 := by
  unfold pb_there at h
  obtain ⟨rfl, h⟩ := h
  rcases h with ⟨a1, rfl, rfl⟩ | ⟨a1, rfl, rfl⟩
  · (repeat rw [px_u_out (by omega)])
  · rfl

theorem eb_there_55_15 {a lo hi x : Int32} {I I2 : px_I} {L L2 : px_L} (h : pb_there a lo hi I L x I2 L2) : I2 55 15 = I 55 15 := by
  unfold pb_there at h
  obtain ⟨rfl, h⟩ := h
  rcases h with ⟨a1, rfl, rfl⟩ | ⟨a1, rfl, rfl⟩
  · (repeat rw [px_u_out (by omega)])
  · rfl

theorem ek_there_103_63 {a lo hi x : Int32} {I I2 : px_I} {L L2 : px_L} (h : pk_there a lo hi I L x I2 L2) : I2 103 63 = I 103 63 := by
  unfold pk_there at h
  obtain ⟨rfl, h⟩ := h
  rcases h with ⟨a1, rfl, rfl⟩ | ⟨a1, rfl, rfl⟩
  · (repeat rw [px_u_out (by omega)])
  · rfl

theorem eb_fits_41_15 {a f b t x : Int32} {I I2 : px_I} {L L2 : px_L} (h : pb_fits a f b t I L x I2 L2) : I2 41 15 = I 41 15 := by
  unfold pb_fits at h
  exact h.1 41 15 (by omega) (by omega) (by omega) (by omega) (by omega) (by omega) (by omega)

theorem eb_fits_55_15 {a f b t x : Int32} {I I2 : px_I} {L L2 : px_L} (h : pb_fits a f b t I L x I2 L2) : I2 55 15 = I 55 15 := by
  unfold pb_fits at h
  exact h.1 55 15 (by omega) (by omega) (by omega) (by omega) (by omega) (by omega) (by omega)

theorem ek_fits_103_63 {a f b t x : Int32} {I I2 : px_I} {L L2 : px_L} (h : pk_fits a f b t I L x I2 L2) : I2 103 63 = I 103 63 := by
  unfold pk_fits at h
  exact h.1 103 63 (by omega) (by omega) (by omega)

theorem eb_ways_41_15 {a f b t x9 x : Int32} {I I2 : px_I} {L L2 : px_L} (h : pb_ways a f b t x9 I L x I2 L2) : I2 41 15 = I 41 15 := by
  unfold pb_ways at h
  exact h.1 41 15 (by omega) (by omega) (by omega) (by omega) (by omega) (by omega) (by omega)

theorem eb_ways_55_15 {a f b t x9 x : Int32} {I I2 : px_I} {L L2 : px_L} (h : pb_ways a f b t x9 I L x I2 L2) : I2 55 15 = I 55 15 := by
  unfold pb_ways at h
  exact h.1 55 15 (by omega) (by omega) (by omega) (by omega) (by omega) (by omega) (by omega)

theorem ek_ways_103_63 {a f b t x9 x : Int32} {I I2 : px_I} {L L2 : px_L} (h : pk_ways a f b t x9 I L x I2 L2) : I2 103 63 = I 103 63 := by
  unfold pk_ways at h
  exact h.1 103 63 (by omega) (by omega) (by omega)

theorem eb_seek_41_15 {a b c d e f x : Int32} {I I2 : px_I} {L L2 : px_L} (h : pb_seek a b c d e f I L x I2 L2) : I2 41 15 = I 41 15 := by
  unfold pb_seek at h
  obtain ⟨rfl, h⟩ := h
  rcases h with ⟨a1, rfl, rfl⟩ | ⟨a1, rfl, rfl⟩
  · (repeat rw [px_u_out (by omega)])
  · rfl

theorem eb_seek_55_15 {a b c d e f x : Int32} {I I2 : px_I} {L L2 : px_L} (h : pb_seek a b c d e f I L x I2 L2) : I2 55 15 = I 55 15 := by
  unfold pb_seek at h
  obtain ⟨rfl, h⟩ := h
  rcases h with ⟨a1, rfl, rfl⟩ | ⟨a1, rfl, rfl⟩
  · (repeat rw [px_u_out (by omega)])
  · rfl

theorem ek_seek_103_63 {a b c d e f x : Int32} {I I2 : px_I} {L L2 : px_L} (h : pk_seek a b c d e f I L x I2 L2) : I2 103 63 = I 103 63 := by
  unfold pk_seek at h
  obtain ⟨rfl, h⟩ := h
  rcases h with ⟨a1, rfl, rfl⟩ | ⟨a1, rfl, rfl⟩
  · (repeat rw [px_u_out (by omega)])
  · rfl

theorem eb_detour_41_15 {a o h x : Int32} {I I2 : px_I} {L L2 : px_L} (h : pb_detour a o h I L x I2 L2) : I2 41 15 = I 41 15 := by
  unfold pb_detour at h
  rw [h.1]

theorem eb_detour_55_15 {a o h x : Int32} {I I2 : px_I} {L L2 : px_L} (h : pb_detour a o h I L x I2 L2) : I2 55 15 = I 55 15 := by
  unfold pb_detour at h
  rw [h.1]

theorem ek_detour_103_63 {a o lo x : Int32} {I I2 : px_I} {L L2 : px_L} (h : pk_detour a o lo I L x I2 L2) : I2 103 63 = I 103 63 := by
  unfold pk_detour at h
  rw [h.1]

theorem eb_table_41_15 {c v x : Int32} {I I2 : px_I} {L L2 : px_L} (h : pb_table c v I L x I2 L2) : I2 41 15 = I 41 15 := by
  unfold pb_table at h
  obtain ⟨rfl, h⟩ := h
  rcases h with ⟨a1, rfl, rfl⟩ | ⟨a1, rfl, rfl⟩
  · (repeat rw [px_u_out (by omega)])
  · rfl

theorem eb_table_55_15 {c v x : Int32} {I I2 : px_I} {L L2 : px_L} (h : pb_table c v I L x I2 L2) : I2 55 15 = I 55 15 := by
  unfold pb_table at h
  obtain ⟨rfl, h⟩ := h
  rcases h with ⟨a1, rfl, rfl⟩ | ⟨a1, rfl, rfl⟩
  · (repeat rw [px_u_out (by omega)])
  · rfl

theorem ek_table_103_63 {c v x : Int32} {I I2 : px_I} {L L2 : px_L} (h : pk_table c v I L x I2 L2) : I2 103 63 = I 103 63 := by
  unfold pk_table at h
  obtain ⟨rfl, h⟩ := h
  rcases h with ⟨a1, rfl, rfl⟩ | ⟨a1, rfl, rfl⟩
  · (repeat rw [px_u_out (by omega)])
  · rfl

theorem eb_lime_41_15 {v x : Int32} {I I2 : px_I} {L L2 : px_L} (h : pb_lime v I L x I2 L2) : I2 41 15 = I 41 15 := by
  unfold pb_lime at h
  obtain ⟨rfl, h⟩ := h
  rcases h with ⟨a1, rfl, rfl⟩ | ⟨a1, rfl, rfl⟩
  · (repeat rw [px_u_out (by omega)])
  · rfl

theorem eb_lime_55_15 {v x : Int32} {I I2 : px_I} {L L2 : px_L} (h : pb_lime v I L x I2 L2) : I2 55 15 = I 55 15 := by
  unfold pb_lime at h
  obtain ⟨rfl, h⟩ := h
  rcases h with ⟨a1, rfl, rfl⟩ | ⟨a1, rfl, rfl⟩
  · (repeat rw [px_u_out (by omega)])
  · rfl

theorem ek_lime_103_63 {v x : Int32} {I I2 : px_I} {L L2 : px_L} (h : pk_lime v I L x I2 L2) : I2 103 63 = I 103 63 := by
  unfold pk_lime at h
  obtain ⟨rfl, h⟩ := h
  rcases h with ⟨a1, a2, rfl, rfl⟩ | ⟨a1, rfl, rfl⟩
  · (repeat rw [px_u_out (by omega)])
  · rfl

theorem eb_flow_41_15 {g y k h x : Int32} {I I2 : px_I} {L L2 : px_L} (h : pb_flow g y k h I L x I2 L2) : I2 41 15 = I 41 15 := by
  unfold pb_flow at h
  exact h.1 41 15 (by omega)

theorem eb_flow_55_15 {g y k h x : Int32} {I I2 : px_I} {L L2 : px_L} (h : pb_flow g y k h I L x I2 L2) : I2 55 15 = I 55 15 := by
  unfold pb_flow at h
  exact h.1 55 15 (by omega)

theorem ek_flow_103_63 {g y k h x : Int32} {I I2 : px_I} {L L2 : px_L} (h : pk_flow g y k h I L x I2 L2) : I2 103 63 = I 103 63 := by
  unfold pk_flow at h
  exact h.1 103 63 (by omega)

theorem eb_narrow_41_15 {g y k x : Int32} {I I2 : px_I} {L L2 : px_L} (h : pb_narrow g y k I L x I2 L2) : I2 41 15 = I 41 15 := by
  unfold pb_narrow at h
  exact h.1 41 15 (by omega)

theorem eb_narrow_55_15 {g y k x : Int32} {I I2 : px_I} {L L2 : px_L} (h : pb_narrow g y k I L x I2 L2) : I2 55 15 = I 55 15 := by
  unfold pb_narrow at h
  exact h.1 55 15 (by omega)

theorem ek_narrow_103_63 {g y k x : Int32} {I I2 : px_I} {L L2 : px_L} (h : pk_narrow g y k I L x I2 L2) : I2 103 63 = I 103 63 := by
  unfold pk_narrow at h
  exact h.1 103 63 (by omega)

theorem eb_about_41_15 {w x : Int32} {I I2 : px_I} {L L2 : px_L} (h : pb_about w I L x I2 L2) : I2 41 15 = I 41 15 := by
  unfold pb_about at h
  rw [h.1]

theorem eb_about_55_15 {w x : Int32} {I I2 : px_I} {L L2 : px_L} (h : pb_about w I L x I2 L2) : I2 55 15 = I 55 15 := by
  unfold pb_about at h
  rw [h.1]

theorem ek_about_103_63 {w x : Int32} {I I2 : px_I} {L L2 : px_L} (h : pk_about w I L x I2 L2) : I2 103 63 = I 103 63 := by
  unfold pk_about at h
  rw [h.1]

def rel (I : px_I) (L : px_L) : Prop := (I 33 7 = I 103 1) ∧ (I 41 13 = I 110 0) ∧ (I 55 13 = I 110 1) ∧ (I 41 15 + I 55 15 = I 103 63)

theorem rel.days {v0 : Int32} {x y : Int32} {n : Nat} {I I2 I3 : px_I} {L L2 L3 : px_L} {R : px_R} (hj : jJ n I R) (hr : rel I L) (f1 : frB I I2 L L2) (p1 : pb_days v0 I L x I2 L2) (f2 : frK I2 I3 L2 L3) (p2 : pk_days v0 I2 L2 y I3 L3) : rel I3 L3 := by
  have f_33_7 : I3 33 7 = I 33 7 := by rw [f2.1 33 (by omega), eb_days_33_7 p1]
  have f_103_1 : I3 103 1 = I 103 1 := by rw [ek_days_103_1 p2, f1.1 103 (by omega) (by omega)]
  have f_41_13 : I3 41 13 = I 41 13 := by rw [f2.1 41 (by omega), eb_days_41_13 p1]
  have f_110_0 : I3 110 0 = I 110 0 := by rw [ek_days_110_0 p2, f1.1 110 (by omega) (by omega)]
  have f_55_13 : I3 55 13 = I 55 13 := by rw [f2.1 55 (by omega), eb_days_55_13 p1]
  have f_110_1 : I3 110 1 = I 110 1 := by rw [ek_days_110_1 p2, f1.1 110 (by omega) (by omega)]
  have f_41_15 : I3 41 15 = I 41 15 := by rw [f2.1 41 (by omega), eb_days_41_15 p1]
  have f_55_15 : I3 55 15 = I 55 15 := by rw [f2.1 55 (by omega), eb_days_55_15 p1]
  have f_103_63 : I3 103 63 = I 103 63 := by rw [ek_days_103_63 p2, f1.1 103 (by omega) (by omega)]
  exact ⟨(by rw [f_33_7, f_103_1]; exact hr.1), (by rw [f_41_13, f_110_0]; exact hr.2.1), (by rw [f_55_13, f_110_1]; exact hr.2.2.1), (by rw [f_41_15, f_55_15, f_103_63]; exact hr.2.2.2)⟩

theorem relq_station {x y : Int32} {n : Nat} {I I2 I3 : px_I} {L L2 L3 : px_L} {R : px_R} (hj : jJ n I R) (hr : rel I L) (f1 : frB I I2 L L2) (p1 : pb_station  I L x I2 L2) (f2 : frK I2 I3 L2 L3) (p2 : pk_station  I2 L2 y I3 L3) : x = y ∧ (I3 33 7 = I3 103 1) := by
  have h_st : I 33 7 = I 103 1 := hr.1
  have h_pA : I 41 13 = I 110 0 := hr.2.1
  have h_pB : I 55 13 = I 110 1 := hr.2.2.1
  have h_rp : I 41 15 + I 55 15 = I 103 63 := hr.2.2.2
  unfold pb_station at p1
  unfold pk_station at p2
  have s := hj.s
  unfold cSt at s
  have e : I2 103 1 = I 103 1 := by rw [f1.1 103 (by omega) (by omega)]
  have e3 : I3 33 7 = I2 33 7 := by rw [f2.1 33 (by omega)]
  rcases p1.2 with ⟨a1, a2, a3⟩ | ⟨a1, a2, a3⟩
  · rcases p2.2 with ⟨b1, b2, b3⟩ | ⟨b1, b2, b3⟩
    · exact ⟨by rw [a2, b2, e]; exact h_st, by rw [e3, b3, a3, px_u_at, px_u_at, ← a3, e, h_st]⟩
    · exact absurd (b1.symm.trans (e.trans h_st.symm)) (by grind)
  · rcases p2.2 with ⟨b1, b2, b3⟩ | ⟨b1, b2, b3⟩
    · exact absurd (e.trans h_st.symm) (by grind)
    · exact ⟨by rw [a2, b2], by rw [e3, b3, e, a3]; exact h_st⟩

theorem rel.station {x y : Int32} {n : Nat} {I I2 I3 : px_I} {L L2 L3 : px_L} {R : px_R} (hj : jJ n I R) (hr : rel I L) (f1 : frB I I2 L L2) (p1 : pb_station  I L x I2 L2) (f2 : frK I2 I3 L2 L3) (p2 : pk_station  I2 L2 y I3 L3) : rel I3 L3 := by
  have hq0 := (relq_station hj hr f1 p1 f2 p2).2
  have f_41_13 : I3 41 13 = I 41 13 := by rw [f2.1 41 (by omega), eb_station_41_13 p1]
  have f_110_0 : I3 110 0 = I 110 0 := by rw [ek_station_110_0 p2, f1.1 110 (by omega) (by omega)]
  have f_55_13 : I3 55 13 = I 55 13 := by rw [f2.1 55 (by omega), eb_station_55_13 p1]
  have f_110_1 : I3 110 1 = I 110 1 := by rw [ek_station_110_1 p2, f1.1 110 (by omega) (by omega)]
  have f_41_15 : I3 41 15 = I 41 15 := by rw [f2.1 41 (by omega), eb_station_41_15 p1]
  have f_55_15 : I3 55 15 = I 55 15 := by rw [f2.1 55 (by omega), eb_station_55_15 p1]
  have f_103_63 : I3 103 63 = I 103 63 := by rw [ek_station_103_63 p2, f1.1 103 (by omega) (by omega)]
  exact ⟨hq0, (by rw [f_41_13, f_110_0]; exact hr.2.1), (by rw [f_55_13, f_110_1]; exact hr.2.2.1), (by rw [f_41_15, f_55_15, f_103_63]; exact hr.2.2.2)⟩

theorem rel.sight {v0 v1 v2 v3 v4 : Int32} {x y : Int32} {n : Nat} {I I2 I3 : px_I} {L L2 L3 : px_L} {R : px_R} (hj : jJ n I R) (hr : rel I L) (f1 : frB I I2 L L2) (p1 : pb_sight v0 v1 v2 v3 v4 I L x I2 L2) (f2 : frK I2 I3 L2 L3) (p2 : pk_sight v0 v1 v2 v3 v4 I2 L2 y I3 L3) : rel I3 L3 := by
  have f_33_7 : I3 33 7 = I 33 7 := by rw [f2.1 33 (by omega), eb_sight_33_7 p1]
  have f_103_1 : I3 103 1 = I 103 1 := by rw [ek_sight_103_1 p2, f1.1 103 (by omega) (by omega)]
  have f_41_13 : I3 41 13 = I 41 13 := by rw [f2.1 41 (by omega), eb_sight_41_13 p1]
  have f_110_0 : I3 110 0 = I 110 0 := by rw [ek_sight_110_0 p2, f1.1 110 (by omega) (by omega)]
  have f_55_13 : I3 55 13 = I 55 13 := by rw [f2.1 55 (by omega), eb_sight_55_13 p1]
  have f_110_1 : I3 110 1 = I 110 1 := by rw [ek_sight_110_1 p2, f1.1 110 (by omega) (by omega)]
  have f_41_15 : I3 41 15 = I 41 15 := by rw [f2.1 41 (by omega), eb_sight_41_15 p1]
  have f_55_15 : I3 55 15 = I 55 15 := by rw [f2.1 55 (by omega), eb_sight_55_15 p1]
  have f_103_63 : I3 103 63 = I 103 63 := by rw [ek_sight_103_63 p2, f1.1 103 (by omega) (by omega)]
  exact ⟨(by rw [f_33_7, f_103_1]; exact hr.1), (by rw [f_41_13, f_110_0]; exact hr.2.1), (by rw [f_55_13, f_110_1]; exact hr.2.2.1), (by rw [f_41_15, f_55_15, f_103_63]; exact hr.2.2.2)⟩

theorem rel.closed {v0 v1 : Int32} {x y : Int32} {n : Nat} {I I2 I3 : px_I} {L L2 L3 : px_L} {R : px_R} (hj : jJ n I R) (hr : rel I L) (f1 : frB I I2 L L2) (p1 : pb_closed v0 v1 I L x I2 L2) (f2 : frK I2 I3 L2 L3) (p2 : pk_closed v0 v1 I2 L2 y I3 L3) : rel I3 L3 := by
  have f_33_7 : I3 33 7 = I 33 7 := by rw [f2.1 33 (by omega), eb_closed_33_7 p1]
  have f_103_1 : I3 103 1 = I 103 1 := by rw [ek_closed_103_1 p2, f1.1 103 (by omega) (by omega)]
  have f_41_13 : I3 41 13 = I 41 13 := by rw [f2.1 41 (by omega), eb_closed_41_13 p1]
  have f_110_0 : I3 110 0 = I 110 0 := by rw [ek_closed_110_0 p2, f1.1 110 (by omega) (by omega)]
  have f_55_13 : I3 55 13 = I 55 13 := by rw [f2.1 55 (by omega), eb_closed_55_13 p1]
  have f_110_1 : I3 110 1 = I 110 1 := by rw [ek_closed_110_1 p2, f1.1 110 (by omega) (by omega)]
  have f_41_15 : I3 41 15 = I 41 15 := by rw [f2.1 41 (by omega), eb_closed_41_15 p1]
  have f_55_15 : I3 55 15 = I 55 15 := by rw [f2.1 55 (by omega), eb_closed_55_15 p1]
  have f_103_63 : I3 103 63 = I 103 63 := by rw [ek_closed_103_63 p2, f1.1 103 (by omega) (by omega)]
  exact ⟨(by rw [f_33_7, f_103_1]; exact hr.1), (by rw [f_41_13, f_110_0]; exact hr.2.1), (by rw [f_55_13, f_110_1]; exact hr.2.2.1), (by rw [f_41_15, f_55_15, f_103_63]; exact hr.2.2.2)⟩

theorem rel.span {v0 v1 v2 v3 : Int32} {x y : Int32} {n : Nat} {I I2 I3 : px_I} {L L2 L3 : px_L} {R : px_R} (hj : jJ n I R) (hr : rel I L) (f1 : frB I I2 L L2) (p1 : pb_span v0 v1 v2 v3 I L x I2 L2) (f2 : frK I2 I3 L2 L3) (p2 : pk_span v0 v1 v2 v3 I2 L2 y I3 L3) : rel I3 L3 := by
  have f_33_7 : I3 33 7 = I 33 7 := by rw [f2.1 33 (by omega), eb_span_33_7 p1]
  have f_103_1 : I3 103 1 = I 103 1 := by rw [ek_span_103_1 p2, f1.1 103 (by omega) (by omega)]
  have f_41_13 : I3 41 13 = I 41 13 := by rw [f2.1 41 (by omega), eb_span_41_13 p1]
  have f_110_0 : I3 110 0 = I 110 0 := by rw [ek_span_110_0 p2, f1.1 110 (by omega) (by omega)]
  have f_55_13 : I3 55 13 = I 55 13 := by rw [f2.1 55 (by omega), eb_span_55_13 p1]
  have f_110_1 : I3 110 1 = I 110 1 := by rw [ek_span_110_1 p2, f1.1 110 (by omega) (by omega)]
  have f_41_15 : I3 41 15 = I 41 15 := by rw [f2.1 41 (by omega), eb_span_41_15 p1]
  have f_55_15 : I3 55 15 = I 55 15 := by rw [f2.1 55 (by omega), eb_span_55_15 p1]
  have f_103_63 : I3 103 63 = I 103 63 := by rw [ek_span_103_63 p2, f1.1 103 (by omega) (by omega)]
  exact ⟨(by rw [f_33_7, f_103_1]; exact hr.1), (by rw [f_41_13, f_110_0]; exact hr.2.1), (by rw [f_55_13, f_110_1]; exact hr.2.2.1), (by rw [f_41_15, f_55_15, f_103_63]; exact hr.2.2.2)⟩

theorem rel.gap {v0 v1 v2 v3 v4 : Int32} {x y : Int32} {n : Nat} {I I2 I3 : px_I} {L L2 L3 : px_L} {R : px_R} (hj : jJ n I R) (hr : rel I L) (f1 : frB I I2 L L2) (p1 : pb_gap v0 v1 v2 v3 v4 I L x I2 L2) (f2 : frK I2 I3 L2 L3) (p2 : pk_gap v0 v1 v2 v3 v4 I2 L2 y I3 L3) : rel I3 L3 := by
  have f_33_7 : I3 33 7 = I 33 7 := by rw [f2.1 33 (by omega), eb_gap_33_7 p1]
  have f_103_1 : I3 103 1 = I 103 1 := by rw [ek_gap_103_1 p2, f1.1 103 (by omega) (by omega)]
  have f_41_13 : I3 41 13 = I 41 13 := by rw [f2.1 41 (by omega), eb_gap_41_13 p1]
  have f_110_0 : I3 110 0 = I 110 0 := by rw [ek_gap_110_0 p2, f1.1 110 (by omega) (by omega)]
  have f_55_13 : I3 55 13 = I 55 13 := by rw [f2.1 55 (by omega), eb_gap_55_13 p1]
  have f_110_1 : I3 110 1 = I 110 1 := by rw [ek_gap_110_1 p2, f1.1 110 (by omega) (by omega)]
  have f_41_15 : I3 41 15 = I 41 15 := by rw [f2.1 41 (by omega), eb_gap_41_15 p1]
  have f_55_15 : I3 55 15 = I 55 15 := by rw [f2.1 55 (by omega), eb_gap_55_15 p1]
  have f_103_63 : I3 103 63 = I 103 63 := by rw [ek_gap_103_63 p2, f1.1 103 (by omega) (by omega)]
  exact ⟨(by rw [f_33_7, f_103_1]; exact hr.1), (by rw [f_41_13, f_110_0]; exact hr.2.1), (by rw [f_55_13, f_110_1]; exact hr.2.2.1), (by rw [f_41_15, f_55_15, f_103_63]; exact hr.2.2.2)⟩

theorem rel.blamed {v0 v1 v2 : Int32} {x y : Int32} {n : Nat} {I I2 I3 : px_I} {L L2 L3 : px_L} {R : px_R} (hj : jJ n I R) (hr : rel I L) (f1 : frB I I2 L L2) (p1 : pb_blamed v0 v1 v2 I L x I2 L2) (f2 : frK I2 I3 L2 L3) (p2 : pk_blamed v0 v1 v2 I2 L2 y I3 L3) : rel I3 L3 := by
  have f_33_7 : I3 33 7 = I 33 7 := by rw [f2.1 33 (by omega), eb_blamed_33_7 p1]
  have f_103_1 : I3 103 1 = I 103 1 := by rw [ek_blamed_103_1 p2, f1.1 103 (by omega) (by omega)]
  have f_41_13 : I3 41 13 = I 41 13 := by rw [f2.1 41 (by omega), eb_blamed_41_13 p1]
  have f_110_0 : I3 110 0 = I 110 0 := by rw [ek_blamed_110_0 p2, f1.1 110 (by omega) (by omega)]
  have f_55_13 : I3 55 13 = I 55 13 := by rw [f2.1 55 (by omega), eb_blamed_55_13 p1]
  have f_110_1 : I3 110 1 = I 110 1 := by rw [ek_blamed_110_1 p2, f1.1 110 (by omega) (by omega)]
  have f_41_15 : I3 41 15 = I 41 15 := by rw [f2.1 41 (by omega), eb_blamed_41_15 p1]
  have f_55_15 : I3 55 15 = I 55 15 := by rw [f2.1 55 (by omega), eb_blamed_55_15 p1]
  have f_103_63 : I3 103 63 = I 103 63 := by rw [ek_blamed_103_63 p2, f1.1 103 (by omega) (by omega)]
  exact ⟨(by rw [f_33_7, f_103_1]; exact hr.1), (by rw [f_41_13, f_110_0]; exact hr.2.1), (by rw [f_55_13, f_110_1]; exact hr.2.2.1), (by rw [f_41_15, f_55_15, f_103_63]; exact hr.2.2.2)⟩

theorem relq_reach {v0 v1 v2 v3 v4 v5 v6 : Int32} {x y : Int32} {n : Nat} {I I2 I3 : px_I} {L L2 L3 : px_L} {R : px_R} (hj : jJ n I R) (hr : rel I L) (f1 : frB I I2 L L2) (p1 : pb_reach v0 v1 v2 v3 v4 v5 v6 I L x I2 L2) (f2 : frK I2 I3 L2 L3) (p2 : pk_reach v0 v1 v2 v3 v4 v5 v6 I2 L2 y I3 L3) : x = y ∧ (I3 41 13 = I3 110 0) ∧ (I3 55 13 = I3 110 1) := by
  have h_st : I 33 7 = I 103 1 := hr.1
  have h_pA : I 41 13 = I 110 0 := hr.2.1
  have h_pB : I 55 13 = I 110 1 := hr.2.2.1
  have h_rp : I 41 15 + I 55 15 = I 103 63 := hr.2.2.2
  unfold pb_reach at p1
  unfold pk_reach at p2
  have hl := hj.l
  unfold cGal at hl
  have e0 : I2 110 = I 110 := f1.1 110 (by omega) (by omega)
  have e1 : I2 103 = I 103 := f1.1 103 (by omega) (by omega)
  have hc : ∀ G, bG v0 G → I G 13 = I 110 v0.toNatClampNeg := by
    rintro G (⟨q1, q2⟩ | ⟨q1, q2⟩)
    · rw [q1, q2, px_n0]; exact h_pA
    · rw [q1, q2, px_n1]; exact h_pB
  have e5 : I3 41 = I2 41 := f2.1 41 (by omega)
  have e6 : I3 55 = I2 55 := f2.1 55 (by omega)
  rcases p1.2 with ⟨G, ⟨g1, g2, g3⟩, a2, a3⟩ | ⟨a1, a2, a3⟩
  · have c := hc G g1
    have m : mP0 I2 v0 = if I G 13 = 0 then 1 else I G 13 := by unfold mP0; rw [e0, c]
    rcases p2.2 with ⟨b1, b2, b3⟩ | ⟨b1, b2, b3⟩
    · refine ⟨by rw [a2, b2, m], ?_⟩
      rw [e5, e6, b3]
      rcases g1 with ⟨q1, q2⟩ | ⟨q1, q2⟩
      · subst q1; subst q2
        have k1 := @mReach_p I2 0 v1 v2 v3 v4 v5 v6
        rw [px_n0] at k1
        rw [k1, mReach_q (by decide), e0, m, a3, cReach_p, cReach_o (by omega)]
        exact ⟨rfl, h_pB⟩
      · subst q1; subst q2
        have k1 := @mReach_p I2 1 v1 v2 v3 v4 v5 v6
        rw [px_n1] at k1
        rw [k1, mReach_q (by decide), e0, m, a3, cReach_p, cReach_o (by omega)]
        exact ⟨h_pA, rfl⟩
    · refine absurd ?_ b1
      obtain ⟨r1, r2, r3, r4⟩ := g3
      refine ⟨bG_le g1, ⟨r1.1, by grind⟩, r1.2, ⟨r2.1, by grind⟩, r2.2, r3, ?_, ?_⟩
      · rw [e1, ← h_st]
        rcases g2 with h | h
        · exact Or.inl h
        · exact Or.inr ⟨h.1, by have s := hj.s; unfold cSt at s; grind⟩
      · rw [e0, ← c]; intro h; rw [h] at r4; exact absurd r4 (by decide)
  · rcases p2.2 with ⟨b1, b2, b3⟩ | ⟨b1, b2, b3⟩
    · refine absurd ?_ a1
      obtain ⟨r0, r1, r2, r3, r4, r5, r6, r7⟩ := b1
      obtain ⟨G, g1⟩ := bG_01 r0.1 r0.2
      have c := hc G g1
      rw [e0, ← c] at r7
      refine ⟨G, g1, ?_, ⟨r1.1, r2⟩, ⟨r3.1, r4⟩, r5, ?_⟩
      · rw [e1, ← h_st] at r6
        rcases r6 with h | h
        · exact Or.inl h
        · exact Or.inr ⟨h.1, by have s := hj.s; unfold cSt at s; grind⟩
      · have : I G 13 ≤ 20 := by rcases g1 with ⟨q1, q2⟩ | ⟨q1, q2⟩ <;> rw [q2] <;> first | exact hl.1.1.2 | exact hl.2.1.2
        grind
    · refine ⟨by rw [a2, b2], ?_⟩
      rw [e5, e6, b3, e0, a3]
      exact ⟨h_pA, h_pB⟩

theorem rel.reach {v0 v1 v2 v3 v4 v5 v6 : Int32} {x y : Int32} {n : Nat} {I I2 I3 : px_I} {L L2 L3 : px_L} {R : px_R} (hj : jJ n I R) (hr : rel I L) (f1 : frB I I2 L L2) (p1 : pb_reach v0 v1 v2 v3 v4 v5 v6 I L x I2 L2) (f2 : frK I2 I3 L2 L3) (p2 : pk_reach v0 v1 v2 v3 v4 v5 v6 I2 L2 y I3 L3) : rel I3 L3 := by
  have hq0 := (relq_reach hj hr f1 p1 f2 p2).2
  have f_33_7 : I3 33 7 = I 33 7 := by rw [f2.1 33 (by omega), eb_reach_33_7 p1]
  have f_103_1 : I3 103 1 = I 103 1 := by rw [ek_reach_103_1 p2, f1.1 103 (by omega) (by omega)]
  have f_41_15 : I3 41 15 = I 41 15 := by rw [f2.1 41 (by omega), eb_reach_41_15 p1]
  have f_55_15 : I3 55 15 = I 55 15 := by rw [f2.1 55 (by omega), eb_reach_55_15 p1]
  have f_103_63 : I3 103 63 = I 103 63 := by rw [ek_reach_103_63 p2, f1.1 103 (by omega) (by omega)]
  exact ⟨(by rw [f_33_7, f_103_1]; exact hr.1), hq0.1, hq0.2, (by rw [f_41_15, f_55_15, f_103_63]; exact hr.2.2.2)⟩

theorem rel.mouth {v0 v1 : Int32} {x y : Int32} {n : Nat} {I I2 I3 : px_I} {L L2 L3 : px_L} {R : px_R} (hj : jJ n I R) (hr : rel I L) (f1 : frB I I2 L L2) (p1 : pb_mouth v0 v1 I L x I2 L2) (f2 : frK I2 I3 L2 L3) (p2 : pk_mouth v0 v1 I2 L2 y I3 L3) : rel I3 L3 := by
  have f_33_7 : I3 33 7 = I 33 7 := by rw [f2.1 33 (by omega), eb_mouth_33_7 p1]
  have f_103_1 : I3 103 1 = I 103 1 := by rw [ek_mouth_103_1 p2, f1.1 103 (by omega) (by omega)]
  have f_41_13 : I3 41 13 = I 41 13 := by rw [f2.1 41 (by omega), eb_mouth_41_13 p1]
  have f_110_0 : I3 110 0 = I 110 0 := by rw [ek_mouth_110_0 p2, f1.1 110 (by omega) (by omega)]
  have f_55_13 : I3 55 13 = I 55 13 := by rw [f2.1 55 (by omega), eb_mouth_55_13 p1]
  have f_110_1 : I3 110 1 = I 110 1 := by rw [ek_mouth_110_1 p2, f1.1 110 (by omega) (by omega)]
  have f_41_15 : I3 41 15 = I 41 15 := by rw [f2.1 41 (by omega), eb_mouth_41_15 p1]
  have f_55_15 : I3 55 15 = I 55 15 := by rw [f2.1 55 (by omega), eb_mouth_55_15 p1]
  have f_103_63 : I3 103 63 = I 103 63 := by rw [ek_mouth_103_63 p2, f1.1 103 (by omega) (by omega)]
  exact ⟨(by rw [f_33_7, f_103_1]; exact hr.1), (by rw [f_41_13, f_110_0]; exact hr.2.1), (by rw [f_55_13, f_110_1]; exact hr.2.2.1), (by rw [f_41_15, f_55_15, f_103_63]; exact hr.2.2.2)⟩

theorem rel.mark {v0 v1 v2 v3 : Int32} {x y : Int32} {n : Nat} {I I2 I3 : px_I} {L L2 L3 : px_L} {R : px_R} (hj : jJ n I R) (hr : rel I L) (f1 : frB I I2 L L2) (p1 : pb_mark v0 v1 v2 v3 I L x I2 L2) (f2 : frK I2 I3 L2 L3) (p2 : pk_mark v0 v1 v2 v3 I2 L2 y I3 L3) : rel I3 L3 := by
  have f_33_7 : I3 33 7 = I 33 7 := by rw [f2.1 33 (by omega), eb_mark_33_7 p1]
  have f_103_1 : I3 103 1 = I 103 1 := by rw [ek_mark_103_1 p2, f1.1 103 (by omega) (by omega)]
  have f_41_13 : I3 41 13 = I 41 13 := by rw [f2.1 41 (by omega), eb_mark_41_13 p1]
  have f_110_0 : I3 110 0 = I 110 0 := by rw [ek_mark_110_0 p2, f1.1 110 (by omega) (by omega)]
  have f_55_13 : I3 55 13 = I 55 13 := by rw [f2.1 55 (by omega), eb_mark_55_13 p1]
  have f_110_1 : I3 110 1 = I 110 1 := by rw [ek_mark_110_1 p2, f1.1 110 (by omega) (by omega)]
  have f_41_15 : I3 41 15 = I 41 15 := by rw [f2.1 41 (by omega), eb_mark_41_15 p1]
  have f_55_15 : I3 55 15 = I 55 15 := by rw [f2.1 55 (by omega), eb_mark_55_15 p1]
  have f_103_63 : I3 103 63 = I 103 63 := by rw [ek_mark_103_63 p2, f1.1 103 (by omega) (by omega)]
  exact ⟨(by rw [f_33_7, f_103_1]; exact hr.1), (by rw [f_41_13, f_110_0]; exact hr.2.1), (by rw [f_55_13, f_110_1]; exact hr.2.2.1), (by rw [f_41_15, f_55_15, f_103_63]; exact hr.2.2.2)⟩

theorem rel.when {v0 v1 v2 : Int32} {x y : Int32} {n : Nat} {I I2 I3 : px_I} {L L2 L3 : px_L} {R : px_R} (hj : jJ n I R) (hr : rel I L) (f1 : frB I I2 L L2) (p1 : pb_when v0 v1 v2 I L x I2 L2) (f2 : frK I2 I3 L2 L3) (p2 : pk_when v0 v1 v2 I2 L2 y I3 L3) : rel I3 L3 := by
  have f_33_7 : I3 33 7 = I 33 7 := by rw [f2.1 33 (by omega), eb_when_33_7 p1]
  have f_103_1 : I3 103 1 = I 103 1 := by rw [ek_when_103_1 p2, f1.1 103 (by omega) (by omega)]
  have f_41_13 : I3 41 13 = I 41 13 := by rw [f2.1 41 (by omega), eb_when_41_13 p1]
  have f_110_0 : I3 110 0 = I 110 0 := by rw [ek_when_110_0 p2, f1.1 110 (by omega) (by omega)]
  have f_55_13 : I3 55 13 = I 55 13 := by rw [f2.1 55 (by omega), eb_when_55_13 p1]
  have f_110_1 : I3 110 1 = I 110 1 := by rw [ek_when_110_1 p2, f1.1 110 (by omega) (by omega)]
  have f_41_15 : I3 41 15 = I 41 15 := by rw [f2.1 41 (by omega), eb_when_41_15 p1]
  have f_55_15 : I3 55 15 = I 55 15 := by rw [f2.1 55 (by omega), eb_when_55_15 p1]
  have f_103_63 : I3 103 63 = I 103 63 := by rw [ek_when_103_63 p2, f1.1 103 (by omega) (by omega)]
  exact ⟨(by rw [f_33_7, f_103_1]; exact hr.1), (by rw [f_41_13, f_110_0]; exact hr.2.1), (by rw [f_55_13, f_110_1]; exact hr.2.2.1), (by rw [f_41_15, f_55_15, f_103_63]; exact hr.2.2.2)⟩

theorem rel.between {v0 v1 v2 v3 : Int32} {x y : Int32} {n : Nat} {I I2 I3 : px_I} {L L2 L3 : px_L} {R : px_R} (hj : jJ n I R) (hr : rel I L) (f1 : frB I I2 L L2) (p1 : pb_between v0 v1 v2 v3 I L x I2 L2) (f2 : frK I2 I3 L2 L3) (p2 : pk_between v0 v1 v2 v3 I2 L2 y I3 L3) : rel I3 L3 := by
  have f_33_7 : I3 33 7 = I 33 7 := by rw [f2.1 33 (by omega), eb_between_33_7 p1]
  have f_103_1 : I3 103 1 = I 103 1 := by rw [ek_between_103_1 p2, f1.1 103 (by omega) (by omega)]
  have f_41_13 : I3 41 13 = I 41 13 := by rw [f2.1 41 (by omega), eb_between_41_13 p1]
  have f_110_0 : I3 110 0 = I 110 0 := by rw [ek_between_110_0 p2, f1.1 110 (by omega) (by omega)]
  have f_55_13 : I3 55 13 = I 55 13 := by rw [f2.1 55 (by omega), eb_between_55_13 p1]
  have f_110_1 : I3 110 1 = I 110 1 := by rw [ek_between_110_1 p2, f1.1 110 (by omega) (by omega)]
  have f_41_15 : I3 41 15 = I 41 15 := by rw [f2.1 41 (by omega), eb_between_41_15 p1]
  have f_55_15 : I3 55 15 = I 55 15 := by rw [f2.1 55 (by omega), eb_between_55_15 p1]
  have f_103_63 : I3 103 63 = I 103 63 := by rw [ek_between_103_63 p2, f1.1 103 (by omega) (by omega)]
  exact ⟨(by rw [f_33_7, f_103_1]; exact hr.1), (by rw [f_41_13, f_110_0]; exact hr.2.1), (by rw [f_55_13, f_110_1]; exact hr.2.2.1), (by rw [f_41_15, f_55_15, f_103_63]; exact hr.2.2.2)⟩

theorem rel.lamps {v0 v1 v2 v3 v4 : Int32} {x y : Int32} {n : Nat} {I I2 I3 : px_I} {L L2 L3 : px_L} {R : px_R} (hj : jJ n I R) (hr : rel I L) (f1 : frB I I2 L L2) (p1 : pb_lamps v0 v1 v2 v3 v4 I L x I2 L2) (f2 : frK I2 I3 L2 L3) (p2 : pk_lamps v0 v1 v2 v3 v4 I2 L2 y I3 L3) : rel I3 L3 := by
  have f_33_7 : I3 33 7 = I 33 7 := by rw [f2.1 33 (by omega), eb_lamps_33_7 p1]
  have f_103_1 : I3 103 1 = I 103 1 := by rw [ek_lamps_103_1 p2, f1.1 103 (by omega) (by omega)]
  have f_41_13 : I3 41 13 = I 41 13 := by rw [f2.1 41 (by omega), eb_lamps_41_13 p1]
  have f_110_0 : I3 110 0 = I 110 0 := by rw [ek_lamps_110_0 p2, f1.1 110 (by omega) (by omega)]
  have f_55_13 : I3 55 13 = I 55 13 := by rw [f2.1 55 (by omega), eb_lamps_55_13 p1]
  have f_110_1 : I3 110 1 = I 110 1 := by rw [ek_lamps_110_1 p2, f1.1 110 (by omega) (by omega)]
  have f_41_15 : I3 41 15 = I 41 15 := by rw [f2.1 41 (by omega), eb_lamps_41_15 p1]
  have f_55_15 : I3 55 15 = I 55 15 := by rw [f2.1 55 (by omega), eb_lamps_55_15 p1]
  have f_103_63 : I3 103 63 = I 103 63 := by rw [ek_lamps_103_63 p2, f1.1 103 (by omega) (by omega)]
  exact ⟨(by rw [f_33_7, f_103_1]; exact hr.1), (by rw [f_41_13, f_110_0]; exact hr.2.1), (by rw [f_55_13, f_110_1]; exact hr.2.2.1), (by rw [f_41_15, f_55_15, f_103_63]; exact hr.2.2.2)⟩

theorem rel.count {v0 v1 v2 : Int32} {x y : Int32} {n : Nat} {I I2 I3 : px_I} {L L2 L3 : px_L} {R : px_R} (hj : jJ n I R) (hr : rel I L) (f1 : frB I I2 L L2) (p1 : pb_count v0 v1 v2 I L x I2 L2) (f2 : frK I2 I3 L2 L3) (p2 : pk_count v0 v1 v2 I2 L2 y I3 L3) : rel I3 L3 := by
  have f_33_7 : I3 33 7 = I 33 7 := by rw [f2.1 33 (by omega), eb_count_33_7 p1]
  have f_103_1 : I3 103 1 = I 103 1 := by rw [ek_count_103_1 p2, f1.1 103 (by omega) (by omega)]
  have f_41_13 : I3 41 13 = I 41 13 := by rw [f2.1 41 (by omega), eb_count_41_13 p1]
  have f_110_0 : I3 110 0 = I 110 0 := by rw [ek_count_110_0 p2, f1.1 110 (by omega) (by omega)]
  have f_55_13 : I3 55 13 = I 55 13 := by rw [f2.1 55 (by omega), eb_count_55_13 p1]
  have f_110_1 : I3 110 1 = I 110 1 := by rw [ek_count_110_1 p2, f1.1 110 (by omega) (by omega)]
  have f_41_15 : I3 41 15 = I 41 15 := by rw [f2.1 41 (by omega), eb_count_41_15 p1]
  have f_55_15 : I3 55 15 = I 55 15 := by rw [f2.1 55 (by omega), eb_count_55_15 p1]
  have f_103_63 : I3 103 63 = I 103 63 := by rw [ek_count_103_63 p2, f1.1 103 (by omega) (by omega)]
  exact ⟨(by rw [f_33_7, f_103_1]; exact hr.1), (by rw [f_41_13, f_110_0]; exact hr.2.1), (by rw [f_55_13, f_110_1]; exact hr.2.2.1), (by rw [f_41_15, f_55_15, f_103_63]; exact hr.2.2.2)⟩

theorem rel.unit {v0 : Int32} {x y : Int32} {n : Nat} {I I2 I3 : px_I} {L L2 L3 : px_L} {R : px_R} (hj : jJ n I R) (hr : rel I L) (f1 : frB I I2 L L2) (p1 : pb_unit v0 I L x I2 L2) (f2 : frK I2 I3 L2 L3) (p2 : pk_unit v0 I2 L2 y I3 L3) : rel I3 L3 := by
  have f_33_7 : I3 33 7 = I 33 7 := by rw [f2.1 33 (by omega), eb_unit_33_7 p1]
  have f_103_1 : I3 103 1 = I 103 1 := by rw [ek_unit_103_1 p2, f1.1 103 (by omega) (by omega)]
  have f_41_13 : I3 41 13 = I 41 13 := by rw [f2.1 41 (by omega), eb_unit_41_13 p1]
  have f_110_0 : I3 110 0 = I 110 0 := by rw [ek_unit_110_0 p2, f1.1 110 (by omega) (by omega)]
  have f_55_13 : I3 55 13 = I 55 13 := by rw [f2.1 55 (by omega), eb_unit_55_13 p1]
  have f_110_1 : I3 110 1 = I 110 1 := by rw [ek_unit_110_1 p2, f1.1 110 (by omega) (by omega)]
  have f_41_15 : I3 41 15 = I 41 15 := by rw [f2.1 41 (by omega), eb_unit_41_15 p1]
  have f_55_15 : I3 55 15 = I 55 15 := by rw [f2.1 55 (by omega), eb_unit_55_15 p1]
  have f_103_63 : I3 103 63 = I 103 63 := by rw [ek_unit_103_63 p2, f1.1 103 (by omega) (by omega)]
  exact ⟨(by rw [f_33_7, f_103_1]; exact hr.1), (by rw [f_41_13, f_110_0]; exact hr.2.1), (by rw [f_55_13, f_110_1]; exact hr.2.2.1), (by rw [f_41_15, f_55_15, f_103_63]; exact hr.2.2.2)⟩

theorem rel.feed {v0 v1 v2 v3 v4 : Int32} {x y : Int32} {n : Nat} {I I2 I3 : px_I} {L L2 L3 : px_L} {R : px_R} (hj : jJ n I R) (hr : rel I L) (f1 : frB I I2 L L2) (p1 : pb_feed v0 v1 v2 v3 v4 I L x I2 L2) (f2 : frK I2 I3 L2 L3) (p2 : pk_feed v0 v1 v2 v3 v4 I2 L2 y I3 L3) : rel I3 L3 := by
  have f_33_7 : I3 33 7 = I 33 7 := by rw [f2.1 33 (by omega), eb_feed_33_7 p1]
  have f_103_1 : I3 103 1 = I 103 1 := by rw [ek_feed_103_1 p2, f1.1 103 (by omega) (by omega)]
  have f_41_13 : I3 41 13 = I 41 13 := by rw [f2.1 41 (by omega), eb_feed_41_13 p1]
  have f_110_0 : I3 110 0 = I 110 0 := by rw [ek_feed_110_0 p2, f1.1 110 (by omega) (by omega)]
  have f_55_13 : I3 55 13 = I 55 13 := by rw [f2.1 55 (by omega), eb_feed_55_13 p1]
  have f_110_1 : I3 110 1 = I 110 1 := by rw [ek_feed_110_1 p2, f1.1 110 (by omega) (by omega)]
  have f_41_15 : I3 41 15 = I 41 15 := by rw [f2.1 41 (by omega), eb_feed_41_15 p1]
  have f_55_15 : I3 55 15 = I 55 15 := by rw [f2.1 55 (by omega), eb_feed_55_15 p1]
  have f_103_63 : I3 103 63 = I 103 63 := by rw [ek_feed_103_63 p2, f1.1 103 (by omega) (by omega)]
  exact ⟨(by rw [f_33_7, f_103_1]; exact hr.1), (by rw [f_41_13, f_110_0]; exact hr.2.1), (by rw [f_55_13, f_110_1]; exact hr.2.2.1), (by rw [f_41_15, f_55_15, f_103_63]; exact hr.2.2.2)⟩

theorem rel.end {v0 : Int32} {x y : Int32} {n : Nat} {I I2 I3 : px_I} {L L2 L3 : px_L} {R : px_R} (hj : jJ n I R) (hr : rel I L) (f1 : frB I I2 L L2) (p1 : pb_end v0 I L x I2 L2) (f2 : frK I2 I3 L2 L3) (p2 : pk_end v0 I2 L2 y I3 L3) : rel I3 L3 := by
  have f_33_7 : I3 33 7 = I 33 7 := by rw [f2.1 33 (by omega), eb_end_33_7 p1]
  have f_103_1 : I3 103 1 = I 103 1 := by rw [ek_end_103_1 p2, f1.1 103 (by omega) (by omega)]
  have f_41_13 : I3 41 13 = I 41 13 := by rw [f2.1 41 (by omega), eb_end_41_13 p1]
  have f_110_0 : I3 110 0 = I 110 0 := by rw [ek_end_110_0 p2, f1.1 110 (by omega) (by omega)]
  have f_55_13 : I3 55 13 = I 55 13 := by rw [f2.1 55 (by omega), eb_end_55_13 p1]
  have f_110_1 : I3 110 1 = I 110 1 := by rw [ek_end_110_1 p2, f1.1 110 (by omega) (by omega)]
  have f_41_15 : I3 41 15 = I 41 15 := by rw [f2.1 41 (by omega), eb_end_41_15 p1]
  have f_55_15 : I3 55 15 = I 55 15 := by rw [f2.1 55 (by omega), eb_end_55_15 p1]
  have f_103_63 : I3 103 63 = I 103 63 := by rw [ek_end_103_63 p2, f1.1 103 (by omega) (by omega)]
  exact ⟨(by rw [f_33_7, f_103_1]; exact hr.1), (by rw [f_41_13, f_110_0]; exact hr.2.1), (by rw [f_55_13, f_110_1]; exact hr.2.2.1), (by rw [f_41_15, f_55_15, f_103_63]; exact hr.2.2.2)⟩

theorem rel.way {v0 : Int32} {x y : Int32} {n : Nat} {I I2 I3 : px_I} {L L2 L3 : px_L} {R : px_R} (hj : jJ n I R) (hr : rel I L) (f1 : frB I I2 L L2) (p1 : pb_way v0 I L x I2 L2) (f2 : frK I2 I3 L2 L3) (p2 : pk_way v0 I2 L2 y I3 L3) : rel I3 L3 := by
  have f_33_7 : I3 33 7 = I 33 7 := by rw [f2.1 33 (by omega), eb_way_33_7 p1]
  have f_103_1 : I3 103 1 = I 103 1 := by rw [ek_way_103_1 p2, f1.1 103 (by omega) (by omega)]
  have f_41_13 : I3 41 13 = I 41 13 := by rw [f2.1 41 (by omega), eb_way_41_13 p1]
  have f_110_0 : I3 110 0 = I 110 0 := by rw [ek_way_110_0 p2, f1.1 110 (by omega) (by omega)]
  have f_55_13 : I3 55 13 = I 55 13 := by rw [f2.1 55 (by omega), eb_way_55_13 p1]
  have f_110_1 : I3 110 1 = I 110 1 := by rw [ek_way_110_1 p2, f1.1 110 (by omega) (by omega)]
  have f_41_15 : I3 41 15 = I 41 15 := by rw [f2.1 41 (by omega), eb_way_41_15 p1]
  have f_55_15 : I3 55 15 = I 55 15 := by rw [f2.1 55 (by omega), eb_way_55_15 p1]
  have f_103_63 : I3 103 63 = I 103 63 := by rw [ek_way_103_63 p2, f1.1 103 (by omega) (by omega)]
  exact ⟨(by rw [f_33_7, f_103_1]; exact hr.1), (by rw [f_41_13, f_110_0]; exact hr.2.1), (by rw [f_55_13, f_110_1]; exact hr.2.2.1), (by rw [f_41_15, f_55_15, f_103_63]; exact hr.2.2.2)⟩

theorem rel.fault {v0 : Int32} {x y : Int32} {n : Nat} {I I2 I3 : px_I} {L L2 L3 : px_L} {R : px_R} (hj : jJ n I R) (hr : rel I L) (f1 : frB I I2 L L2) (p1 : pb_fault v0 I L x I2 L2) (f2 : frK I2 I3 L2 L3) (p2 : pk_fault v0 I2 L2 y I3 L3) : rel I3 L3 := by
  have f_33_7 : I3 33 7 = I 33 7 := by rw [f2.1 33 (by omega), eb_fault_33_7 p1]
  have f_103_1 : I3 103 1 = I 103 1 := by rw [ek_fault_103_1 p2, f1.1 103 (by omega) (by omega)]
  have f_41_13 : I3 41 13 = I 41 13 := by rw [f2.1 41 (by omega), eb_fault_41_13 p1]
  have f_110_0 : I3 110 0 = I 110 0 := by rw [ek_fault_110_0 p2, f1.1 110 (by omega) (by omega)]
  have f_55_13 : I3 55 13 = I 55 13 := by rw [f2.1 55 (by omega), eb_fault_55_13 p1]
  have f_110_1 : I3 110 1 = I 110 1 := by rw [ek_fault_110_1 p2, f1.1 110 (by omega) (by omega)]
  have f_41_15 : I3 41 15 = I 41 15 := by rw [f2.1 41 (by omega), eb_fault_41_15 p1]
  have f_55_15 : I3 55 15 = I 55 15 := by rw [f2.1 55 (by omega), eb_fault_55_15 p1]
  have f_103_63 : I3 103 63 = I 103 63 := by rw [ek_fault_103_63 p2, f1.1 103 (by omega) (by omega)]
  exact ⟨(by rw [f_33_7, f_103_1]; exact hr.1), (by rw [f_41_13, f_110_0]; exact hr.2.1), (by rw [f_55_13, f_110_1]; exact hr.2.2.1), (by rw [f_41_15, f_55_15, f_103_63]; exact hr.2.2.2)⟩

theorem rel.tools {v0 v1 v2 v3 v4 : Int32} {x y : Int32} {n : Nat} {I I2 I3 : px_I} {L L2 L3 : px_L} {R : px_R} (hj : jJ n I R) (hr : rel I L) (f1 : frB I I2 L L2) (p1 : pb_tools v0 v1 v2 v3 v4 I L x I2 L2) (f2 : frK I2 I3 L2 L3) (p2 : pk_tools v0 v1 v2 v3 v4 I2 L2 y I3 L3) : rel I3 L3 := by
  have f_33_7 : I3 33 7 = I 33 7 := by rw [f2.1 33 (by omega), eb_tools_33_7 p1]
  have f_103_1 : I3 103 1 = I 103 1 := by rw [ek_tools_103_1 p2, f1.1 103 (by omega) (by omega)]
  have f_41_13 : I3 41 13 = I 41 13 := by rw [f2.1 41 (by omega), eb_tools_41_13 p1]
  have f_110_0 : I3 110 0 = I 110 0 := by rw [ek_tools_110_0 p2, f1.1 110 (by omega) (by omega)]
  have f_55_13 : I3 55 13 = I 55 13 := by rw [f2.1 55 (by omega), eb_tools_55_13 p1]
  have f_110_1 : I3 110 1 = I 110 1 := by rw [ek_tools_110_1 p2, f1.1 110 (by omega) (by omega)]
  have f_41_15 : I3 41 15 = I 41 15 := by rw [f2.1 41 (by omega), eb_tools_41_15 p1]
  have f_55_15 : I3 55 15 = I 55 15 := by rw [f2.1 55 (by omega), eb_tools_55_15 p1]
  have f_103_63 : I3 103 63 = I 103 63 := by rw [ek_tools_103_63 p2, f1.1 103 (by omega) (by omega)]
  exact ⟨(by rw [f_33_7, f_103_1]; exact hr.1), (by rw [f_41_13, f_110_0]; exact hr.2.1), (by rw [f_55_13, f_110_1]; exact hr.2.2.1), (by rw [f_41_15, f_55_15, f_103_63]; exact hr.2.2.2)⟩

theorem rel.run {v0 v1 v2 : Int32} {x y : Int32} {n : Nat} {I I2 I3 : px_I} {L L2 L3 : px_L} {R : px_R} (hj : jJ n I R) (hr : rel I L) (f1 : frB I I2 L L2) (p1 : pb_run v0 v1 v2 I L x I2 L2) (f2 : frK I2 I3 L2 L3) (p2 : pk_run v0 v1 v2 I2 L2 y I3 L3) : rel I3 L3 := by
  have f_33_7 : I3 33 7 = I 33 7 := by rw [f2.1 33 (by omega), eb_run_33_7 p1]
  have f_103_1 : I3 103 1 = I 103 1 := by rw [ek_run_103_1 p2, f1.1 103 (by omega) (by omega)]
  have f_41_13 : I3 41 13 = I 41 13 := by rw [f2.1 41 (by omega), eb_run_41_13 p1]
  have f_110_0 : I3 110 0 = I 110 0 := by rw [ek_run_110_0 p2, f1.1 110 (by omega) (by omega)]
  have f_55_13 : I3 55 13 = I 55 13 := by rw [f2.1 55 (by omega), eb_run_55_13 p1]
  have f_110_1 : I3 110 1 = I 110 1 := by rw [ek_run_110_1 p2, f1.1 110 (by omega) (by omega)]
  have f_41_15 : I3 41 15 = I 41 15 := by rw [f2.1 41 (by omega), eb_run_41_15 p1]
  have f_55_15 : I3 55 15 = I 55 15 := by rw [f2.1 55 (by omega), eb_run_55_15 p1]
  have f_103_63 : I3 103 63 = I 103 63 := by rw [ek_run_103_63 p2, f1.1 103 (by omega) (by omega)]
  exact ⟨(by rw [f_33_7, f_103_1]; exact hr.1), (by rw [f_41_13, f_110_0]; exact hr.2.1), (by rw [f_55_13, f_110_1]; exact hr.2.2.1), (by rw [f_41_15, f_55_15, f_103_63]; exact hr.2.2.2)⟩

theorem rel.meeting {v0 v1 v2 v3 v4 v5 : Int32} {x y : Int32} {n : Nat} {I I2 I3 : px_I} {L L2 L3 : px_L} {R : px_R} (hj : jJ n I R) (hr : rel I L) (f1 : frB I I2 L L2) (p1 : pb_meeting v0 v1 v2 v3 v4 v5 I L x I2 L2) (f2 : frK I2 I3 L2 L3) (p2 : pk_meeting v0 v1 v2 v3 v4 v5 I2 L2 y I3 L3) : rel I3 L3 := by
  have f_33_7 : I3 33 7 = I 33 7 := by rw [f2.1 33 (by omega), eb_meeting_33_7 p1]
  have f_103_1 : I3 103 1 = I 103 1 := by rw [ek_meeting_103_1 p2, f1.1 103 (by omega) (by omega)]
  have f_41_13 : I3 41 13 = I 41 13 := by rw [f2.1 41 (by omega), eb_meeting_41_13 p1]
  have f_110_0 : I3 110 0 = I 110 0 := by rw [ek_meeting_110_0 p2, f1.1 110 (by omega) (by omega)]
  have f_55_13 : I3 55 13 = I 55 13 := by rw [f2.1 55 (by omega), eb_meeting_55_13 p1]
  have f_110_1 : I3 110 1 = I 110 1 := by rw [ek_meeting_110_1 p2, f1.1 110 (by omega) (by omega)]
  have f_41_15 : I3 41 15 = I 41 15 := by rw [f2.1 41 (by omega), eb_meeting_41_15 p1]
  have f_55_15 : I3 55 15 = I 55 15 := by rw [f2.1 55 (by omega), eb_meeting_55_15 p1]
  have f_103_63 : I3 103 63 = I 103 63 := by rw [ek_meeting_103_63 p2, f1.1 103 (by omega) (by omega)]
  exact ⟨(by rw [f_33_7, f_103_1]; exact hr.1), (by rw [f_41_13, f_110_0]; exact hr.2.1), (by rw [f_55_13, f_110_1]; exact hr.2.2.1), (by rw [f_41_15, f_55_15, f_103_63]; exact hr.2.2.2)⟩

theorem rel.there {v0 v1 v2 : Int32} {x y : Int32} {n : Nat} {I I2 I3 : px_I} {L L2 L3 : px_L} {R : px_R} (hj : jJ n I R) (hr : rel I L) (f1 : frB I I2 L L2) (p1 : pb_there v0 v1 v2 I L x I2 L2) (f2 : frK I2 I3 L2 L3) (p2 : pk_there v0 v1 v2 I2 L2 y I3 L3) : rel I3 L3 := by
  have f_33_7 : I3 33 7 = I 33 7 := by rw [f2.1 33 (by omega), eb_there_33_7 p1]
  have f_103_1 : I3 103 1 = I 103 1 := by rw [ek_there_103_1 p2, f1.1 103 (by omega) (by omega)]
  have f_41_13 : I3 41 13 = I 41 13 := by rw [f2.1 41 (by omega), eb_there_41_13 p1]
  have f_110_0 : I3 110 0 = I 110 0 := by rw [ek_there_110_0 p2, f1.1 110 (by omega) (by omega)]
  have f_55_13 : I3 55 13 = I 55 13 := by rw [f2.1 55 (by omega), eb_there_55_13 p1]
  have f_110_1 : I3 110 1 = I 110 1 := by rw [ek_there_110_1 p2, f1.1 110 (by omega) (by omega)]
  have f_41_15 : I3 41 15 = I 41 15 := by rw [f2.1 41 (by omega), eb_there_41_15 p1]
  have f_55_15 : I3 55 15 = I 55 15 := by rw [f2.1 55 (by omega), eb_there_55_15 p1]
  have f_103_63 : I3 103 63 = I 103 63 := by rw [ek_there_103_63 p2, f1.1 103 (by omega) (by omega)]
  exact ⟨(by rw [f_33_7, f_103_1]; exact hr.1), (by rw [f_41_13, f_110_0]; exact hr.2.1), (by rw [f_55_13, f_110_1]; exact hr.2.2.1), (by rw [f_41_15, f_55_15, f_103_63]; exact hr.2.2.2)⟩

theorem rel.fits {v0 v1 v2 v3 : Int32} {x y : Int32} {n : Nat} {I I2 I3 : px_I} {L L2 L3 : px_L} {R : px_R} (hj : jJ n I R) (hr : rel I L) (f1 : frB I I2 L L2) (p1 : pb_fits v0 v1 v2 v3 I L x I2 L2) (f2 : frK I2 I3 L2 L3) (p2 : pk_fits v0 v1 v2 v3 I2 L2 y I3 L3) : rel I3 L3 := by
  have f_33_7 : I3 33 7 = I 33 7 := by rw [f2.1 33 (by omega), eb_fits_33_7 p1]
  have f_103_1 : I3 103 1 = I 103 1 := by rw [ek_fits_103_1 p2, f1.1 103 (by omega) (by omega)]
  have f_41_13 : I3 41 13 = I 41 13 := by rw [f2.1 41 (by omega), eb_fits_41_13 p1]
  have f_110_0 : I3 110 0 = I 110 0 := by rw [ek_fits_110_0 p2, f1.1 110 (by omega) (by omega)]
  have f_55_13 : I3 55 13 = I 55 13 := by rw [f2.1 55 (by omega), eb_fits_55_13 p1]
  have f_110_1 : I3 110 1 = I 110 1 := by rw [ek_fits_110_1 p2, f1.1 110 (by omega) (by omega)]
  have f_41_15 : I3 41 15 = I 41 15 := by rw [f2.1 41 (by omega), eb_fits_41_15 p1]
  have f_55_15 : I3 55 15 = I 55 15 := by rw [f2.1 55 (by omega), eb_fits_55_15 p1]
  have f_103_63 : I3 103 63 = I 103 63 := by rw [ek_fits_103_63 p2, f1.1 103 (by omega) (by omega)]
  exact ⟨(by rw [f_33_7, f_103_1]; exact hr.1), (by rw [f_41_13, f_110_0]; exact hr.2.1), (by rw [f_55_13, f_110_1]; exact hr.2.2.1), (by rw [f_41_15, f_55_15, f_103_63]; exact hr.2.2.2)⟩

theorem rel.ways {v0 v1 v2 v3 v4 : Int32} {x y : Int32} {n : Nat} {I I2 I3 : px_I} {L L2 L3 : px_L} {R : px_R} (hj : jJ n I R) (hr : rel I L) (f1 : frB I I2 L L2) (p1 : pb_ways v0 v1 v2 v3 v4 I L x I2 L2) (f2 : frK I2 I3 L2 L3) (p2 : pk_ways v0 v1 v2 v3 v4 I2 L2 y I3 L3) : rel I3 L3 := by
  have f_33_7 : I3 33 7 = I 33 7 := by rw [f2.1 33 (by omega), eb_ways_33_7 p1]
  have f_103_1 : I3 103 1 = I 103 1 := by rw [ek_ways_103_1 p2, f1.1 103 (by omega) (by omega)]
  have f_41_13 : I3 41 13 = I 41 13 := by rw [f2.1 41 (by omega), eb_ways_41_13 p1]
  have f_110_0 : I3 110 0 = I 110 0 := by rw [ek_ways_110_0 p2, f1.1 110 (by omega) (by omega)]
  have f_55_13 : I3 55 13 = I 55 13 := by rw [f2.1 55 (by omega), eb_ways_55_13 p1]
  have f_110_1 : I3 110 1 = I 110 1 := by rw [ek_ways_110_1 p2, f1.1 110 (by omega) (by omega)]
  have f_41_15 : I3 41 15 = I 41 15 := by rw [f2.1 41 (by omega), eb_ways_41_15 p1]
  have f_55_15 : I3 55 15 = I 55 15 := by rw [f2.1 55 (by omega), eb_ways_55_15 p1]
  have f_103_63 : I3 103 63 = I 103 63 := by rw [ek_ways_103_63 p2, f1.1 103 (by omega) (by omega)]
  exact ⟨(by rw [f_33_7, f_103_1]; exact hr.1), (by rw [f_41_13, f_110_0]; exact hr.2.1), (by rw [f_55_13, f_110_1]; exact hr.2.2.1), (by rw [f_41_15, f_55_15, f_103_63]; exact hr.2.2.2)⟩

theorem rel.seek {v0 v1 v2 v3 v4 v5 : Int32} {x y : Int32} {n : Nat} {I I2 I3 : px_I} {L L2 L3 : px_L} {R : px_R} (hj : jJ n I R) (hr : rel I L) (f1 : frB I I2 L L2) (p1 : pb_seek v0 v1 v2 v3 v4 v5 I L x I2 L2) (f2 : frK I2 I3 L2 L3) (p2 : pk_seek v0 v1 v2 v3 v4 v5 I2 L2 y I3 L3) : rel I3 L3 := by
  have f_33_7 : I3 33 7 = I 33 7 := by rw [f2.1 33 (by omega), eb_seek_33_7 p1]
  have f_103_1 : I3 103 1 = I 103 1 := by rw [ek_seek_103_1 p2, f1.1 103 (by omega) (by omega)]
  have f_41_13 : I3 41 13 = I 41 13 := by rw [f2.1 41 (by omega), eb_seek_41_13 p1]
  have f_110_0 : I3 110 0 = I 110 0 := by rw [ek_seek_110_0 p2, f1.1 110 (by omega) (by omega)]
  have f_55_13 : I3 55 13 = I 55 13 := by rw [f2.1 55 (by omega), eb_seek_55_13 p1]
  have f_110_1 : I3 110 1 = I 110 1 := by rw [ek_seek_110_1 p2, f1.1 110 (by omega) (by omega)]
  have f_41_15 : I3 41 15 = I 41 15 := by rw [f2.1 41 (by omega), eb_seek_41_15 p1]
  have f_55_15 : I3 55 15 = I 55 15 := by rw [f2.1 55 (by omega), eb_seek_55_15 p1]
  have f_103_63 : I3 103 63 = I 103 63 := by rw [ek_seek_103_63 p2, f1.1 103 (by omega) (by omega)]
  exact ⟨(by rw [f_33_7, f_103_1]; exact hr.1), (by rw [f_41_13, f_110_0]; exact hr.2.1), (by rw [f_55_13, f_110_1]; exact hr.2.2.1), (by rw [f_41_15, f_55_15, f_103_63]; exact hr.2.2.2)⟩

theorem rel.chance {n : Nat} {I I2 I3 : px_I} {L L2 L3 : px_L} {R : px_R} (hj : jJ n I R) (hr : rel I L) (f1 : frB I I2 L L2) (p1 : I2 = I ∧ cSL L L2) (f2 : frK I2 I3 L2 L3) (p2 : I3 = I2 ∧ mNL L2 L3) : rel I3 L3 := by
  have f_33_7 : I3 33 7 = I 33 7 := by rw [f2.1 33 (by omega), p1.1]
  have f_103_1 : I3 103 1 = I 103 1 := by rw [p2.1, f1.1 103 (by omega) (by omega)]
  have f_41_13 : I3 41 13 = I 41 13 := by rw [f2.1 41 (by omega), p1.1]
  have f_110_0 : I3 110 0 = I 110 0 := by rw [p2.1, f1.1 110 (by omega) (by omega)]
  have f_55_13 : I3 55 13 = I 55 13 := by rw [f2.1 55 (by omega), p1.1]
  have f_110_1 : I3 110 1 = I 110 1 := by rw [p2.1, f1.1 110 (by omega) (by omega)]
  have f_41_15 : I3 41 15 = I 41 15 := by rw [f2.1 41 (by omega), p1.1]
  have f_55_15 : I3 55 15 = I 55 15 := by rw [f2.1 55 (by omega), p1.1]
  have f_103_63 : I3 103 63 = I 103 63 := by rw [p2.1, f1.1 103 (by omega) (by omega)]
  exact ⟨(by rw [f_33_7, f_103_1]; exact hr.1), (by rw [f_41_13, f_110_0]; exact hr.2.1), (by rw [f_55_13, f_110_1]; exact hr.2.2.1), (by rw [f_41_15, f_55_15, f_103_63]; exact hr.2.2.2)⟩

theorem rel.detour {v0 v1 v2 : Int32} {x y : Int32} {n : Nat} {I I2 I3 : px_I} {L L2 L3 : px_L} {R : px_R} (hj : jJ n I R) (hr : rel I L) (f1 : frB I I2 L L2) (p1 : pb_detour v0 v1 v2 I L x I2 L2) (f2 : frK I2 I3 L2 L3) (p2 : pk_detour v0 v1 v2 I2 L2 y I3 L3) : rel I3 L3 := by
  have f_33_7 : I3 33 7 = I 33 7 := by rw [f2.1 33 (by omega), eb_detour_33_7 p1]
  have f_103_1 : I3 103 1 = I 103 1 := by rw [ek_detour_103_1 p2, f1.1 103 (by omega) (by omega)]
  have f_41_13 : I3 41 13 = I 41 13 := by rw [f2.1 41 (by omega), eb_detour_41_13 p1]
  have f_110_0 : I3 110 0 = I 110 0 := by rw [ek_detour_110_0 p2, f1.1 110 (by omega) (by omega)]
  have f_55_13 : I3 55 13 = I 55 13 := by rw [f2.1 55 (by omega), eb_detour_55_13 p1]
  have f_110_1 : I3 110 1 = I 110 1 := by rw [ek_detour_110_1 p2, f1.1 110 (by omega) (by omega)]
  have f_41_15 : I3 41 15 = I 41 15 := by rw [f2.1 41 (by omega), eb_detour_41_15 p1]
  have f_55_15 : I3 55 15 = I 55 15 := by rw [f2.1 55 (by omega), eb_detour_55_15 p1]
  have f_103_63 : I3 103 63 = I 103 63 := by rw [ek_detour_103_63 p2, f1.1 103 (by omega) (by omega)]
  exact ⟨(by rw [f_33_7, f_103_1]; exact hr.1), (by rw [f_41_13, f_110_0]; exact hr.2.1), (by rw [f_55_13, f_110_1]; exact hr.2.2.1), (by rw [f_41_15, f_55_15, f_103_63]; exact hr.2.2.2)⟩

theorem rel.table {v0 v1 : Int32} {x y : Int32} {n : Nat} {I I2 I3 : px_I} {L L2 L3 : px_L} {R : px_R} (hj : jJ n I R) (hr : rel I L) (f1 : frB I I2 L L2) (p1 : pb_table v0 v1 I L x I2 L2) (f2 : frK I2 I3 L2 L3) (p2 : pk_table v0 v1 I2 L2 y I3 L3) : rel I3 L3 := by
  have f_33_7 : I3 33 7 = I 33 7 := by rw [f2.1 33 (by omega), eb_table_33_7 p1]
  have f_103_1 : I3 103 1 = I 103 1 := by rw [ek_table_103_1 p2, f1.1 103 (by omega) (by omega)]
  have f_41_13 : I3 41 13 = I 41 13 := by rw [f2.1 41 (by omega), eb_table_41_13 p1]
  have f_110_0 : I3 110 0 = I 110 0 := by rw [ek_table_110_0 p2, f1.1 110 (by omega) (by omega)]
  have f_55_13 : I3 55 13 = I 55 13 := by rw [f2.1 55 (by omega), eb_table_55_13 p1]
  have f_110_1 : I3 110 1 = I 110 1 := by rw [ek_table_110_1 p2, f1.1 110 (by omega) (by omega)]
  have f_41_15 : I3 41 15 = I 41 15 := by rw [f2.1 41 (by omega), eb_table_41_15 p1]
  have f_55_15 : I3 55 15 = I 55 15 := by rw [f2.1 55 (by omega), eb_table_55_15 p1]
  have f_103_63 : I3 103 63 = I 103 63 := by rw [ek_table_103_63 p2, f1.1 103 (by omega) (by omega)]
  exact ⟨(by rw [f_33_7, f_103_1]; exact hr.1), (by rw [f_41_13, f_110_0]; exact hr.2.1), (by rw [f_55_13, f_110_1]; exact hr.2.2.1), (by rw [f_41_15, f_55_15, f_103_63]; exact hr.2.2.2)⟩

theorem relq_repair {v0 v1 v2 : Int32} {x y : Int32} {n : Nat} {I I2 I3 : px_I} {L L2 L3 : px_L} {R : px_R} (hj : jJ n I R) (hr : rel I L) (f1 : frB I I2 L L2) (p1 : pb_repair v0 v1 v2 I L x I2 L2) (f2 : frK I2 I3 L2 L3) (p2 : pk_repair v0 v1 v2 I2 L2 y I3 L3) : x = y ∧ (I3 41 15 + I3 55 15 = I3 103 63) := by
  have h_st : I 33 7 = I 103 1 := hr.1
  have h_pA : I 41 13 = I 110 0 := hr.2.1
  have h_pB : I 55 13 = I 110 1 := hr.2.2.1
  have h_rp : I 41 15 + I 55 15 = I 103 63 := hr.2.2.2
  unfold pb_repair at p1
  unfold pk_repair at p2
  have hl := hj.l
  unfold cGal at hl
  have e0 : I2 110 = I 110 := f1.1 110 (by omega) (by omega)
  have e1 : I2 103 = I 103 := f1.1 103 (by omega) (by omega)
  have hc : ∀ G, bG v0 G → I G 13 = I 110 v0.toNatClampNeg := by
    rintro G (⟨q1, q2⟩ | ⟨q1, q2⟩)
    · rw [q1, q2, px_n0]; exact h_pA
    · rw [q1, q2, px_n1]; exact h_pB
  have hm := hj.m.2.2.2.2.2.2.2
  have e5 : I3 41 = I2 41 := f2.1 41 (by omega)
  have e6 : I3 55 = I2 55 := f2.1 55 (by omega)
  rcases p1.2 with ⟨G, ⟨g1, g2, g3, g4, g5⟩, a2, a3⟩ | ⟨a1, a2, a3⟩
  · have c := hc G g1
    rcases p2.2 with ⟨b1, b2, b3⟩ | ⟨b1, b2, b3⟩
    · refine ⟨by rw [a2, b2, e1, ← h_rp], ?_⟩
      have k : I3 103 63 = I 103 63 + 1 := by rw [b3, px_u_at, e1]
      rw [k, e5, e6, ← h_rp, a3]
      rcases g1 with ⟨q1, q2⟩ | ⟨q1, q2⟩
      · rw [q2]; unfold cRep; rw [px_u_at, px_u_ne (by omega), px_u_ne (by omega), px_u_ne (by omega), px_u_ne (by omega)]; grind
      · rw [q2]; unfold cRep; rw [px_u_at, px_u_ne (by omega), px_u_ne (by omega), px_u_ne (by omega), px_u_ne (by omega)]; grind
    · refine absurd ?_ b1
      unfold mPegOk
      rw [e0, e1, ← c, ← h_rp]
      exact ⟨⟨(bG_le g1).1, (bG_le g1).2, by grind, by grind⟩, by grind, g4, by grind⟩
  · rcases p2.2 with ⟨b1, b2, b3⟩ | ⟨b1, b2, b3⟩
    · refine absurd ?_ a1
      obtain ⟨r0, r1, r2, r3⟩ := b1
      unfold mPegOk at r0
      obtain ⟨G, g1⟩ := bG_01 r0.1 r0.2.1
      have c := hc G g1
      rw [e0, ← c] at r0
      rw [e1, ← h_rp] at r3
      rw [← h_rp] at hm
      have : 0 ≤ I G 13 := by rcases g1 with ⟨q1, q2⟩ | ⟨q1, q2⟩ <;> rw [q2] <;> first | exact hl.1.1.1 | exact hl.2.1.1
      have s30 : I 41 15 + I 55 15 < 30 := by grind
      have sA := Int32.toInt_add (I 41 15) (I 55 15)
      have l1 := Int32.le_iff_toInt_le.mp hl.1.2.1
      have l2 := Int32.le_iff_toInt_le.mp hl.1.2.2
      have l3 := Int32.le_iff_toInt_le.mp hl.2.2.1
      have l4 := Int32.le_iff_toInt_le.mp hl.2.2.2
      rw [show (0 : Int32).toInt = 0 by decide] at l1 l3
      rw [show (30 : Int32).toInt = 30 by decide] at l2 l4
      rw [Int.bmod_eq_of_le (by omega) (by omega)] at sA
      have s3 := Int32.lt_iff_toInt_lt.mp s30
      rw [sA, show (30 : Int32).toInt = 30 by decide] at s3
      refine ⟨G, g1, s30, ⟨by grind, by grind⟩, r2, ?_⟩
      rw [Int32.lt_iff_toInt_lt, show (30 : Int32).toInt = 30 by decide]
      rcases g1 with ⟨q1, q2⟩ | ⟨q1, q2⟩ <;> rw [q2] <;> omega
    · refine ⟨by rw [a2, b2], ?_⟩
      rw [e5, e6, b3, e1, a3]
      exact h_rp

theorem rel.repair {v0 v1 v2 : Int32} {x y : Int32} {n : Nat} {I I2 I3 : px_I} {L L2 L3 : px_L} {R : px_R} (hj : jJ n I R) (hr : rel I L) (f1 : frB I I2 L L2) (p1 : pb_repair v0 v1 v2 I L x I2 L2) (f2 : frK I2 I3 L2 L3) (p2 : pk_repair v0 v1 v2 I2 L2 y I3 L3) : x = y ∧ rel I3 L3 := by
  have hq0 := (relq_repair hj hr f1 p1 f2 p2).2
  have f_33_7 : I3 33 7 = I 33 7 := by rw [f2.1 33 (by omega), eb_repair_33_7 p1]
  have f_103_1 : I3 103 1 = I 103 1 := by rw [ek_repair_103_1 p2, f1.1 103 (by omega) (by omega)]
  have f_41_13 : I3 41 13 = I 41 13 := by rw [f2.1 41 (by omega), eb_repair_41_13 p1]
  have f_110_0 : I3 110 0 = I 110 0 := by rw [ek_repair_110_0 p2, f1.1 110 (by omega) (by omega)]
  have f_55_13 : I3 55 13 = I 55 13 := by rw [f2.1 55 (by omega), eb_repair_55_13 p1]
  have f_110_1 : I3 110 1 = I 110 1 := by rw [ek_repair_110_1 p2, f1.1 110 (by omega) (by omega)]
  exact ⟨(relq_repair hj hr f1 p1 f2 p2).1, ⟨(by rw [f_33_7, f_103_1]; exact hr.1), (by rw [f_41_13, f_110_0]; exact hr.2.1), (by rw [f_55_13, f_110_1]; exact hr.2.2.1), hq0⟩⟩

theorem rel.lime {v0 : Int32} {x y : Int32} {n : Nat} {I I2 I3 : px_I} {L L2 L3 : px_L} {R : px_R} (hj : jJ n I R) (hr : rel I L) (f1 : frB I I2 L L2) (p1 : pb_lime v0 I L x I2 L2) (f2 : frK I2 I3 L2 L3) (p2 : pk_lime v0 I2 L2 y I3 L3) : rel I3 L3 := by
  have f_33_7 : I3 33 7 = I 33 7 := by rw [f2.1 33 (by omega), eb_lime_33_7 p1]
  have f_103_1 : I3 103 1 = I 103 1 := by rw [ek_lime_103_1 p2, f1.1 103 (by omega) (by omega)]
  have f_41_13 : I3 41 13 = I 41 13 := by rw [f2.1 41 (by omega), eb_lime_41_13 p1]
  have f_110_0 : I3 110 0 = I 110 0 := by rw [ek_lime_110_0 p2, f1.1 110 (by omega) (by omega)]
  have f_55_13 : I3 55 13 = I 55 13 := by rw [f2.1 55 (by omega), eb_lime_55_13 p1]
  have f_110_1 : I3 110 1 = I 110 1 := by rw [ek_lime_110_1 p2, f1.1 110 (by omega) (by omega)]
  have f_41_15 : I3 41 15 = I 41 15 := by rw [f2.1 41 (by omega), eb_lime_41_15 p1]
  have f_55_15 : I3 55 15 = I 55 15 := by rw [f2.1 55 (by omega), eb_lime_55_15 p1]
  have f_103_63 : I3 103 63 = I 103 63 := by rw [ek_lime_103_63 p2, f1.1 103 (by omega) (by omega)]
  exact ⟨(by rw [f_33_7, f_103_1]; exact hr.1), (by rw [f_41_13, f_110_0]; exact hr.2.1), (by rw [f_55_13, f_110_1]; exact hr.2.2.1), (by rw [f_41_15, f_55_15, f_103_63]; exact hr.2.2.2)⟩

theorem rel.flow {v0 v1 v2 v3 : Int32} {x y : Int32} {n : Nat} {I I2 I3 : px_I} {L L2 L3 : px_L} {R : px_R} (hj : jJ n I R) (hr : rel I L) (f1 : frB I I2 L L2) (p1 : pb_flow v0 v1 v2 v3 I L x I2 L2) (f2 : frK I2 I3 L2 L3) (p2 : pk_flow v0 v1 v2 v3 I2 L2 y I3 L3) : rel I3 L3 := by
  have f_33_7 : I3 33 7 = I 33 7 := by rw [f2.1 33 (by omega), eb_flow_33_7 p1]
  have f_103_1 : I3 103 1 = I 103 1 := by rw [ek_flow_103_1 p2, f1.1 103 (by omega) (by omega)]
  have f_41_13 : I3 41 13 = I 41 13 := by rw [f2.1 41 (by omega), eb_flow_41_13 p1]
  have f_110_0 : I3 110 0 = I 110 0 := by rw [ek_flow_110_0 p2, f1.1 110 (by omega) (by omega)]
  have f_55_13 : I3 55 13 = I 55 13 := by rw [f2.1 55 (by omega), eb_flow_55_13 p1]
  have f_110_1 : I3 110 1 = I 110 1 := by rw [ek_flow_110_1 p2, f1.1 110 (by omega) (by omega)]
  have f_41_15 : I3 41 15 = I 41 15 := by rw [f2.1 41 (by omega), eb_flow_41_15 p1]
  have f_55_15 : I3 55 15 = I 55 15 := by rw [f2.1 55 (by omega), eb_flow_55_15 p1]
  have f_103_63 : I3 103 63 = I 103 63 := by rw [ek_flow_103_63 p2, f1.1 103 (by omega) (by omega)]
  exact ⟨(by rw [f_33_7, f_103_1]; exact hr.1), (by rw [f_41_13, f_110_0]; exact hr.2.1), (by rw [f_55_13, f_110_1]; exact hr.2.2.1), (by rw [f_41_15, f_55_15, f_103_63]; exact hr.2.2.2)⟩

theorem rel.narrow {v0 v1 v2 : Int32} {x y : Int32} {n : Nat} {I I2 I3 : px_I} {L L2 L3 : px_L} {R : px_R} (hj : jJ n I R) (hr : rel I L) (f1 : frB I I2 L L2) (p1 : pb_narrow v0 v1 v2 I L x I2 L2) (f2 : frK I2 I3 L2 L3) (p2 : pk_narrow v0 v1 v2 I2 L2 y I3 L3) : rel I3 L3 := by
  have f_33_7 : I3 33 7 = I 33 7 := by rw [f2.1 33 (by omega), eb_narrow_33_7 p1]
  have f_103_1 : I3 103 1 = I 103 1 := by rw [ek_narrow_103_1 p2, f1.1 103 (by omega) (by omega)]
  have f_41_13 : I3 41 13 = I 41 13 := by rw [f2.1 41 (by omega), eb_narrow_41_13 p1]
  have f_110_0 : I3 110 0 = I 110 0 := by rw [ek_narrow_110_0 p2, f1.1 110 (by omega) (by omega)]
  have f_55_13 : I3 55 13 = I 55 13 := by rw [f2.1 55 (by omega), eb_narrow_55_13 p1]
  have f_110_1 : I3 110 1 = I 110 1 := by rw [ek_narrow_110_1 p2, f1.1 110 (by omega) (by omega)]
  have f_41_15 : I3 41 15 = I 41 15 := by rw [f2.1 41 (by omega), eb_narrow_41_15 p1]
  have f_55_15 : I3 55 15 = I 55 15 := by rw [f2.1 55 (by omega), eb_narrow_55_15 p1]
  have f_103_63 : I3 103 63 = I 103 63 := by rw [ek_narrow_103_63 p2, f1.1 103 (by omega) (by omega)]
  exact ⟨(by rw [f_33_7, f_103_1]; exact hr.1), (by rw [f_41_13, f_110_0]; exact hr.2.1), (by rw [f_55_13, f_110_1]; exact hr.2.2.1), (by rw [f_41_15, f_55_15, f_103_63]; exact hr.2.2.2)⟩

theorem rel.about {v0 : Int32} {x y : Int32} {n : Nat} {I I2 I3 : px_I} {L L2 L3 : px_L} {R : px_R} (hj : jJ n I R) (hr : rel I L) (f1 : frB I I2 L L2) (p1 : pb_about v0 I L x I2 L2) (f2 : frK I2 I3 L2 L3) (p2 : pk_about v0 I2 L2 y I3 L3) : rel I3 L3 := by
  have f_33_7 : I3 33 7 = I 33 7 := by rw [f2.1 33 (by omega), eb_about_33_7 p1]
  have f_103_1 : I3 103 1 = I 103 1 := by rw [ek_about_103_1 p2, f1.1 103 (by omega) (by omega)]
  have f_41_13 : I3 41 13 = I 41 13 := by rw [f2.1 41 (by omega), eb_about_41_13 p1]
  have f_110_0 : I3 110 0 = I 110 0 := by rw [ek_about_110_0 p2, f1.1 110 (by omega) (by omega)]
  have f_55_13 : I3 55 13 = I 55 13 := by rw [f2.1 55 (by omega), eb_about_55_13 p1]
  have f_110_1 : I3 110 1 = I 110 1 := by rw [ek_about_110_1 p2, f1.1 110 (by omega) (by omega)]
  have f_41_15 : I3 41 15 = I 41 15 := by rw [f2.1 41 (by omega), eb_about_41_15 p1]
  have f_55_15 : I3 55 15 = I 55 15 := by rw [f2.1 55 (by omega), eb_about_55_15 p1]
  have f_103_63 : I3 103 63 = I 103 63 := by rw [ek_about_103_63 p2, f1.1 103 (by omega) (by omega)]
  exact ⟨(by rw [f_33_7, f_103_1]; exact hr.1), (by rw [f_41_13, f_110_0]; exact hr.2.1), (by rw [f_55_13, f_110_1]; exact hr.2.2.1), (by rw [f_41_15, f_55_15, f_103_63]; exact hr.2.2.2)⟩
