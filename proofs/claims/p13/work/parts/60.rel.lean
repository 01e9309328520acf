/-! what agrees in both books -/

theorem px_n0 : (0 : Int32).toNatClampNeg = 0 := by decide
theorem px_n1 : (1 : Int32).toNatClampNeg = 1 := by decide
theorem px_01 {g : Int32} (h0 : 0 ≤ g) (h1 : g ≤ 1) : g = 0 ∨ g = 1 := by grind
theorem cReach_p {G : Nat} {I : px_I} {lo hi sl fa w st : Int32} : cReach G I lo hi sl fa w st G 13 = (if I G 13 = 0 then 1 else I G 13) + 1 := by
  unfold cReach cRch
  rw [px_u_ne (by omega), px_u_ne (by omega), px_u_ne (by omega), px_u_ne (by omega), px_u_ne (by omega), cPeg_13]
  split
  · rename_i h
    rw [cPeg_13, h]; rfl
  · rfl
theorem mReach_p {I : px_I} {g lo hi sl fa w st : Int32} : mReach I g lo hi sl fa w st 110 g.toNatClampNeg = mP0 I g + 1 := by unfold mReach; rw [px_u_at]
theorem mReach_q {I : px_I} {g lo hi sl fa w st : Int32} {k : Nat} (h : k ≠ g.toNatClampNeg) : mReach I g lo hi sl fa w st 110 k = I 110 k := by
  unfold mReach
  rw [px_u_at_ne h]
  repeat rw [px_u_ne (by omega)]
  rw [px_u_at_ne h]
theorem bG_01 {g : Int32} (h0 : 0 ≤ g) (h1 : g ≤ 1) : ∃ G, bG g G := by
  rcases px_01 h0 h1 with rfl | rfl
  · exact ⟨41, Or.inl ⟨rfl, rfl⟩⟩
  · exact ⟨55, Or.inr ⟨rfl, rfl⟩⟩
theorem bG_le {g : Int32} {G : Nat} (h : bG g G) : 0 ≤ g ∧ g ≤ 1 := by
  rcases h with ⟨rfl, rfl⟩ | ⟨rfl, rfl⟩ <;> decide

theorem dg_eq {I J : px_I} (h1 : J 41 13 = I 41 13) (h2 : J 55 13 = I 55 13) (a1 : J 45 = I 45) (a2 : J 46 = I 46) (a3 : J 59 = I 59) (a4 : J 60 = I 60) (b1 : J 111 = I 111) (b2 : J 112 = I 112) (b3 : J 113 = I 113) (b4 : J 114 = I 114) (h : dgOk I 41 0 ∧ dgOk I 55 1) : dgOk J 41 0 ∧ dgOk J 55 1 := by
  show dgF (J 45) (J 46) (J 111) (J 112) (J 113) (J 114) (20 * 0) (J 41 13) ∧ dgF (J 59) (J 60) (J 111) (J 112) (J 113) (J 114) (20 * 1) (J 55 13)
  rw [h1, h2, a1, a2, a3, a4, b1, b2, b3, b4]
  exact h
theorem mq_eq {I J : px_I} (h1 : J 41 13 = I 41 13) (h2 : J 55 13 = I 55 13) (a1 : J 48 = I 48) (a2 : J 49 = I 49) (a3 : J 62 = I 62) (a4 : J 63 = I 63) (h3 : J 103 16 = I 103 16) (b1 : J 117 = I 117) (b2 : J 118 = I 118) (b3 : J 119 = I 119) (b4 : J 120 = I 120) (h : (mqOk I 41 0 ∧ mqOk I 55 1) ∧ mrOk I) : (mqOk J 41 0 ∧ mqOk J 55 1) ∧ mrOk J := by
  unfold mrOk at *
  show (mqF (J 48) (J 49) (J 117) (J 118) (J 119) (J 120) 0 (J 103 16).toNatClampNeg (J 41 13) ∧ mqF (J 62) (J 63) (J 117) (J 118) (J 119) (J 120) 1 (J 103 16).toNatClampNeg (J 55 13)) ∧ _
  rw [h1, h2, a1, a2, a3, a4, h3, b1, b2, b3, b4]
  exact h
theorem px_P {c : Int32} (h : 0 ≤ c) : ((c = 0 ∧ (if c = 0 then 1 else c) = 1) ∨ (c ≠ 0 ∧ (if c = 0 then 1 else c) = c)) ∧ (c < 20 → 1 ≤ (if c = 0 then 1 else c) ∧ (if c = 0 then 1 else c) < 20) := by
  by_cases z : c = 0
  · rw [if_pos z]; exact ⟨Or.inl ⟨z, rfl⟩, fun _ => by decide⟩
  · rw [if_neg z]; exact ⟨Or.inr ⟨z, rfl⟩, fun q => by grind⟩

theorem eb_days_33_7 {x9 x : Int32} {I I2 : px_I} {L L2 : px_L} (h : pb_days x9 I L x I2 L2) : I2 33 7 = I 33 7 := by
  unfold pb_days at h
  obtain ⟨rfl, h⟩ := h
  rcases h with ⟨a1, a2, rfl, rfl⟩ | ⟨a1, rfl, rfl⟩
  · (repeat rw [px_u_out (by omega)])
  · rfl

theorem ek_days_103_1 {x9 x : Int32} {I I2 : px_I} {L L2 : px_L} (h : pk_days x9 I L x I2 L2) : I2 103 1 = I 103 1 := by
  unfold pk_days at h
  obtain ⟨rfl, h⟩ := h
  rcases h with ⟨a1, a2, a3, rfl, rfl⟩ | ⟨a1, rfl, rfl⟩
  · (repeat rw [px_u_out (by omega)])
  · rfl

theorem eb_sight_33_7 {a f t lo hi x : Int32} {I I2 : px_I} {L L2 : px_L} (h : pb_sight a f t lo hi I L x I2 L2) : I2 33 7 = I 33 7 := by
  unfold pb_sight at h
  obtain ⟨rfl, h⟩ := h
  rcases h with ⟨a1, rfl, rfl⟩ | ⟨a1, rfl, rfl⟩
  · (repeat rw [px_u_out (by omega)])
  · rfl

theorem ek_sight_103_1 {a f t lo hi x : Int32} {I I2 : px_I} {L L2 : px_L} (h : pk_sight a f t lo hi I L x I2 L2) : I2 103 1 = I 103 1 := by
  unfold pk_sight at h
  obtain ⟨rfl, h⟩ := h
  rcases h with ⟨a1, rfl, rfl⟩ | ⟨a1, rfl, rfl⟩
  · (repeat rw [px_u_out (by omega)])
  · rfl

theorem eb_closed_33_7 {a k x : Int32} {I I2 : px_I} {L L2 : px_L} (h : pb_closed a k I L x I2 L2) : I2 33 7 = I 33 7 := by
  unfold pb_closed at h
  obtain ⟨rfl, h⟩ := h
  rfl

theorem ek_closed_103_1 {a k x : Int32} {I I2 : px_I} {L L2 : px_L} (h : pk_closed a k I L x I2 L2) : I2 103 1 = I 103 1 := by
  unfold pk_closed at h
  exact h.1 103 1 (by omega)

theorem eb_span_33_7 {a t k h x : Int32} {I I2 : px_I} {L L2 : px_L} (h : pb_span a t k h I L x I2 L2) : I2 33 7 = I 33 7 := by
  unfold pb_span at h
  obtain ⟨rfl, h⟩ := h
  rfl

theorem ek_span_103_1 {a t k h x : Int32} {I I2 : px_I} {L L2 : px_L} (h : pk_span a t k h I L x I2 L2) : I2 103 1 = I 103 1 := by
  unfold pk_span at h
  exact h.1 103 1 (by omega)

theorem eb_gap_33_7 {a f t k h x : Int32} {I I2 : px_I} {L L2 : px_L} (h : pb_gap a f t k h I L x I2 L2) : I2 33 7 = I 33 7 := by
  unfold pb_gap at h
  obtain ⟨rfl, h⟩ := h
  rfl

theorem ek_gap_103_1 {a f t k h x : Int32} {I I2 : px_I} {L L2 : px_L} (h : pk_gap a f t k h I L x I2 L2) : I2 103 1 = I 103 1 := by
  unfold pk_gap at h
  exact h.1 103 1 (by omega)

theorem eb_blamed_33_7 {a k i x : Int32} {I I2 : px_I} {L L2 : px_L} (h : pb_blamed a k i I L x I2 L2) : I2 33 7 = I 33 7 := by
  unfold pb_blamed at h
  obtain ⟨rfl, h⟩ := h
  rfl

theorem ek_blamed_103_1 {a k i x : Int32} {I I2 : px_I} {L L2 : px_L} (h : pk_blamed a k i I L x I2 L2) : I2 103 1 = I 103 1 := by
  unfold pk_blamed at h
  exact h.1 103 1 (by omega)

theorem eb_reach_33_7 {g lo hi sl fa w st x : Int32} {I I2 : px_I} {L L2 : px_L} (h : pb_reach g lo hi sl fa w st I L x I2 L2) : I2 33 7 = I 33 7 := by
  unfold pb_reach at h
  obtain ⟨rfl, h⟩ := h
  rcases h with ⟨G, ⟨g1, g2, g3⟩, rfl, rfl⟩ | ⟨a1, rfl, rfl⟩
  · have gG : G = 41 ∨ G = 55 := by unfold bG at g1; omega
    rw [cReach_o (by omega)]
  · rfl

theorem ek_reach_103_1 {g lo hi sl fa w st x : Int32} {I I2 : px_I} {L L2 : px_L} (h : pk_reach g lo hi sl fa w st I L x I2 L2) : I2 103 1 = I 103 1 := by
  unfold pk_reach at h
  obtain ⟨rfl, h⟩ := h
  rcases h with ⟨a1, rfl, rfl⟩ | ⟨a1, rfl, rfl⟩
  · unfold mReach; (repeat rw [px_u_out (by omega)])
  · rfl

theorem eb_mouth_33_7 {g st x : Int32} {I I2 : px_I} {L L2 : px_L} (h : pb_mouth g st I L x I2 L2) : I2 33 7 = I 33 7 := by
  unfold pb_mouth at h
  obtain ⟨rfl, h⟩ := h
  rcases h with ⟨G, g1, rfl⟩ | rfl
  · have gG : G = 41 ∨ G = 55 := by unfold bG at g1; omega
    (repeat rw [px_u_out (by omega)])
  · rfl

theorem ek_mouth_103_1 {g st x : Int32} {I I2 : px_I} {L L2 : px_L} (h : pk_mouth g st I L x I2 L2) : I2 103 1 = I 103 1 := by
  unfold pk_mouth at h
  obtain ⟨rfl, h⟩ := h
  rcases h with ⟨a1, a2, rfl, rfl⟩ | ⟨a1, rfl, rfl⟩
  · (repeat rw [px_u_out (by omega)])
  · rfl

theorem eb_mark_33_7 {g p f t x : Int32} {I I2 : px_I} {L L2 : px_L} (h : pb_mark g p f t I L x I2 L2) : I2 33 7 = I 33 7 := by
  unfold pb_mark at h
  obtain ⟨rfl, h⟩ := h
  rcases h with ⟨G, g1, rfl, rfl⟩ | ⟨a1, rfl, rfl⟩
  · have g2 := g1.1
    have gG : G = 41 ∨ G = 55 := by unfold bG at g2; omega
    unfold cMark; (repeat rw [px_u_out (by omega)])
  · rfl

theorem ek_mark_103_1 {g p f t x : Int32} {I I2 : px_I} {L L2 : px_L} (h : pk_mark g p f t I L x I2 L2) : I2 103 1 = I 103 1 := by
  unfold pk_mark at h
  obtain ⟨rfl, h⟩ := h
  rcases h with ⟨a1, rfl, rfl⟩ | ⟨a1, rfl, rfl⟩
  · unfold mMark; (repeat rw [px_u_out (by omega)])
  · rfl

theorem eb_when_33_7 {g p h x : Int32} {I I2 : px_I} {L L2 : px_L} (h : pb_when g p h I L x I2 L2) : I2 33 7 = I 33 7 := by
  unfold pb_when at h
  obtain ⟨rfl, h⟩ := h
  rw [h 33 (by decide) (by decide) (by decide) (by decide)]

theorem ek_when_103_1 {g p h x : Int32} {I I2 : px_I} {L L2 : px_L} (h : pk_when g p h I L x I2 L2) : I2 103 1 = I 103 1 := by
  unfold pk_when at h
  exact h.1 103 1 (by omega)

theorem eb_between_33_7 {g p q h x : Int32} {I I2 : px_I} {L L2 : px_L} (h : pb_between g p q h I L x I2 L2) : I2 33 7 = I 33 7 := by
  unfold pb_between at h
  obtain ⟨rfl, h⟩ := h
  rw [h 33 (by decide) (by decide) (by decide) (by decide)]

theorem ek_between_103_1 {g p t h x : Int32} {I I2 : px_I} {L L2 : px_L} (h : pk_between g p t h I L x I2 L2) : I2 103 1 = I 103 1 := by
  unfold pk_between at h
  exact h.1 103 1 (by omega)

theorem eb_lamps_33_7 {g p h lo hi x : Int32} {I I2 : px_I} {L L2 : px_L} (h : pb_lamps g p h lo hi I L x I2 L2) : I2 33 7 = I 33 7 := by
  unfold pb_lamps at h
  rw [h.1]

theorem ek_lamps_103_1 {g p h lo hi x : Int32} {I I2 : px_I} {L L2 : px_L} (h : pk_lamps g p h lo hi I L x I2 L2) : I2 103 1 = I 103 1 := by
  unfold pk_lamps at h
  rw [h.1]

theorem eb_count_33_7 {u lo hi x : Int32} {I I2 : px_I} {L L2 : px_L} (h : pb_count u lo hi I L x I2 L2) : I2 33 7 = I 33 7 := by
  unfold pb_count at h
  obtain ⟨rfl, h⟩ := h
  rcases h with ⟨a1, rfl, rfl⟩ | ⟨a1, rfl, rfl⟩
  · (repeat rw [px_u_out (by omega)])
  · rfl

theorem ek_count_103_1 {u lo hi x : Int32} {I I2 : px_I} {L L2 : px_L} (h : pk_count u lo hi I L x I2 L2) : I2 103 1 = I 103 1 := by
  unfold pk_count at h
  rcases h with ⟨a1, rfl, rfl, rfl⟩ | ⟨a1, rfl, rfl, rfl⟩
  · (repeat rw [px_u_out (by omega)])
  · rfl

theorem eb_unit_33_7 {h x : Int32} {I I2 : px_I} {L L2 : px_L} (h : pb_unit h I L x I2 L2) : I2 33 7 = I 33 7 := by
  unfold pb_unit at h
  rw [h.1]

theorem ek_unit_103_1 {h x : Int32} {I I2 : px_I} {L L2 : px_L} (h : pk_unit h I L x I2 L2) : I2 103 1 = I 103 1 := by
  unfold pk_unit at h
  rw [h.1]

theorem eb_feed_33_7 {a b c d e x : Int32} {I I2 : px_I} {L L2 : px_L} (h : pb_feed a b c d e I L x I2 L2) : I2 33 7 = I 33 7 := by
  unfold pb_feed at h
  obtain ⟨rfl, h⟩ := h
  rcases h with ⟨a1, rfl, rfl⟩ | ⟨a1, rfl, rfl⟩
  · rw [cApp_at _ _ 33 7 (by omega) (by omega), cApp_at _ _ 33 7 (by omega) (by omega), cApp_at _ _ 33 7 (by omega) (by omega), cApp_at _ _ 33 7 (by omega) (by omega), cApp_at _ _ 33 7 (by omega) (by omega)]
  · rfl

theorem ek_feed_103_1 {a b c d e x : Int32} {I I2 : px_I} {L L2 : px_L} (h : pk_feed a b c d e I L x I2 L2) : I2 103 1 = I 103 1 := by
  unfold pk_feed at h
  obtain ⟨rfl, h⟩ := h
  rcases h with ⟨a1, rfl, rfl⟩ | ⟨a1, rfl, rfl⟩
  · rw [mPut_o (by omega) (by omega), mPut_o (by omega) (by omega), mPut_o (by omega) (by omega), mPut_o (by omega) (by omega), mPut_o (by omega) (by omega)]
  · rfl

theorem eb_end_33_7 {x9 x : Int32} {I I2 : px_I} {L L2 : px_L} (h : pb_end x9 I L x I2 L2) : I2 33 7 = I 33 7 := by
  unfold pb_end at h
  obtain ⟨rfl, h⟩ := h
  rcases h with ⟨a1, rfl, rfl⟩ | ⟨a1, rfl, rfl⟩
  · (repeat rw [px_u_out (by omega)])
  · rfl

theorem ek_end_103_1 {x9 x : Int32} {I I2 : px_I} {L L2 : px_L} (h : pk_end x9 I L x I2 L2) : I2 103 1 = I 103 1 := by
  unfold pk_end at h
  obtain ⟨rfl, h⟩ := h
  rcases h with ⟨a1, a2, rfl, rfl⟩ | ⟨a1, rfl, rfl⟩
  · (repeat rw [px_u_out (by omega)])
  · rfl

theorem eb_way_33_7 {i x : Int32} {I I2 : px_I} {L L2 : px_L} (h : pb_way i I L x I2 L2) : I2 33 7 = I 33 7 := by
  unfold pb_way at h
  exact h.1 33 7 (by omega) (by omega) (by omega) (by omega) (by omega)

theorem ek_way_103_1 {w x : Int32} {I I2 : px_I} {L L2 : px_L} (h : pk_way w I L x I2 L2) : I2 103 1 = I 103 1 := by
  unfold pk_way at h
  obtain ⟨rfl, h⟩ := h
  rcases h with ⟨a1, a2, rfl⟩ | ⟨a1, a2, a3⟩
  · rfl
  · exact a2 103 1 (by omega) (by omega)

theorem eb_fault_33_7 {x9 x : Int32} {I I2 : px_I} {L L2 : px_L} (h : pb_fault x9 I L x I2 L2) : I2 33 7 = I 33 7 := by
  unfold pb_fault at h
  rw [h.1]

theorem ek_fault_103_1 {x9 x : Int32} {I I2 : px_I} {L L2 : px_L} (h : pk_fault x9 I L x I2 L2) : I2 103 1 = I 103 1 := by
  unfold pk_fault at h
  rw [h.1]

theorem eb_tools_33_7 {a b c d e x : Int32} {I I2 : px_I} {L L2 : px_L} (h : pb_tools a b c d e I L x I2 L2) : I2 33 7 = I 33 7 := by
  unfold pb_tools at h
  obtain ⟨rfl, h⟩ := h
  rcases h with ⟨a1, rfl, a2⟩ | ⟨a1, rfl, rfl⟩
  · rw [a2 33 (by decide)]; (repeat rw [px_u_out (by omega)])
  · rfl

theorem ek_tools_103_1 {a b c d e x : Int32} {I I2 : px_I} {L L2 : px_L} (h : pk_tools a b c d e I L x I2 L2) : I2 103 1 = I 103 1 := by
  unfold pk_tools at h
  obtain ⟨rfl, h⟩ := h
  rcases h with ⟨a1, rfl, rfl⟩ | ⟨a1, rfl, rfl⟩
  · (repeat rw [px_u_out (by omega)])
  · rfl

theorem eb_run_33_7 {w h a x : Int32} {I I2 : px_I} {L L2 : px_L} (h : pb_run w h a I L x I2 L2) : I2 33 7 = I 33 7 := by
  unfold pb_run at h
  exact h.1 33 7 (by omega) (by omega) (by omega) (by omega) (by omega) (by omega) (by omega)

theorem ek_run_103_1 {w h a x : Int32} {I I2 : px_I} {L L2 : px_L} (h : pk_run w h a I L x I2 L2) : I2 103 1 = I 103 1 := by
  unfold pk_run at h
  exact h.1 103 1 (by omega) (by omega) (by omega)

theorem eb_meeting_33_7 {a f b t x9 h x : Int32} {I I2 : px_I} {L L2 : px_L} (h : pb_meeting a f b t x9 h I L x I2 L2) : I2 33 7 = I 33 7 := by
  unfold pb_meeting at h
  exact h.1 33 7 (by omega) (by omega) (by omega) (by omega) (by omega) (by omega) (by omega)

theorem ek_meeting_103_1 {a f b t x9 h x : Int32} {I I2 : px_I} {L L2 : px_L} (h : pk_meeting a f b t x9 h I L x I2 L2) : I2 103 1 = I 103 1 := by
  unfold pk_meeting at h
  exact h.1 103 1 (by omega) (by omega) (by omega)

theorem eb_there_33_7 {a lo hi x : Int32} {I I2 : px_I} {L L2 : px_L} (h : pb_there a lo hi I L x I2 L2) : I2 33 7 = I 33 7 := by
  unfold pb_there at h
  obtain ⟨rfl, h⟩ := h
  rcases h with ⟨a1, rfl, rfl⟩ | ⟨a1, rfl, rfl⟩
  · (repeat rw [px_u_out (by omega)])
  · rfl

theorem ek_there_103_1 {a lo hi x : Int32} {I I2 : px_I} {L L2 : px_L} (h : pk_there a lo hi I L x I2 L2) : I2 103 1 = I 103 1 := by
  unfold pk_there at h
  obtain ⟨rfl, h⟩ := h
  rcases h with ⟨a1, rfl, rfl⟩ | ⟨a1, rfl, rfl⟩
  · (repeat rw [px_u_out (by omega)])
  · rfl

theorem eb_fits_33_7 {a f b t x : Int32} {I I2 : px_I} {L L2 : px_L} (h : pb_fits a f b t I L x I2 L2) : I2 33 7 = I 33 7 := by
  unfold pb_fits at h
  exact h.1 33 7 (by omega) (by omega) (by omega) (by omega) (by omega) (by omega) (by omega)

theorem ek_fits_103_1 {a f b t x : Int32} {I I2 : px_I} {L L2 : px_L} (h : pk_fits a f b t I L x I2 L2) : I2 103 1 = I 103 1 := by
  unfold pk_fits at h
  exact h.1 103 1 (by omega) (by omega) (by omega)

theorem eb_ways_33_7 {a f b t x9 x : Int32} {I I2 : px_I} {L L2 : px_L} (h : pb_ways a f b t x9 I L x I2 L2) : I2 33 7 = I 33 7 := by
  unfold pb_ways at h
  exact h.1 33 7 (by omega) (by omega) (by omega) (by omega) (by omega) (by omega) (by omega)

theorem ek_ways_103_1 {a f b t x9 x : Int32} {I I2 : px_I} {L L2 : px_L} (h : pk_ways a f b t x9 I L x I2 L2) : I2 103 1 = I 103 1 := by
  unfold pk_ways at h
  exact h.1 103 1 (by omega) (by omega) (by omega)

theorem eb_seek_33_7 {a b c d e f x : Int32} {I I2 : px_I} {L L2 : px_L} (h : pb_seek a b c d e f I L x I2 L2) : I2 33 7 = I 33 7 := by
  unfold pb_seek at h
  obtain ⟨rfl, h⟩ := h
  rcases h with ⟨a1, rfl, rfl⟩ | ⟨a1, rfl, rfl⟩
  · (repeat rw [px_u_out (by omega)])
  · rfl

theorem ek_seek_103_1 {a b c d e f x : Int32} {I I2 : px_I} {L L2 : px_L} (h : pk_seek a b c d e f I L x I2 L2) : I2 103 1 = I 103 1 := by
  unfold pk_seek at h
  obtain ⟨rfl, h⟩ := h
  rcases h with ⟨a1, rfl, rfl⟩ | ⟨a1, rfl, rfl⟩
  · (repeat rw [px_u_out (by omega)])
  · rfl

theorem eb_detour_33_7 {a o h x : Int32} {I I2 : px_I} {L L2 : px_L} (h : pb_detour a o h I L x I2 L2) : I2 33 7 = I 33 7 := by
  unfold pb_detour at h
  rw [h.1]

theorem ek_detour_103_1 {a o lo x : Int32} {I I2 : px_I} {L L2 : px_L} (h : pk_detour a o lo I L x I2 L2) : I2 103 1 = I 103 1 := by
  unfold pk_detour at h
  rw [h.1]

theorem eb_table_33_7 {c v x : Int32} {I I2 : px_I} {L L2 : px_L} (h : pb_table c v I L x I2 L2) : I2 33 7 = I 33 7 := by
  unfold pb_table at h
  obtain ⟨rfl, h⟩ := h
  rcases h with ⟨a1, rfl, rfl⟩ | ⟨a1, rfl, rfl⟩
  · (repeat rw [px_u_out (by omega)])
  · rfl

theorem ek_table_103_1 {c v x : Int32} {I I2 : px_I} {L L2 : px_L} (h : pk_table c v I L x I2 L2) : I2 103 1 = I 103 1 := by
  unfold pk_table at h
  obtain ⟨rfl, h⟩ := h
  rcases h with ⟨a1, rfl, rfl⟩ | ⟨a1, rfl, rfl⟩
  · (repeat rw [px_u_out (by omega)])
  · rfl

theorem eb_repair_33_7 {g p y x : Int32} {I I2 : px_I} {L L2 : px_L} (h : pb_repair g p y I L x I2 L2) : I2 33 7 = I 33 7 := by
  unfold pb_repair at h
  obtain ⟨rfl, h⟩ := h
  rcases h with ⟨G, g1, rfl, rfl⟩ | ⟨a1, rfl, rfl⟩
  · have g2 := g1.1
    have gG : G = 41 ∨ G = 55 := by unfold bG at g2; omega
    unfold cRep; (repeat rw [px_u_out (by omega)])
  · rfl

theorem ek_repair_103_1 {g p y x : Int32} {I I2 : px_I} {L L2 : px_L} (h : pk_repair g p y I L x I2 L2) : I2 103 1 = I 103 1 := by
  unfold pk_repair at h
  obtain ⟨rfl, h⟩ := h
  rcases h with ⟨a1, rfl, rfl⟩ | ⟨a1, rfl, rfl⟩
  · (repeat rw [px_u_out (by omega)])
  · rfl

theorem eb_lime_33_7 {v x : Int32} {I I2 : px_I} {L L2 : px_L} (h : pb_lime v I L x I2 L2) : I2 33 7 = I 33 7 := by
  unfold pb_lime at h
  obtain ⟨rfl, h⟩ := h
  rcases h with ⟨a1, rfl, rfl⟩ | ⟨a1, rfl, rfl⟩
  · (repeat rw [px_u_out (by omega)])
  · rfl

theorem ek_lime_103_1 {v x : Int32} {I I2 : px_I} {L L2 : px_L} (h : pk_lime v I L x I2 L2) : I2 103 1 = I 103 1 := by
  unfold pk_lime at h
  obtain ⟨rfl, h⟩ := h
  rcases h with ⟨a1, a2, rfl, rfl⟩ | ⟨a1, rfl, rfl⟩
  · (repeat rw [px_u_out (by omega)])
  · rfl

theorem eb_flow_33_7 {g y k h x : Int32} {I I2 : px_I} {L L2 : px_L} (h : pb_flow g y k h I L x I2 L2) : I2 33 7 = I 33 7 := by
  unfold pb_flow at h
  exact h.1 33 7 (by omega)

theorem ek_flow_103_1 {g y k h x : Int32} {I I2 : px_I} {L L2 : px_L} (h : pk_flow g y k h I L x I2 L2) : I2 103 1 = I 103 1 := by
  unfold pk_flow at h
  exact h.1 103 1 (by omega)

theorem eb_narrow_33_7 {g y k x : Int32} {I I2 : px_I} {L L2 : px_L} (h : pb_narrow g y k I L x I2 L2) : I2 33 7 = I 33 7 := by
  unfold pb_narrow at h
  exact h.1 33 7 (by omega)

theorem ek_narrow_103_1 {g y k x : Int32} {I I2 : px_I} {L L2 : px_L} (h : pk_narrow g y k I L x I2 L2) : I2 103 1 = I 103 1 := by
  unfold pk_narrow at h
  exact h.1 103 1 (by omega)

theorem eb_about_33_7 {w x : Int32} {I I2 : px_I} {L L2 : px_L} (h : pb_about w I L x I2 L2) : I2 33 7 = I 33 7 := by
  unfold pb_about at h
  rw [h.1]

theorem ek_about_103_1 {w x : Int32} {I I2 : px_I} {L L2 : px_L} (h : pk_about w I L x I2 L2) : I2 103 1 = I 103 1 := by
  unfold pk_about at h
  rw [h.1]

theorem eb_days_41_13 {x9 x : Int32} {I I2 : px_I} {L L2 : px_L} (h : pb_days x9 I L x I2 L2) : I2 41 13 = I 41 13 := by
  unfold pb_days at h
  obtain ⟨rfl, h⟩ := h
  rcases h with ⟨a1, a2, rfl, rfl⟩ | ⟨a1, rfl, rfl⟩
  · (repeat rw [px_u_out (by omega)])
  · rfl

theorem ek_days_110_0 {x9 x : Int32} {I I2 : px_I} {L L2 : px_L} (h : pk_days x9 I L x I2 L2) : I2 110 0 = I 110 0 := by
  unfold pk_days at h
  obtain ⟨rfl, h⟩ := h
  rcases h with ⟨a1, a2, a3, rfl, rfl⟩ | ⟨a1, rfl, rfl⟩
  · (repeat rw [px_u_out (by omega)])
  · rfl

theorem eb_station_41_13 { x : Int32} {I I2 : px_I} {L L2 : px_L} (h : pb_station  I L x I2 L2) : I2 41 13 = I 41 13 := by
  unfold pb_station at h
  obtain ⟨rfl, h⟩ := h
  rcases h with ⟨a1, rfl, rfl⟩ | ⟨a1, rfl, rfl⟩
  · (repeat rw [px_u_out (by omega)])
  · rfl

theorem ek_station_110_0 { x : Int32} {I I2 : px_I} {L L2 : px_L} (h : pk_station  I L x I2 L2) : I2 110 0 = I 110 0 := by
  unfold pk_station at h
  obtain ⟨rfl, h⟩ := h
  rcases h with ⟨a1, rfl, rfl⟩ | ⟨a1, rfl, rfl⟩
  · (repeat rw [px_u_out (by omega)])
  · rfl

theorem eb_sight_41_13 {a f t lo hi x : Int32} {I I2 : px_I} {L L2 : px_L} (h : pb_sight a f t lo hi I L x I2 L2) : I2 41 13 = I 41 13 := by
  unfold pb_sight at h
  obtain ⟨rfl, h⟩ := h
  rcases h with ⟨a1, rfl, rfl⟩ | ⟨a1, rfl, rfl⟩
  · (repeat rw [px_u_out (by omega)])
  · rfl

theorem ek_sight_110_0 {a f t lo hi x : Int32} {I I2 : px_I} {L L2 : px_L} (h : pk_sight a f t lo hi I L x I2 L2) : I2 110 0 = I 110 0 := by
  unfold pk_sight at h
  obtain ⟨rfl, h⟩ := h
  rcases h with ⟨a1, rfl, rfl⟩ | ⟨a1, rfl, rfl⟩
  · (repeat rw [px_u_out (by omega)])
  · rfl

theorem eb_closed_41_13 {a k x : Int32} {I I2 : px_I} {L L2 : px_L} (h : pb_closed a k I L x I2 L2) : I2 41 13 = I 41 13 := by
  unfold pb_closed at h
  obtain ⟨rfl, h⟩ := h
  rfl

theorem ek_closed_110_0 {a k x : Int32} {I I2 : px_I} {L L2 : px_L} (h : pk_closed a k I L x I2 L2) : I2 110 0 = I 110 0 := by
  unfold pk_closed at h
  exact h.1 110 0 (by omega)

theorem eb_span_41_13 {a t k h x : Int32} {I I2 : px_I} {L L2 : px_L} (h : pb_span a t k h I L x I2 L2) : I2 41 13 = I 41 13 := by
  unfold pb_span at h
  obtain ⟨rfl, h⟩ := h
  rfl

theorem ek_span_110_0 {a t k h x : Int32} {I I2 : px_I} {L L2 : px_L} (h : pk_span a t k h I L x I2 L2) : I2 110 0 = I 110 0 := by
  unfold pk_span at h
  exact h.1 110 0 (by omega)

theorem eb_gap_41_13 {a f t k h x : Int32} {I I2 : px_I} {L L2 : px_L} (h : pb_gap a f t k h I L x I2 L2) : I2 41 13 = I 41 13 := by
  unfold pb_gap at h
  obtain ⟨rfl, h⟩ := h
  rfl

theorem ek_gap_110_0 {a f t k h x : Int32} {I I2 : px_I} {L L2 : px_L} (h : pk_gap a f t k h I L x I2 L2) : I2 110 0 = I 110 0 := by
  unfold pk_gap at h
  exact h.1 110 0 (by omega)

theorem eb_blamed_41_13 {a k i x : Int32} {I I2 : px_I} {L L2 : px_L} (h : pb_blamed a k i I L x I2 L2) : I2 41 13 = I 41 13 := by
  unfold pb_blamed at h
  obtain ⟨rfl, h⟩ := h
  rfl

theorem ek_blamed_110_0 {a k i x : Int32} {I I2 : px_I} {L L2 : px_L} (h : pk_blamed a k i I L x I2 L2) : I2 110 0 = I 110 0 := by
  unfold pk_blamed at h
  exact h.1 110 0 (by omega)

theorem eb_mouth_41_13 {g st x : Int32} {I I2 : px_I} {L L2 : px_L} (h : pb_mouth g st I L x I2 L2) : I2 41 13 = I 41 13 := by
  unfold pb_mouth at h
  obtain ⟨rfl, h⟩ := h
  rcases h with ⟨G, g1, rfl⟩ | rfl
  · have gG : G = 41 ∨ G = 55 := by unfold bG at g1; omega
    (repeat rw [px_u_out (by omega)])
  · rfl

theorem ek_mouth_110_0 {g st x : Int32} {I I2 : px_I} {L L2 : px_L} (h : pk_mouth g st I L x I2 L2) : I2 110 0 = I 110 0 := by
  unfold pk_mouth at h
  obtain ⟨rfl, h⟩ := h
  rcases h with ⟨a1, a2, rfl, rfl⟩ | ⟨a1, rfl, rfl⟩
  · (repeat rw [px_u_out (by omega)])
  · rfl

theorem eb_mark_41_13 {g p f t x : Int32} {I I2 : px_I} {L L2 : px_L} (h : pb_mark g p f t I L x I2 L2) : I2 41 13 = I 41 13 := by
  unfold pb_mark at h
  obtain ⟨rfl, h⟩ := h
  rcases h with ⟨G, g1, rfl, rfl⟩ | ⟨a1, rfl, rfl⟩
  · have g2 := g1.1
    have gG : G = 41 ∨ G = 55 := by unfold bG at g2; omega
    unfold cMark; (repeat rw [px_u_out (by omega)])
  · rfl

theorem ek_mark_110_0 {g p f t x : Int32} {I I2 : px_I} {L L2 : px_L} (h : pk_mark g p f t I L x I2 L2) : I2 110 0 = I 110 0 := by
  unfold pk_mark at h
  obtain ⟨rfl, h⟩ := h
  rcases h with ⟨a1, rfl, rfl⟩ | ⟨a1, rfl, rfl⟩
  · unfold mMark; (repeat rw [px_u_out (by omega)])
  · rfl

theorem eb_when_41_13 {g p h x : Int32} {I I2 : px_I} {L L2 : px_L} (h : pb_when g p h I L x I2 L2) : I2 41 13 = I 41 13 := by
  unfold pb_when at h
  obtain ⟨rfl, h⟩ := h
  rw [h 41 (by decide) (by decide) (by decide) (by decide)]

theorem ek_when_110_0 {g p h x : Int32} {I I2 : px_I} {L L2 : px_L} (h : pk_when g p h I L x I2 L2) : I2 110 0 = I 110 0 := by
  unfold pk_when at h
  exact h.1 110 0 (by omega)

theorem eb_between_41_13 {g p q h x : Int32} {I I2 : px_I} {L L2 : px_L} (h : pb_between g p q h I L x I2 L2) : I2 41 13 = I 41 13 := by
  unfold pb_between at h
  obtain ⟨rfl, h⟩ := h
  rw [h 41 (by decide) (by decide) (by decide) (by decide)]

theorem ek_between_110_0 {g p t h x : Int32} {I I2 : px_I} {L L2 : px_L} (h : pk_between g p t h I L x I2 L2) : I2 110 0 = I 110 0 := by
  unfold pk_between at h
  exact h.1 110 0 (by omega)

theorem eb_lamps_41_13 {g p h lo hi x : Int32} {I I2 : px_I} {L L2 : px_L} (h : pb_lamps g p h lo hi I L x I2 L2) : I2 41 13 = I 41 13 := by
  unfold pb_lamps at h
  rw [h.1]

theorem ek_lamps_110_0 {g p h lo hi x : Int32} {I I2 : px_I} {L L2 : px_L} (h : pk_lamps g p h lo hi I L x I2 L2) : I2 110 0 = I 110 0 := by
  unfold pk_lamps at h
  rw [h.1]

theorem eb_count_41_13 {u lo hi x : Int32} {I I2 : px_I} {L L2 : px_L} (h : pb_count u lo hi I L x I2 L2) : I2 41 13 = I 41 13 := by
  unfold pb_count at h
  obtain ⟨rfl, h⟩ := h
  rcases h with ⟨a1, rfl, rfl⟩ | ⟨a1, rfl, rfl⟩
  · (repeat rw [px_u_out (by omega)])
  · rfl

theorem ek_count_110_0 {u lo hi x : Int32} {I I2 : px_I} {L L2 : px_L} (h : pk_count u lo hi I L x I2 L2) : I2 110 0 = I 110 0 := by
  unfold pk_count at h
  rcases h with ⟨a1, rfl, rfl, rfl⟩ | ⟨a1, rfl, rfl, rfl⟩
  · (repeat rw [px_u_out (by omega)])
  · rfl

theorem eb_unit_41_13 {h x : Int32} {I I2 : px_I} {L L2 : px_L} (h : pb_unit h I L x I2 L2) : I2 41 13 = I 41 13 := by
  unfold pb_unit at h
  rw [h.1]

theorem ek_unit_110_0 {h x : Int32} {I I2 : px_I} {L L2 : px_L} (h : pk_unit h I L x I2 L2) : I2 110 0 = I 110 0 := by
  unfold pk_unit at h
  rw [h.1]

theorem eb_feed_41_13 {a b c d e x : Int32} {I I2 : px_I} {L L2 : px_L} (h : pb_feed a b c d e I L x I2 L2) : I2 41 13 = I 41 13 := by
  unfold pb_feed at h
  obtain ⟨rfl, h⟩ := h
  rcases h with ⟨a1, rfl, rfl⟩ | ⟨a1, rfl, rfl⟩
  · rw [cApp_at _ _ 41 13 (by omega) (by omega), cApp_at _ _ 41 13 (by omega) (by omega), cApp_at _ _ 41 13 (by omega) (by omega), cApp_at _ _ 41 13 (by omega) (by omega), cApp_at _ _ 41 13 (by omega) (by omega)]
  · rfl

theorem ek_feed_110_0 {a b c d e x : Int32} {I I2 : px_I} {L L2 : px_L} (h : pk_feed a b c d e I L x I2 L2) : I2 110 0 = I 110 0 := by
  unfold pk_feed at h
  obtain ⟨rfl, h⟩ := h
  rcases h with ⟨a1, rfl, rfl⟩ | ⟨a1, rfl, rfl⟩
  · rw [mPut_o (by omega) (by omega), mPut_o (by omega) (by omega), mPut_o (by omega) (by omega), mPut_o (by omega) (by omega), mPut_o (by omega) (by omega)]
  · rfl

theorem eb_end_41_13 {x9 x : Int32} {I I2 : px_I} {L L2 : px_L} (h : pb_end x9 I L x I2 L2) : I2 41 13 = I 41 13 := by
  unfold pb_end at h
  obtain ⟨rfl, h⟩ := h
  rcases h with ⟨a1, rfl, rfl⟩ | ⟨a1, rfl, rfl⟩
  · (repeat rw [px_u_out (by omega)])
  · rfl

theorem ek_end_110_0 {x9 x : Int32} {I I2 : px_I} {L L2 : px_L} (h : pk_end x9 I L x I2 L2) : I2 110 0 = I 110 0 := by
  unfold pk_end at h
  obtain ⟨rfl, h⟩ := h
  rcases h with ⟨a1, a2, rfl, rfl⟩ | ⟨a1, rfl, rfl⟩
  · (repeat rw [px_u_out (by omega)])
  · rfl

theorem eb_way_41_13 {i x : Int32} {I I2 : px_I} {L L2 : px_L} (h : pb_way i I L x I2 L2) : I2 41 13 = I 41 13 := by
  unfold pb_way at h
  exact h.1 41 13 (by omega) (by omega) (by omega) (by omega) (by omega)

theorem ek_way_110_0 {w x : Int32} {I I2 : px_I} {L L2 : px_L} (h : pk_way w I L x I2 L2) : I2 110 0 = I 110 0 := by
  unfold pk_way at h
  obtain ⟨rfl, h⟩ := h
  rcases h with ⟨a1, a2, rfl⟩ | ⟨a1, a2, a3⟩
  · rfl
  · exact a2 110 0 (by omega) (by omega)

theorem eb_fault_41_13 {x9 x : Int32} {I I2 : px_I} {L L2 : px_L} (h : pb_fault x9 I L x I2 L2) : I2 41 13 = I 41 13 := by
  unfold pb_fault at h
  rw [h.1]

theorem ek_fault_110_0 {x9 x : Int32} {I I2 : px_I} {L L2 : px_L} (h : pk_fault x9 I L x I2 L2) : I2 110 0 = I 110 0 := by
  unfold pk_fault at h
  rw [h.1]

theorem eb_tools_41_13 {a b c d e x : Int32} {I I2 : px_I} {L L2 : px_L} (h : pb_tools a b c d e I L x I2 L2) : I2 41 13 = I 41 13 := by
  unfold pb_tools at h
  obtain ⟨rfl, h⟩ := h
  rcases h with ⟨a1, rfl, a2⟩ | ⟨a1, rfl, rfl⟩
  · rw [a2 41 (by decide)]; (repeat rw [px_u_out (by omega)])
  · rfl

theorem ek_tools_110_0 {a b c d e x : Int32} {I I2 : px_I} {L L2 : px_L} (h : pk_tools a b c d e I L x I2 L2) : I2 110 0 = I 110 0 := by
  unfold pk_tools at h
  obtain ⟨rfl, h⟩ := h
  rcases h with ⟨a1, rfl, rfl⟩ | ⟨a1, rfl, rfl⟩
  · (repeat rw [px_u_out (by omega)])
  · rfl

theorem eb_run_41_13 {w h a x : Int32} {I I2 : px_I} {L L2 : px_L} (h : pb_run w h a I L x I2 L2) : I2 41 13 = I 41 13 := by
  unfold pb_run at h
  exact h.1 41 13 (by omega) (by omega) (by omega) (by omega) (by omega) (by omega) (by omega)

theorem ek_run_110_0 {w h a x : Int32} {I I2 : px_I} {L L2 : px_L} (h : pk_run w h a I L x I2 L2) : I2 110 0 = I 110 0 := by
  unfold pk_run at h
  exact h.1 110 0 (by omega) (by omega) (by omega)

theorem eb_meeting_41_13 {a f b t x9 h x : Int32} {I I2 : px_I} {L L2 : px_L} (h : pb_meeting a f b t x9 h I L x I2 L2) : I2 41 13 = I 41 13 := by
  unfold pb_meeting at h
  exact h.1 41 13 (by omega) (by omega) (by omega) (by omega) (by omega) (by omega) (by omega)

theorem ek_meeting_110_0 {a f b t x9 h x : Int32} {I I2 : px_I} {L L2 : px_L} (h : pk_meeting a f b t x9 h I L x I2 L2) : I2 110 0 = I 110 0 := by
  unfold pk_meeting at h
  exact h.1 110 0 (by omega) (by omega) (by omega)

theorem eb_there_41_13 {a lo hi x : Int32} {I I2 : px_I} {L L2 : px_L} (h : pb_there a lo hi I L x I2 L2) : I2 41 13 = I 41 13 := by
  unfold pb_there at h
  obtain ⟨rfl, h⟩ := h
  rcases h with ⟨a1, rfl, rfl⟩ | ⟨a1, rfl, rfl⟩
  · (repeat rw [px_u_out (by omega)])
  · rfl

theorem ek_there_110_0 {a lo hi x : Int32} {I I2 : px_I} {L L2 : px_L} (h : pk_there a lo hi I L x I2 L2) : I2 110 0 = I 110 0 := by
  unfold pk_there at h
  obtain ⟨rfl, h⟩ := h
  rcases h with ⟨a1, rfl, rfl⟩ | ⟨a1, rfl, rfl⟩
  · (repeat rw [px_u_out (by omega)])
  · rfl

theorem eb_fits_41_13 {a f b t x : Int32} {I I2 : px_I} {L L2 : px_L} (h : pb_fits a f b t I L x I2 L2) : I2 41 13 = I 41 13 := by
  unfold pb_fits at h
  exact h.1 41 13 (by omega) (by omega) (by omega) (by omega) (by omega) (by omega) (by omega)

theorem ek_fits_110_0 {a f b t x : Int32} {I I2 : px_I} {L L2 : px_L} (h : pk_fits a f b t I L x I2 L2) : I2 110 0 = I 110 0 := by
  unfold pk_fits at h
  exact h.1 110 0 (by omega) (by omega) (by omega)

theorem eb_ways_41_13 {a f b t x9 x : Int32} {I I2 : px_I} {L L2 : px_L} (h : pb_ways a f b t x9 I L x I2 L2) : I2 41 13 = I 41 13 := by
  unfold pb_ways at h
  exact h.1 41 13 (by omega) (by omega) (by omega) (by omega) (by omega) (by omega) (by omega)

theorem ek_ways_110_0 {a f b t x9 x : Int32} {I I2 : px_I} {L L2 : px_L} (h : pk_ways a f b t x9 I L x I2 L2) : I2 110 0 = I 110 0 := by
  unfold pk_ways at h
  exact h.1 110 0 (by omega) (by omega) (by omega)

theorem eb_seek_41_13 {a b c d e f x : Int32} {I I2 : px_I} {L L2 : px_L} (h : pb_seek a b c d e f I L x I2 L2) : I2 41 13 = I 41 13 := by
  unfold pb_seek at h
  obtain ⟨rfl, h⟩ := h
  rcases h with ⟨a1, rfl, rfl⟩ | ⟨a1, rfl, rfl⟩
  · (repeat rw [px_u_out (by omega)])
  · rfl

theorem ek_seek_110_0 {a b c d e f x : Int32} {I I2 : px_I} {L L2 : px_L} (h : pk_seek a b c d e f I L x I2 L2) : I2 110 0 = I 110 0 := by
  unfold pk_seek at h
  obtain ⟨rfl, h⟩ := h
  rcases h with ⟨a1, rfl, rfl⟩ | ⟨a1, rfl, rfl⟩
  · (repeat rw [px_u_out (by omega)])
  · rfl

theorem eb_detour_41_13 {a o h x : Int32} {I I2 : px_I} {L L2 : px_L} (h : pb_detour a o h I L x I2 L2) : I2 41 13 = I 41 13 := by
  unfold pb_detour at h
  rw [h.1]

theorem ek_detour_110_0 {a o lo x : Int32} {I I2 : px_I} {L L2 : px_L} (h : pk_detour a o lo I L x I2 L2) : I2 110 0 = I 110 0 := by
  unfold pk_detour at h
  rw [h.1]

theorem eb_table_41_13 {c v x : Int32} {I I2 : px_I} {L L2 : px_L} (h : pb_table c v I L x I2 L2) : I2 41 13 = I 41 13 := by
  unfold pb_table at h
  obtain ⟨rfl, h⟩ := h
  rcases h with ⟨a1, rfl, rfl⟩ | ⟨a1, rfl, rfl⟩
  · (repeat rw [px_u_out (by omega)])
  · rfl

theorem ek_table_110_0 {c v x : Int32} {I I2 : px_I} {L L2 : px_L} (h : pk_table c v I L x I2 L2) : I2 110 0 = I 110 0 := by
  unfold pk_table at h
  obtain ⟨rfl, h⟩ := h
  rcases h with ⟨a1, rfl, rfl⟩ | ⟨a1, rfl, rfl⟩
  · (repeat rw [px_u_out (by omega)])
  · rfl

theorem eb_repair_41_13 {g p y x : Int32} {I I2 : px_I} {L L2 : px_L} (h : pb_repair g p y I L x I2 L2) : I2 41 13 = I 41 13 := by
  unfold pb_repair at h
  obtain ⟨rfl, h⟩ := h
  rcases h with ⟨G, g1, rfl, rfl⟩ | ⟨a1, rfl, rfl⟩
  · have g2 := g1.1
    have gG : G = 41 ∨ G = 55 := by unfold bG at g2; omega
    unfold cRep; (repeat rw [px_u_out (by omega)])
  · rfl

theorem ek_repair_110_0 {g p y x : Int32} {I I2 : px_I} {L L2 : px_L} (h : pk_repair g p y I L x I2 L2) : I2 110 0 = I 110 0 := by
  unfold pk_repair at h
  obtain ⟨rfl, h⟩ := h
  rcases h with ⟨a1, rfl, rfl⟩ | ⟨a1, rfl, rfl⟩
  · (repeat rw [px_u_out (by omega)])
  · rfl

theorem eb_lime_41_13 {v x : Int32} {I I2 : px_I} {L L2 : px_L} (h : pb_lime v I L x I2 L2) : I2 41 13 = I 41 13 := by
  unfold pb_lime at h
  obtain ⟨rfl, h⟩ := h
  rcases h with ⟨a1, rfl, rfl⟩ | ⟨a1, rfl, rfl⟩
  · (repeat rw [px_u_out (by omega)])
  · rfl

theorem ek_lime_110_0 {v x : Int32} {I I2 : px_I} {L L2 : px_L} (h : pk_lime v I L x I2 L2) : I2 110 0 = I 110 0 := by
  unfold pk_lime at h
  obtain ⟨rfl, h⟩ := h
  rcases h with ⟨a1, a2, rfl, rfl⟩ | ⟨a1, rfl, rfl⟩
  · (repeat rw [px_u_out (by omega)])
  · rfl

theorem eb_flow_41_13 {g y k h x : Int32} {I I2 : px_I} {L L2 : px_L} (h : pb_flow g y k h I L x I2 L2) : I2 41 13 = I 41 13 := by
  unfold pb_flow at h
  exact h.1 41 13 (by omega)

theorem ek_flow_110_0 {g y k h x : Int32} {I I2 : px_I} {L L2 : px_L} (h : pk_flow g y k h I L x I2 L2) : I2 110 0 = I 110 0 := by
  unfold pk_flow at h
  exact h.1 110 0 (by omega)

theorem eb_narrow_41_13 {g y k x : Int32} {I I2 : px_I} {L L2 : px_L} (h : pb_narrow g y k I L x I2 L2) : I2 41 13 = I 41 13 := by
  unfold pb_narrow at h
  exact h.1 41 13 (by omega)

theorem ek_narrow_110_0 {g y k x : Int32} {I I2 : px_I} {L L2 : px_L} (h : pk_narrow g y k I L x I2 L2) : I2 110 0 = I 110 0 := by
  unfold pk_narrow at h
  exact h.1 110 0 (by omega)

theorem eb_about_41_13 {w x : Int32} {I I2 : px_I} {L L2 : px_L} (h : pb_about w I L x I2 L2) : I2 41 13 = I 41 13 := by
  unfold pb_about at h
  rw [h.1]

theorem ek_about_110_0 {w x : Int32} {I I2 : px_I} {L L2 : px_L} (h : pk_about w I L x I2 L2) : I2 110 0 = I 110 0 := by
  unfold pk_about at h
  rw [h.1]

theorem eb_days_55_13 {x9 x : Int32} {I I2 : px_I} {L L2 : px_L} (h : pb_days x9 I L x I2 L2) : I2 55 13 = I 55 13 := by
  unfold pb_days at h
  obtain ⟨rfl, h⟩ := h
  rcases h with ⟨a1, a2, rfl, rfl⟩ | ⟨a1, rfl, rfl⟩
  · (repeat rw [px_u_out (by omega)])
  · rfl

theorem ek_days_110_1 {x9 x : Int32} {I I2 : px_I} {L L2 : px_L} (h : pk_days x9 I L x I2 L2) : I2 110 1 = I 110 1 := by
  unfold pk_days at h
  obtain ⟨rfl, h⟩ := h
  rcases h with ⟨a1, a2, a3, rfl, rfl⟩ | ⟨a1, rfl, rfl⟩
  · (repeat rw [px_u_out (by omega)])
  · rfl

theorem eb_station_55_13 { x : Int32} {I I2 : px_I} {L L2 : px_L} (h : pb_station  I L x I2 L2) : I2 55 13 = I 55 13 := by
  unfold pb_station at h
  obtain ⟨rfl, h⟩ := h
  rcases h with ⟨a1, rfl, rfl⟩ | ⟨a1, rfl, rfl⟩
  · (repeat rw [px_u_out (by omega)])
  · rfl

theorem ek_station_110_1 { x : Int32} {I I2 : px_I} {L L2 : px_L} (h : pk_station  I L x I2 L2) : I2 110 1 = I 110 1 := by
  unfold pk_station at h
  obtain ⟨rfl, h⟩ := h
  rcases h with ⟨a1, rfl, rfl⟩ | ⟨a1, rfl, rfl⟩
  · (repeat rw [px_u_out (by omega)])
  · rfl

theorem eb_sight_55_13 {a f t lo hi x : Int32} {I I2 : px_I} {L L2 : px_L} (h : pb_sight a f t lo hi I L x I2 L2) : I2 55 13 = I 55 13 := by
  unfold pb_sight at h
  obtain ⟨rfl, h⟩ := h
  rcases h with ⟨a1, rfl, rfl⟩ | ⟨a1, rfl, rfl⟩
  · (repeat rw [px_u_out (by omega)])
  · rfl

theorem ek_sight_110_1 {a f t lo hi x : Int32} {I I2 : px_I} {L L2 : px_L} (h : pk_sight a f t lo hi I L x I2 L2) : I2 110 1 = I 110 1 := by
  unfold pk_sight at h
  obtain ⟨rfl, h⟩ := h
  rcases h with ⟨a1, rfl, rfl⟩ | ⟨a1, rfl, rfl⟩
  · (repeat rw [px_u_out (by omega)])
  · rfl

theorem eb_closed_55_13 {a k x : Int32} {I I2 : px_I} {L L2 : px_L} (h : pb_closed a k I L x I2 L2) : I2 55 13 = I 55 13 := by
  unfold pb_closed at h
  obtain ⟨rfl, h⟩ := h
  rfl

theorem ek_closed_110_1 {a k x : Int32} {I I2 : px_I} {L L2 : px_L} (h : pk_closed a k I L x I2 L2) : I2 110 1 = I 110 1 := by
  unfold pk_closed at h
  exact h.1 110 1 (by omega)

theorem eb_span_55_13 {a t k h x : Int32} {I I2 : px_I} {L L2 : px_L} (h : pb_span a t k h I L x I2 L2) : I2 55 13 = I 55 13 := by
  unfold pb_span at h
  obtain ⟨rfl, h⟩ := h
  rfl

theorem ek_span_110_1 {a t k h x : Int32} {I I2 : px_I} {L L2 : px_L} (h : pk_span a t k h I L x I2 L2) : I2 110 1 = I 110 1 := by
  unfold pk_span at h
  exact h.1 110 1 (by omega)

theorem eb_gap_55_13 {a f t k h x : Int32} {I I2 : px_I} {L L2 : px_L} (h : pb_gap a f t k h I L x I2 L2) : I2 55 13 = I 55 13 := by
  unfold pb_gap at h
  obtain ⟨rfl, h⟩ := h
  rfl

theorem ek_gap_110_1 {a f t k h x : Int32} {I I2 : px_I} {L L2 : px_L} (h : pk_gap a f t k h I L x I2 L2) : I2 110 1 = I 110 1 := by
  unfold pk_gap at h
  exact h.1 110 1 (by omega)

theorem eb_blamed_55_13 {a k i x : Int32} {I I2 : px_I} {L L2 : px_L} (h : pb_blamed a k i I L x I2 L2) : I2 55 13 = I 55 13 := by
  unfold pb_blamed at h
  obtain ⟨rfl, h⟩ := h
  rfl

theorem ek_blamed_110_1 {a k i x : Int32} {I I2 : px_I} {L L2 : px_L} (h : pk_blamed a k i I L x I2 L2) : I2 110 1 = I 110 1 := by
  unfold pk_blamed at h
  exact h.1 110 1 (by omega)

theorem eb_mouth_55_13 {g st x : Int32} {I I2 : px_I} {L L2 : px_L} (h : pb_mouth g st I L x I2 L2) : I2 55 13 = I 55 13 := by
  unfold pb_mouth at h
  obtain ⟨rfl, h⟩ := h
  rcases h with ⟨G, g1, rfl⟩ | rfl
  · have gG : G = 41 ∨ G = 55 := by unfold bG at g1; omega
    (repeat rw [px_u_out (by omega)])
  · rfl

theorem ek_mouth_110_1 {g st x : Int32} {I I2 : px_I} {L L2 : px_L} (h : pk_mouth g st I L x I2 L2) : I2 110 1 = I 110 1 := by
  unfold pk_mouth at h
  obtain ⟨rfl, h⟩ := h
  rcases h with ⟨a1, a2, rfl, rfl⟩ | ⟨a1, rfl, rfl⟩
  · (repeat rw [px_u_out (by omega)])
  · rfl

theorem eb_mark_55_13 {g p f t x : Int32} {I I2 : px_I} {L L2 : px_L} (h : pb_mark g p f t I L x I2 L2) : I2 55 13 = I 55 13 := by
  unfold pb_mark at h
  obtain ⟨rfl, h⟩ := h
  rcases h with ⟨G, g1, rfl, rfl⟩ | ⟨a1, rfl, rfl⟩
  · have g2 := g1.1
    have gG : G = 41 ∨ G = 55 := by unfold bG at g2; omega
    unfold cMark; (repeat rw [px_u_out (by omega)])
  · rfl

theorem ek_mark_110_1 {g p f t x : Int32} {I I2 : px_I} {L L2 : px_L} (h : pk_mark g p f t I L x I2 L2) : I2 110 1 = I 110 1 := by
  unfold pk_mark at h
  obtain ⟨rfl, h⟩ := h
  rcases h with ⟨a1, rfl, rfl⟩ | ⟨a1, rfl, rfl⟩
  · unfold mMark; (repeat rw [px_u_out (by omega)])
  · rfl

theorem eb_when_55_13 {g p h x : Int32} {I I2 : px_I} {L L2 : px_L} (h : pb_when g p h I L x I2 L2) : I2 55 13 = I 55 13 := by
  unfold pb_when at h
  obtain ⟨rfl, h⟩ := h
  rw [h 55 (by decide) (by decide) (by decide) (by decide)]

theorem ek_when_110_1 {g p h x : Int32} {I I2 : px_I} {L L2 : px_L} (h : pk_when g p h I L x I2 L2) : I2 110 1 = I 110 1 := by
  unfold pk_when at h
  exact h.1 110 1 (by omega)

theorem eb_between_55_13 {g p q h x : Int32} {I I2 : px_I} {L L2 : px_L} (h : pb_between g p q h I L x I2 L2) : I2 55 13 = I 55 13 := by
  unfold pb_between at h
  obtain ⟨rfl, h⟩ := h
  rw [h 55 (by decide) (by decide) (by decide) (by decide)]

theorem ek_between_110_1 {g p t h x : Int32} {I I2 : px_I} {L L2 : px_L} (h : pk_between g p t h I L x I2 L2) : I2 110 1 = I 110 1 := by
  unfold pk_between at h
  exact h.1 110 1 (by omega)

theorem eb_lamps_55_13 {g p h lo hi x : Int32} {I I2 : px_I} {L L2 : px_L} (h : pb_lamps g p h lo hi I L x I2 L2) : I2 55 13 = I 55 13 := by
  unfold pb_lamps at h
  rw [h.1]

theorem ek_lamps_110_1 {g p h lo hi x : Int32} {I I2 : px_I} {L L2 : px_L} (h : pk_lamps g p h lo hi I L x I2 L2) : I2 110 1 = I 110 1 := by
  unfold pk_lamps at h
  rw [h.1]

theorem eb_count_55_13 {u lo hi x : Int32} {I I2 : px_I} {L L2 : px_L} (h : pb_count u lo hi I L x I2 L2) : I2 55 13 = I 55 13 := by
  unfold pb_count at h
  obtain ⟨rfl, h⟩ := h
  rcases h with ⟨a1, rfl, rfl⟩ | ⟨a1, rfl, rfl⟩
  · (repeat rw [px_u_out (by omega)])
  · rfl

theorem ek_count_110_1 {u lo hi x : Int32} {I I2 : px_I} {L L2 : px_L} (h : pk_count u lo hi I L x I2 L2) : I2 110 1 = I 110 1 := by
  unfold pk_count at h
  rcases h with ⟨a1, rfl, rfl, rfl⟩ | ⟨a1, rfl, rfl, rfl⟩
  · (repeat rw [px_u_out (by omega)])
  · rfl

theorem eb_unit_55_13 {h x : Int32} {I I2 : px_I} {L L2 : px_L} (h : pb_unit h I L x I2 L2) : I2 55 13 = I 55 13 := by
  unfold pb_unit at h
  rw [h.1]

theorem ek_unit_110_1 {h x : Int32} {I I2 : px_I} {L L2 : px_L} (h : pk_unit h I L x I2 L2) : I2 110 1 = I 110 1 := by
  unfold pk_unit at h
  rw [h.1]

theorem eb_feed_55_13 {a b c d e x : Int32} {I I2 : px_I} {L L2 : px_L} (h : pb_feed a b c d e I L x I2 L2) : I2 55 13 = I 55 13 := by
  unfold pb_feed at h
  obtain ⟨rfl, h⟩ := h
  rcases h with ⟨a1, rfl, rfl⟩ | ⟨a1, rfl, rfl⟩
  · rw [cApp_at _ _ 55 13 (by omega) (by omega), cApp_at _ _ 55 13 (by omega) (by omega), cApp_at _ _ 55 13 (by omega) (by omega), cApp_at _ _ 55 13 (by omega) (by omega), cApp_at _ _ 55 13 (by omega) (by omega)]
  · rfl

theorem ek_feed_110_1 {a b c d e x : Int32} {I I2 : px_I} {L L2 : px_L} (h : pk_feed a b c d e I L x I2 L2) : I2 110 1 = I 110 1 := by
  unfold pk_feed at h
  obtain ⟨rfl, h⟩ := h
  rcases h with ⟨a1, rfl, rfl⟩ | ⟨a1, rfl, rfl⟩
  · rw [mPut_o (by omega) (by omega), mPut_o (by omega) (by omega), mPut_o (by omega) (by omega), mPut_o (by omega) (by omega), mPut_o (by omega) (by omega)]
  · rfl

theorem eb_end_55_13 {x9 x : Int32} {I I2 : px_I} {L L2 : px_L} (h : pb_end x9 I L x I2 L2) : I2 55 13 = I 55 13 := by
  unfold pb_end at h
  obtain ⟨rfl, h⟩ := h
  rcases h with ⟨a1, rfl, rfl⟩ | ⟨a1, rfl, rfl⟩
  · (repeat rw [px_u_out (by omega)])
  · rfl

theorem ek_end_110_1 {x9 x : Int32} {I I2 : px_I} {L L2 : px_L} (h : pk_end x9 I L x I2 L2) : I2 110 1 = I 110 1 := by
  unfold pk_end at h
  obtain ⟨rfl, h⟩ := h
  rcases h with ⟨a1, a2, rfl, rfl⟩ | ⟨a1, rfl, rfl⟩
  · (repeat rw [px_u_out (by omega)])
  · rfl

theorem eb_way_55_13 {i x : Int32} {I I2 : px_I} {L L2 : px_L} (h : pb_way i I L x I2 L2) : I2 55 13 = I 55 13 := by
  unfold pb_way at h
  exact h.1 55 13 (by omega) (by omega) (by omega) (by omega) (by omega)

theorem ek_way_110_1 {w x : Int32} {I I2 : px_I} {L L2 : px_L} (h : pk_way w I L x I2 L2) : I2 110 1 = I 110 1 := by
  unfold pk_way at h
  obtain ⟨rfl, h⟩ := h
  rcases h with ⟨a1, a2, rfl⟩ | ⟨a1, a2, a3⟩
  · rfl
  · exact a2 110 1 (by omega) (by omega)

theorem eb_fault_55_13 {x9 x : Int32} {I I2 : px_I} {L L2 : px_L} (h : pb_fault x9 I L x I2 L2) : I2 55 13 = I 55 13 := by
  unfold pb_fault at h
  rw [h.1]

theorem ek_fault_110_1 {x9 x : Int32} {I I2 : px_I} {L L2 : px_L} (h : pk_fault x9 I L x I2 L2) : I2 110 1 = I 110 1 := by
  unfold pk_fault at h
  rw [h.1]

theorem eb_tools_55_13 {a b c d e x : Int32} {I I2 : px_I} {L L2 : px_L} (h : pb_tools a b c d e I L x I2 L2) : I2 55 13 = I 55 13 := by
  unfold pb_tools at h
  obtain ⟨rfl, h⟩ := h
  rcases h with ⟨a1, rfl, a2⟩ | ⟨a1, rfl, rfl⟩
  · rw [a2 55 (by decide)]; (repeat rw [px_u_out (by omega)])
  · rfl

theorem ek_tools_110_1 {a b c d e x : Int32} {I I2 : px_I} {L L2 : px_L} (h : pk_tools a b c d e I L x I2 L2) : I2 110 1 = I 110 1 := by
  unfold pk_tools at h
  obtain ⟨rfl, h⟩ := h
  rcases h with ⟨a1, rfl, rfl⟩ | ⟨a1, rfl, rfl⟩
  · (repeat rw [px_u_out (by omega)])
  · rfl

theorem eb_run_55_13 {w h a x : Int32} {I I2 : px_I} {L L2 : px_L} (h : pb_run w h a I L x I2 L2) : I2 55 13 = I 55 13 := by
  unfold pb_run at h
  exact h.1 55 13 (by omega) (by omega) (by omega) (by omega) (by omega) (by omega) (by omega)

theorem ek_run_110_1 {w h a x : Int32} {I I2 : px_I} {L L2 : px_L} (h : pk_run w h a I L x I2 L2) : I2 110 1 = I 110 1 := by
  unfold pk_run at h
  exact h.1 110 1 (by omega) (by omega) (by omega)

theorem eb_meeting_55_13 {a f b t x9 h x : Int32} {I I2 : px_I} {L L2 : px_L} (h : pb_meeting a f b t x9 h I L x I2 L2) : I2 55 13 = I 55 13 := by
  unfold pb_meeting at h
  exact h.1 55 13 (by omega) (by omega) (by omega) (by omega) (by omega) (by omega) (by omega)

theorem ek_meeting_110_1 {a f b t x9 h x : Int32} {I I2 : px_I} {L L2 : px_L} (h : pk_meeting a f b t x9 h I L x I2 L2) : I2 110 1 = I 110 1 := by
  unfold pk_meeting at h
  exact h.1 110 1 (by omega) (by omega) (by omega)

theorem eb_there_55_13 {a lo hi x : Int32} {I I2 : px_I} {L L2 : px_L} (h : pb_there a lo hi I L x I2 L2) : I2 55 13 = I 55 13 := by
  unfold pb_there at h
  obtain ⟨rfl, h⟩ := h
  rcases h with ⟨a1, rfl, rfl⟩ | ⟨a1, rfl, rfl⟩
  · (repeat rw [px_u_out (by omega)])
  · rfl

theorem ek_there_110_1 {a lo hi x : Int32} {I I2 : px_I} {L L2 : px_L} (h : pk_there a lo hi I L x I2 L2) : I2 110 1 = I 110 1 := by
  unfold pk_there at h
  obtain ⟨rfl, h⟩ := h
  rcases h with ⟨a1, rfl, rfl⟩ | ⟨a1, rfl, rfl⟩
  · (repeat rw [px_u_out (by omega)])
  · rfl

theorem eb_fits_55_13 {a f b t x : Int32} {I I2 : px_I} {L L2 : px_L} (h : pb_fits a f b t I L x I2 L2) : I2 55 13 = I 55 13 := by
  unfold pb_fits at h
  exact h.1 55 13 (by omega) (by omega) (by omega) (by omega) (by omega) (by omega) (by omega)

theorem ek_fits_110_1 {a f b t x : Int32} {I I2 : px_I} {L L2 : px_L} (h : pk_fits a f b t I L x I2 L2) : I2 110 1 = I 110 1 := by
  unfold pk_fits at h
  exact h.1 110 1 (by omega) (by omega) (by omega)

theorem eb_ways_55_13 {a f b t x9 x : Int32} {I I2 : px_I} {L L2 : px_L} (h : pb_ways a f b t x9 I L x I2 L2) : I2 55 13 = I 55 13 := by
  unfold pb_ways at h
  exact h.1 55 13 (by omega) (by omega) (by omega) (by omega) (by omega) (by omega) (by omega)

theorem ek_ways_110_1 {a f b t x9 x : Int32} {I I2 : px_I} {L L2 : px_L} (h : pk_ways a f b t x9 I L x I2 L2) : I2 110 1 = I 110 1 := by
  unfold pk_ways at h
  exact h.1 110 1 (by omega) (by omega) (by omega)

theorem eb_seek_55_13 {a b c d e f x : Int32} {I I2 : px_I} {L L2 : px_L} (h : pb_seek a b c d e f I L x I2 L2) : I2 55 13 = I 55 13 := by
  unfold pb_seek at h
  obtain ⟨rfl, h⟩ := h
  rcases h with ⟨a1, rfl, rfl⟩ | ⟨a1, rfl, rfl⟩
  · (repeat rw [px_u_out (by omega)])
  · rfl

theorem ek_seek_110_1 {a b c d e f x : Int32} {I I2 : px_I} {L L2 : px_L} (h : pk_seek a b c d e f I L x I2 L2) : I2 110 1 = I 110 1 := by
  unfold pk_seek at h
  obtain ⟨rfl, h⟩ := h
  rcases h with ⟨a1, rfl, rfl⟩ | ⟨a1, rfl, rfl⟩
  · (repeat rw [px_u_out (by omega)])
  · rfl

theorem eb_detour_55_13 {a o h x : Int32} {I I2 : px_I} {L L2 : px_L} (h : pb_detour a o h I L x I2 L2) : I2 55 13 = I 55 13 := by
  unfold pb_detour at h
  rw [h.1]

theorem ek_detour_110_1 {a o lo x : Int32} {I I2 : px_I} {L L2 : px_L} (h : pk_detour a o lo I L x I2 L2) : I2 110 1 = I 110 1 := by
  unfold pk_detour at h
  rw [h.1]

theorem eb_table_55_13 {c v x : Int32} {I I2 : px_I} {L L2 : px_L} (h : pb_table c v I L x I2 L2) : I2 55 13 = I 55 13 := by
  unfold pb_table at h
  obtain ⟨rfl, h⟩ := h
  rcases h with ⟨a1, rfl, rfl⟩ | ⟨a1, rfl, rfl⟩
  · (repeat rw [px_u_out (by omega)])
  · rfl

theorem ek_table_110_1 {c v x : Int32} {I I2 : px_I} {L L2 : px_L} (h : pk_table c v I L x I2 L2) : I2 110 1 = I 110 1 := by
  unfold pk_table at h
  obtain ⟨rfl, h⟩ := h
  rcases h with ⟨a1, rfl, rfl⟩ | ⟨a1, rfl, rfl⟩
  · (repeat rw [px_u_out (by omega)])
  · rfl

theorem eb_repair_55_13 {g p y x : Int32} {I I2 : px_I} {L L2 : px_L} (h : pb_repair g p y I L x I2 L2) : I2 55 13 = I 55 13 := by
  unfold pb_repair at h
  obtain ⟨rfl, h⟩ := h
  rcases h with ⟨G, g1, rfl, rfl⟩ | ⟨a1, rfl, rfl⟩
  · have g2 := g1.1
    have gG : G = 41 ∨ G = 55 := by unfold bG at g2; omega
    unfold cRep; (repeat rw [px_u_out (by omega)])
  · rfl

theorem ek_repair_110_1 {g p y x : Int32} {I I2 : px_I} {L L2 : px_L} (h : pk_repair g p y I L x I2 L2) : I2 110 1 = I 110 1 := by
  unfold pk_repair at h
  obtain ⟨rfl, h⟩ := h
  rcases h with ⟨a1, rfl, rfl⟩ | ⟨a1, rfl, rfl⟩
  · (repeat rw [px_u_out (by omega)])
  · rfl

theorem eb_lime_55_13 {v x : Int32} {I I2 : px_I} {L L2 : px_L} (h : pb_lime v I L x I2 L2) : I2 55 13 = I 55 13 := by
  unfold pb_lime at h
  obtain ⟨rfl, h⟩ := h
  rcases h with ⟨a1, rfl, rfl⟩ | ⟨a1, rfl, rfl⟩
  · (repeat rw [px_u_out (by omega)])
  · rfl

theorem ek_lime_110_1 {v x : Int32} {I I2 : px_I} {L L2 : px_L} (h : pk_lime v I L x I2 L2) : I2 110 1 = I 110 1 := by
  unfold pk_lime at h
  obtain ⟨rfl, h⟩ := h
  rcases h with ⟨a1, a2, rfl, rfl⟩ | ⟨a1, rfl, rfl⟩
  · (repeat rw [px_u_out (by omega)])
  · rfl

theorem eb_flow_55_13 {g y k h x : Int32} {I I2 : px_I} {L L2 : px_L} (h : pb_flow g y k h I L x I2 L2) : I2 55 13 = I 55 13 := by
  unfold pb_flow at h
  exact h.1 55 13 (by omega)

theorem ek_flow_110_1 {g y k h x : Int32} {I I2 : px_I} {L L2 : px_L} (h : pk_flow g y k h I L x I2 L2) : I2 110 1 = I 110 1 := by
  unfold pk_flow at h
  exact h.1 110 1 (by omega)

theorem eb_narrow_55_13 {g y k x : Int32} {I I2 : px_I} {L L2 : px_L} (h : pb_narrow g y k I L x I2 L2) : I2 55 13 = I 55 13 := by
  unfold pb_narrow at h
  exact h.1 55 13 (by omega)

theorem ek_narrow_110_1 {g y k x : Int32} {I I2 : px_I} {L L2 : px_L} (h : pk_narrow g y k I L x I2 L2) : I2 110 1 = I 110 1 := by
  unfold pk_narrow at h
  exact h.1 110 1 (by omega)

theorem eb_about_55_13 {w x : Int32} {I I2 : px_I} {L L2 : px_L} (h : pb_about w I L x I2 L2) : I2 55 13 = I 55 13 := by
  unfold pb_about at h
  rw [h.1]

theorem ek_about_110_1 {w x : Int32} {I I2 : px_I} {L L2 : px_L} (h : pk_about w I L x I2 L2) : I2 110 1 = I 110 1 := by
  unfold pk_about at h
  rw [h.1]

theorem eb_days_41_14 {x9 x : Int32} {I I2 : px_I} {L L2 : px_L} (h : pb_days x9 I L x I2 L2) : I2 41 14 = I 41 14 := by
  unfold pb_days at h
  obtain ⟨rfl, h⟩ := h
  rcases h with ⟨a1, a2, rfl, rfl⟩ | ⟨a1, rfl, rfl⟩
  · (repeat rw [px_u_out (by omega)])
  · rfl

theorem eb_days_55_14 {x9 x : Int32} {I I2 : px_I} {L L2 : px_L} (h : pb_days x9 I L x I2 L2) : I2 55 14 = I 55 14 := by
  unfold pb_days at h
  obtain ⟨rfl, h⟩ := h
  rcases h with ⟨a1, a2, rfl, rfl⟩ | ⟨a1, rfl, rfl⟩
  · (repeat rw [px_u_out (by omega)])
  · rfl

theorem ek_days_103_16 {x9 x : Int32} {I I2 : px_I} {L L2 : px_L} (h : pk_days x9 I L x I2 L2) : I2 103 16 = I 103 16 := by
  unfold pk_days at h
  obtain ⟨rfl, h⟩ := h
  rcases h with ⟨a1, a2, a3, rfl, rfl⟩ | ⟨a1, rfl, rfl⟩
  · (repeat rw [px_u_out (by omega)])
  · rfl

theorem eb_station_41_14 { x : Int32} {I I2 : px_I} {L L2 : px_L} (h : pb_station  I L x I2 L2) : I2 41 14 = I 41 14 := by
  unfold pb_station at h
  obtain ⟨rfl, h⟩ := h
  rcases h with ⟨a1, rfl, rfl⟩ | ⟨a1, rfl, rfl⟩
  · (repeat rw [px_u_out (by omega)])
  · rfl

theorem eb_station_55_14 { x : Int32} {I I2 : px_I} {L L2 : px_L} (h : pb_station  I L x I2 L2) : I2 55 14 = I 55 14 := by
  unfold pb_station at h
  obtain ⟨rfl, h⟩ := h
  rcases h with ⟨a1, rfl, rfl⟩ | ⟨a1, rfl, rfl⟩
  · (repeat rw [px_u_out (by omega)])
  · rfl

theorem ek_station_103_16 { x : Int32} {I I2 : px_I} {L L2 : px_L} (h : pk_station  I L x I2 L2) : I2 103 16 = I 103 16 := by
  unfold pk_station at h
  obtain ⟨rfl, h⟩ := h
  rcases h with ⟨a1, rfl, rfl⟩ | ⟨a1, rfl, rfl⟩
  · (repeat rw [px_u_out (by omega)])
  · rfl

theorem eb_sight_41_14 {a f t lo hi x : Int32} {I I2 : px_I} {L L2 : px_L} (h : pb_sight a f t lo hi I L x I2 L2) : I2 41 14 = I 41 14 := by
  unfold pb_sight at h
  obtain ⟨rfl, h⟩ := h
  rcases h with ⟨a1, rfl, rfl⟩ | ⟨a1, rfl, rfl⟩
  · (repeat rw [px_u_out (by omega)])
  · rfl

theorem eb_sight_55_14 {a f t lo hi x : Int32} {I I2 : px_I} {L L2 : px_L} (h : pb_sight a f t lo hi I L x I2 L2) : I2 55 14 = I 55 14 := by
  unfold pb_sight at h
  obtain ⟨rfl, h⟩ := h
  rcases h with ⟨a1, rfl, rfl⟩ | ⟨a1, rfl, rfl⟩
  · (repeat rw [px_u_out (by omega)])
  · rfl

theorem ek_sight_103_16 {a f t lo hi x : Int32} {I I2 : px_I} {L L2 : px_L} (h : pk_sight a f t lo hi I L x I2 L2) : I2 103 16 = I 103 16 := by
  unfold pk_sight at h
  obtain ⟨rfl, h⟩ := h
  rcases h with ⟨a1, rfl, rfl⟩ | ⟨a1, rfl, rfl⟩
  · (repeat rw [px_u_out (by omega)])
  · rfl

theorem eb_closed_41_14 {a k x : Int32} {I I2 : px_I} {L L2 : px_L} (h : pb_closed a k I L x I2 L2) : I2 41 14 = I 41 14 := by
  unfold pb_closed at h
  obtain ⟨rfl, h⟩ := h
  rfl

theorem eb_closed_55_14 {a k x : Int32} {I I2 : px_I} {L L2 : px_L} (h : pb_closed a k I L x I2 L2) : I2 55 14 = I 55 14 := by
  unfold pb_closed at h
  obtain ⟨rfl, h⟩ := h
  rfl

theorem ek_closed_103_16 {a k x : Int32} {I I2 : px_I} {L L2 : px_L} (h : pk_closed a k I L x I2 L2) : I2 103 16 = I 103 16 := by
  unfold pk_closed at h
  exact h.1 103 16 (by omega)

theorem eb_span_41_14 {a t k h x : Int32} {I I2 : px_I} {L L2 : px_L} (h : pb_span a t k h I L x I2 L2) : I2 41 14 = I 41 14 := by
  unfold pb_span at h
  obtain ⟨rfl, h⟩ := h
  rfl

theorem eb_span_55_14 {a t k h x : Int32} {I I2 : px_I} {L L2 : px_L} (h : pb_span a t k h I L x I2 L2) : I2 55 14 = I 55 14 := by
  unfold pb_span at h
  obtain ⟨rfl, h⟩ := h
  rfl

theorem ek_span_103_16 {a t k h x : Int32} {I I2 : px_I} {L L2 : px_L} (h : pk_span a t k h I L x I2 L2) : I2 103 16 = I 103 16 := by
  unfold pk_span at h
  exact h.1 103 16 (by omega)

theorem eb_gap_41_14 {a f t k h x : Int32} {I I2 : px_I} {L L2 : px_L} (h : pb_gap a f t k h I L x I2 L2) : I2 41 14 = I 41 14 := by
  unfold pb_gap at h
  obtain ⟨rfl, h⟩ := h
  rfl

theorem eb_gap_55_14 {a f t k h x : Int32} {I I2 : px_I} {L L2 : px_L} (h : pb_gap a f t k h I L x I2 L2) : I2 55 14 = I 55 14 := by
  unfold pb_gap at h
  obtain ⟨rfl, h⟩ := h
  rfl

theorem ek_gap_103_16 {a f t k h x : Int32} {I I2 : px_I} {L L2 : px_L} (h : pk_gap a f t k h I L x I2 L2) : I2 103 16 = I 103 16 := by
  unfold pk_gap at h
  exact h.1 103 16 (by omega)

theorem eb_blamed_41_14 {a k i x : Int32} {I I2 : px_I} {L L2 : px_L} (h : pb_blamed a k i I L x I2 L2) : I2 41 14 = I 41 14 := by
  unfold pb_blamed at h
  obtain ⟨rfl, h⟩ := h
  rfl

theorem eb_blamed_55_14 {a k i x : Int32} {I I2 : px_I} {L L2 : px_L} (h : pb_blamed a k i I L x I2 L2) : I2 55 14 = I 55 14 := by
  unfold pb_blamed at h
  obtain ⟨rfl, h⟩ := h
  rfl

theorem ek_blamed_103_16 {a k i x : Int32} {I I2 : px_I} {L L2 : px_L} (h : pk_blamed a k i I L x I2 L2) : I2 103 16 = I 103 16 := by
  unfold pk_blamed at h
  exact h.1 103 16 (by omega)

theorem eb_reach_41_14 {g lo hi sl fa w st x : Int32} {I I2 : px_I} {L L2 : px_L} (h : pb_reach g lo hi sl fa w st I L x I2 L2) : I2 41 14 = I 41 14 := by
  unfold pb_reach at h
  obtain ⟨rfl, h⟩ := h
  rcases h with ⟨G, ⟨g1, g2, g3⟩, rfl, rfl⟩ | ⟨a1, rfl, rfl⟩
  · have gG : G = 41 ∨ G = 55 := by unfold bG at g1; omega
    rcases gG with rfl | rfl
    · rw [cReach_f (G := 41) (by omega)]
    · rw [cReach_o (G := 55) (by omega)]
  · rfl

theorem eb_reach_55_14 {g lo hi sl fa w st x : Int32} {I I2 : px_I} {L L2 : px_L} (h : pb_reach g lo hi sl fa w st I L x I2 L2) : I2 55 14 = I 55 14 := by
  unfold pb_reach at h
  obtain ⟨rfl, h⟩ := h
  rcases h with ⟨G, ⟨g1, g2, g3⟩, rfl, rfl⟩ | ⟨a1, rfl, rfl⟩
  · have gG : G = 41 ∨ G = 55 := by unfold bG at g1; omega
    rcases gG with rfl | rfl
    · rw [cReach_o (G := 41) (by omega)]
    · rw [cReach_f (G := 55) (by omega)]
  · rfl

theorem ek_reach_103_16 {g lo hi sl fa w st x : Int32} {I I2 : px_I} {L L2 : px_L} (h : pk_reach g lo hi sl fa w st I L x I2 L2) : I2 103 16 = I 103 16 := by
  unfold pk_reach at h
  obtain ⟨rfl, h⟩ := h
  rcases h with ⟨a1, rfl, rfl⟩ | ⟨a1, rfl, rfl⟩
  · unfold mReach; (repeat rw [px_u_out (by omega)])
  · rfl

theorem eb_mouth_41_14 {g st x : Int32} {I I2 : px_I} {L L2 : px_L} (h : pb_mouth g st I L x I2 L2) : I2 41 14 = I 41 14 := by
  unfold pb_mouth at h
  obtain ⟨rfl, h⟩ := h
  rcases h with ⟨G, g1, rfl⟩ | rfl
  · have gG : G = 41 ∨ G = 55 := by unfold bG at g1; omega
    (repeat rw [px_u_out (by omega)])
  · rfl

theorem eb_mouth_55_14 {g st x : Int32} {I I2 : px_I} {L L2 : px_L} (h : pb_mouth g st I L x I2 L2) : I2 55 14 = I 55 14 := by
  unfold pb_mouth at h
  obtain ⟨rfl, h⟩ := h
  rcases h with ⟨G, g1, rfl⟩ | rfl
  · have gG : G = 41 ∨ G = 55 := by unfold bG at g1; omega
    (repeat rw [px_u_out (by omega)])
  · rfl

theorem ek_mouth_103_16 {g st x : Int32} {I I2 : px_I} {L L2 : px_L} (h : pk_mouth g st I L x I2 L2) : I2 103 16 = I 103 16 := by
  unfold pk_mouth at h
  obtain ⟨rfl, h⟩ := h
  rcases h with ⟨a1, a2, rfl, rfl⟩ | ⟨a1, rfl, rfl⟩
  · (repeat rw [px_u_out (by omega)])
  · rfl

theorem eb_when_41_14 {g p h x : Int32} {I I2 : px_I} {L L2 : px_L} (h : pb_when g p h I L x I2 L2) : I2 41 14 = I 41 14 := by
  unfold pb_when at h
  obtain ⟨rfl, h⟩ := h
  rw [h 41 (by decide) (by decide) (by decide) (by decide)]

theorem eb_when_55_14 {g p h x : Int32} {I I2 : px_I} {L L2 : px_L} (h : pb_when g p h I L x I2 L2) : I2 55 14 = I 55 14 := by
  unfold pb_when at h
  obtain ⟨rfl, h⟩ := h
  rw [h 55 (by decide) (by decide) (by decide) (by decide)]

theorem ek_when_103_16 {g p h x : Int32} {I I2 : px_I} {L L2 : px_L} (h : pk_when g p h I L x I2 L2) : I2 103 16 = I 103 16 := by
  unfold pk_when at h
  exact h.1 103 16 (by omega)

theorem eb_between_41_14 {g p q h x : Int32} {I I2 : px_I} {L L2 : px_L} (h : pb_between g p q h I L x I2 L2) : I2 41 14 = I 41 14 := by
  unfold pb_between at h
  obtain ⟨rfl, h⟩ := h
  rw [h 41 (by decide) (by decide) (by decide) (by decide)]

theorem eb_between_55_14 {g p q h x : Int32} {I I2 : px_I} {L L2 : px_L} (h : pb_between g p q h I L x I2 L2) : I2 55 14 = I 55 14 := by
  unfold pb_between at h
  obtain ⟨rfl, h⟩ := h
  rw [h 55 (by decide) (by decide) (by decide) (by decide)]

theorem ek_between_103_16 {g p t h x : Int32} {I I2 : px_I} {L L2 : px_L} (h : pk_between g p t h I L x I2 L2) : I2 103 16 = I 103 16 := by
  unfold pk_between at h
  exact h.1 103 16 (by omega)

theorem eb_lamps_41_14 {g p h lo hi x : Int32} {I I2 : px_I} {L L2 : px_L} (h : pb_lamps g p h lo hi I L x I2 L2) : I2 41 14 = I 41 14 := by
  unfold pb_lamps at h
  rw [h.1]

theorem eb_lamps_55_14 {g p h lo hi x : Int32} {I I2 : px_I} {L L2 : px_L} (h : pb_lamps g p h lo hi I L x I2 L2) : I2 55 14 = I 55 14 := by
  unfold pb_lamps at h
  rw [h.1]

theorem ek_lamps_103_16 {g p h lo hi x : Int32} {I I2 : px_I} {L L2 : px_L} (h : pk_lamps g p h lo hi I L x I2 L2) : I2 103 16 = I 103 16 := by
  unfold pk_lamps at h
  rw [h.1]

theorem eb_count_41_14 {u lo hi x : Int32} {I I2 : px_I} {L L2 : px_L} (h : pb_count u lo hi I L x I2 L2) : I2 41 14 = I 41 14 := by
  unfold pb_count at h
  obtain ⟨rfl, h⟩ := h
  rcases h with ⟨a1, rfl, rfl⟩ | ⟨a1, rfl, rfl⟩
  · (repeat rw [px_u_out (by omega)])
  · rfl

theorem eb_count_55_14 {u lo hi x : Int32} {I I2 : px_I} {L L2 : px_L} (h : pb_count u lo hi I L x I2 L2) : I2 55 14 = I 55 14 := by
  unfold pb_count at h
  obtain ⟨rfl, h⟩ := h
  rcases h with ⟨a1, rfl, rfl⟩ | ⟨a1, rfl, rfl⟩
  · (repeat rw [px_u_out (by omega)])
  · rfl

theorem ek_count_103_16 {u lo hi x : Int32} {I I2 : px_I} {L L2 : px_L} (h : pk_count u lo hi I L x I2 L2) : I2 103 16 = I 103 16 := by
  unfold pk_count at h
  rcases h with ⟨a1, rfl, rfl, rfl⟩ | ⟨a1, rfl, rfl, rfl⟩
  · (repeat rw [px_u_out (by omega)])
  · rfl

theorem eb_unit_41_14 {h x : Int32} {I I2 : px_I} {L L2 : px_L} (h : pb_unit h I L x I2 L2) : I2 41 14 = I 41 14 := by
  unfold pb_unit at h
  rw [h.1]

theorem eb_unit_55_14 {h x : Int32} {I I2 : px_I} {L L2 : px_L} (h : pb_unit h I L x I2 L2) : I2 55 14 = I 55 14 := by
  unfold pb_unit at h
  rw [h.1]

theorem ek_unit_103_16 {h x : Int32} {I I2 : px_I} {L L2 : px_L} (h : pk_unit h I L x I2 L2) : I2 103 16 = I 103 16 := by
  unfold pk_unit at h
  rw [h.1]

theorem eb_feed_41_14 {a b c d e x : Int32} {I I2 : px_I} {L L2 : px_L} (h : pb_feed a b c d e I L x I2 L2) : I2 41 14 = I 41 14 := by
  unfold pb_feed at h
  obtain ⟨rfl, h⟩ := h
  rcases h with ⟨a1, rfl, rfl⟩ | ⟨a1, rfl, rfl⟩
  · rw [cApp_at _ _ 41 14 (by omega) (by omega), cApp_at _ _ 41 14 (by omega) (by omega), cApp_at _ _ 41 14 (by omega) (by omega), cApp_at _ _ 41 14 (by omega) (by omega), cApp_at _ _ 41 14 (by omega) (by omega)]
  · rfl

theorem eb_feed_55_14 {a b c d e x : Int32} {I I2 : px_I} {L L2 : px_L} (h : pb_feed a b c d e I L x I2 L2) : I2 55 14 = I 55 14 := by
  unfold pb_feed at h
  obtain ⟨rfl, h⟩ := h
  rcases h with ⟨a1, rfl, rfl⟩ | ⟨a1, rfl, rfl⟩
  · rw [cApp_at _ _ 55 14 (by omega) (by omega), cApp_at _ _ 55 14 (by omega) (by omega), cApp_at _ _ 55 14 (by omega) (by omega), cApp_at _ _ 55 14 (by omega) (by omega), cApp_at _ _ 55 14 (by omega) (by omega)]
  · rfl

theorem ek_feed_103_16 {a b c d e x : Int32} {I I2 : px_I} {L L2 : px_L} (h : pk_feed a b c d e I L x I2 L2) : I2 103 16 = I 103 16 := by
  unfold pk_feed at h
  obtain ⟨rfl, h⟩ := h
  rcases h with ⟨a1, rfl, rfl⟩ | ⟨a1, rfl, rfl⟩
  · rw [mPut_o (by omega) (by omega), mPut_o (by omega) (by omega), mPut_o (by omega) (by omega), mPut_o (by omega) (by omega), mPut_o (by omega) (by omega)]
  · rfl

theorem eb_end_41_14 {x9 x : Int32} {I I2 : px_I} {L L2 : px_L} (h : pb_end x9 I L x I2 L2) : I2 41 14 = I 41 14 := by
  unfold pb_end at h
  obtain ⟨rfl, h⟩ := h
  rcases h with ⟨a1, rfl, rfl⟩ | ⟨a1, rfl, rfl⟩
  · (repeat rw [px_u_out (by omega)])
  · rfl

theorem eb_end_55_14 {x9 x : Int32} {I I2 : px_I} {L L2 : px_L} (h : pb_end x9 I L x I2 L2) : I2 55 14 = I 55 14 := by
  unfold pb_end at h
  obtain ⟨rfl, h⟩ := h
  rcases h with ⟨a1, rfl, rfl⟩ | ⟨a1, rfl, rfl⟩
  · (repeat rw [px_u_out (by omega)])
  · rfl

theorem ek_end_103_16 {x9 x : Int32} {I I2 : px_I} {L L2 : px_L} (h : pk_end x9 I L x I2 L2) : I2 103 16 = I 103 16 := by
  unfold pk_end at h
  obtain ⟨rfl, h⟩ := h
  rcases h with ⟨a1, a2, rfl, rfl⟩ | ⟨a1, rfl, rfl⟩
  · (repeat rw [px_u_out (by omega)])
  · rfl

theorem eb_way_41_14 {i x : Int32} {I I2 : px_I} {L L2 : px_L} (h : pb_way i I L x I2 L2) : I2 41 14 = I 41 14 := by
  unfold pb_way at h
  exact h.1 41 14 (by omega) (by omega) (by omega) (by omega) (by omega)

theorem eb_way_55_14 {i x : Int32} {I I2 : px_I} {L L2 : px_L} (h : pb_way i I L x I2 L2) : I2 55 14 = I 55 14 := by
  unfold pb_way at h
  exact h.1 55 14 (by omega) (by omega) (by omega) (by omega) (by omega)

theorem ek_way_103_16 {w x : Int32} {I I2 : px_I} {L L2 : px_L} (h : pk_way w I L x I2 L2) : I2 103 16 = I 103 16 := by
  unfold pk_way at h
  obtain ⟨rfl, h⟩ := h
  rcases h with ⟨a1, a2, rfl⟩ | ⟨a1, a2, a3⟩
  · rfl
  · exact a2 103 16 (by omega) (by omega)

theorem eb_fault_41_14 {x9 x : Int32} {I I2 : px_I} {L L2 : px_L} (h : pb_fault x9 I L x I2 L2) : I2 41 14 = I 41 14 := by
  unfold pb_fault at h
  rw [h.1]

theorem eb_fault_55_14 {x9 x : Int32} {I I2 : px_I} {L L2 : px_L} (h : pb_fault x9 I L x I2 L2) : I2 55 14 = I 55 14 := by
  unfold pb_fault at h
  rw [h.1]

theorem ek_fault_103_16 {x9 x : Int32} {I I2 : px_I} {L L2 : px_L} (h : pk_fault x9 I L x I2 L2) : I2 103 16 = I 103 16 := by
  unfold pk_fault at h
  rw [h.1]

theorem eb_tools_41_14 {a b c d e x : Int32} {I I2 : px_I} {L L2 : px_L} (h : pb_tools a b c d e I L x I2 L2) : I2 41 14 = I 41 14 := by
  unfold pb_tools at h
  obtain ⟨rfl, h⟩ := h
  rcases h with ⟨a1, rfl, a2⟩ | ⟨a1, rfl, rfl⟩
  · rw [a2 41 (by decide)]; (repeat rw [px_u_out (by omega)])
  · rfl

theorem eb_tools_55_14 {a b c d e x : Int32} {I I2 : px_I} {L L2 : px_L} (h : pb_tools a b c d e I L x I2 L2) : I2 55 14 = I 55 14 := by
  unfold pb_tools at h
  obtain ⟨rfl, h⟩ := h
  rcases h with ⟨a1, rfl, a2⟩ | ⟨a1, rfl, rfl⟩
  · rw [a2 55 (by decide)]; (repeat rw [px_u_out (by omega)])
  · rfl

theorem ek_tools_103_16 {a b c d e x : Int32} {I I2 : px_I} {L L2 : px_L} (h : pk_tools a b c d e I L x I2 L2) : I2 103 16 = I 103 16 := by
  unfold pk_tools at h
  obtain ⟨rfl, h⟩ := h
  rcases h with ⟨a1, rfl, rfl⟩ | ⟨a1, rfl, rfl⟩
  · (repeat rw [px_u_out (by omega)])
  · rfl

theorem eb_run_41_14 {w h a x : Int32} {I I2 : px_I} {L L2 : px_L} (h : pb_run w h a I L x I2 L2) : I2 41 14 = I 41 14 := by
  unfold pb_run at h
  exact h.1 41 14 (by omega) (by omega) (by omega) (by omega) (by omega) (by omega) (by omega)

theorem eb_run_55_14 {w h a x : Int32} {I I2 : px_I} {L L2 : px_L} (h : pb_run w h a I L x I2 L2) : I2 55 14 = I 55 14 := by
  unfold pb_run at h
  exact h.1 55 14 (by omega) (by omega) (by omega) (by omega) (by omega) (by omega) (by omega)

theorem ek_run_103_16 {w h a x : Int32} {I I2 : px_I} {L L2 : px_L} (h : pk_run w h a I L x I2 L2) : I2 103 16 = I 103 16 := by
  unfold pk_run at h
  exact h.1 103 16 (by omega) (by omega) (by omega)

theorem eb_meeting_41_14 {a f b t x9 h x : Int32} {I I2 : px_I} {L L2 : px_L} (h : pb_meeting a f b t x9 h I L x I2 L2) : I2 41 14 = I 41 14 := by
  unfold pb_meeting at h
  exact h.1 41 14 (by omega) (by omega) (by omega) (by omega) (by omega) (by omega) (by omega)

theorem eb_meeting_55_14 {a f b t x9 h x : Int32} {I I2 : px_I} {L L2 : px_L} (h : pb_meeting a f b t x9 h I L x I2 L2) : I2 55 14 = I 55 14 := by
  unfold pb_meeting at h
  exact h.1 55 14 (by omega) (by omega) (by omega) (by omega) (by omega) (by omega) (by omega)

theorem ek_meeting_103_16 {a f b t x9 h x : Int32} {I I2 : px_I} {L L2 : px_L} (h : pk_meeting a f b t x9 h I L x I2 L2) : I2 103 16 = I 103 16 := by
  unfold pk_meeting at h
  exact h.1 103 16 (by omega) (by omega) (by omega)

theorem eb_there_41_14 {a lo hi x : Int32} {I I2 : px_I} {L L2 : px_L} (h : pb_there a lo hi I L x I2 L2) : I2 41 14 = I 41 14 := by
  unfold pb_there at h
  obtain ⟨rfl, h⟩ := h
  rcases h with ⟨a1, rfl, rfl⟩ | ⟨a1, rfl, rfl⟩
  · (repeat rw [px_u_out (by omega)])
  · rfl

theorem eb_there_55_14 {a lo hi x : Int32} {I I2 : px_I} {L L2 : px_L} (h : pb_there a lo hi I L x I2 L2) : I2 55 14 = I 55 14 := by
  unfold pb_there at h
  obtain ⟨rfl, h⟩ := h
  rcases h with ⟨a1, rfl, rfl⟩ | ⟨a1, rfl, rfl⟩
  · (repeat rw [px_u_out (by omega)])
  · rfl

theorem ek_there_103_16 {a lo hi x : Int32} {I I2 : px_I} {L L2 : px_L} (h : pk_there a lo hi I L x I2 L2) : I2 103 16 = I 103 16 := by
  unfold pk_there at h
  obtain ⟨rfl, h⟩ := h
  rcases h with ⟨a1, rfl, rfl⟩ | ⟨a1, rfl, rfl⟩
  · (repeat rw [px_u_out (by omega)])
  · rfl

theorem eb_fits_41_14 {a f b t x : Int32} {I I2 : px_I} {L L2 : px_L} (h : pb_fits a f b t I L x I2 L2) : I2 41 14 = I 41 14 := by
  unfold pb_fits at h
  exact h.1 41 14 (by omega) (by omega) (by omega) (by omega) (by omega) (by omega) (by omega)

theorem eb_fits_55_14 {a f b t x : Int32} {I I2 : px_I} {L L2 : px_L} (h : pb_fits a f b t I L x I2 L2) : I2 55 14 = I 55 14 := by
  unfold pb_fits at h
  exact h.1 55 14 (by omega) (by omega) (by omega) (by omega) (by omega) (by omega) (by omega)

theorem ek_fits_103_16 {a f b t x : Int32} {I I2 : px_I} {L L2 : px_L} (h : pk_fits a f b t I L x I2 L2) : I2 103 16 = I 103 16 := by
  unfold pk_fits at h
  exact h.1 103 16 (by omega) (by omega) (by omega)

theorem eb_ways_41_14 {a f b t x9 x : Int32} {I I2 : px_I} {L L2 : px_L} (h : pb_ways a f b t x9 I L x I2 L2) : I2 41 14 = I 41 14 := by
  unfold pb_ways at h
  exact h.1 41 14 (by omega) (by omega) (by omega) (by omega) (by omega) (by omega) (by omega)

theorem eb_ways_55_14 {a f b t x9 x : Int32} {I I2 : px_I} {L L2 : px_L} (h : pb_ways a f b t x9 I L x I2 L2) : I2 55 14 = I 55 14 := by
  unfold pb_ways at h
  exact h.1 55 14 (by omega) (by omega) (by omega) (by omega) (by omega) (by omega) (by omega)

theorem ek_ways_103_16 {a f b t x9 x : Int32} {I I2 : px_I} {L L2 : px_L} (h : pk_ways a f b t x9 I L x I2 L2) : I2 103 16 = I 103 16 := by
  unfold pk_ways at h
  exact h.1 103 16 (by omega) (by omega) (by omega)

theorem eb_seek_41_14 {a b c d e f x : Int32} {I I2 : px_I} {L L2 : px_L} (h : pb_seek a b c d e f I L x I2 L2) : I2 41 14 = I 41 14 := by
  unfold pb_seek at h
  obtain ⟨rfl, h⟩ := h
  rcases h with ⟨a1, rfl, rfl⟩ | ⟨a1, rfl, rfl⟩
  · (repeat rw [px_u_out (by omega)])
  · rfl

theorem eb_seek_55_14 {a b c d e f x : Int32} {I I2 : px_I} {L L2 : px_L} (h : pb_seek a b c d e f I L x I2 L2) : I2 55 14 = I 55 14 := by
  unfold pb_seek at h
  obtain ⟨rfl, h⟩ := h
  rcases h with ⟨a1, rfl, rfl⟩ | ⟨a1, rfl, rfl⟩
  · (repeat rw [px_u_out (by omega)])
  · rfl

theorem ek_seek_103_16 {a b c d e f x : Int32} {I I2 : px_I} {L L2 : px_L} (h : pk_seek a b c d e f I L x I2 L2) : I2 103 16 = I 103 16 := by
  unfold pk_seek at h
  obtain ⟨rfl, h⟩ := h
  rcases h with ⟨a1, rfl, rfl⟩ | ⟨a1, rfl, rfl⟩
  · (repeat rw [px_u_out (by omega)])
  · rfl

theorem eb_detour_41_14 {a o h x : Int32} {I I2 : px_I} {L L2 : px_L} (h : pb_detour a o h I L x I2 L2) : I2 41 14 = I 41 14 := by
  unfold pb_detour at h
  rw [h.1]

theorem eb_detour_55_14 {a o h x : Int32} {I I2 : px_I} {L L2 : px_L} (h : pb_detour a o h I L x I2 L2) : I2 55 14 = I 55 14 := by
  unfold pb_detour at h
  rw [h.1]

theorem ek_detour_103_16 {a o lo x : Int32} {I I2 : px_I} {L L2 : px_L} (h : pk_detour a o lo I L x I2 L2) : I2 103 16 = I 103 16 := by
  unfold pk_detour at h
  rw [h.1]

theorem eb_table_41_14 {c v x : Int32} {I I2 : px_I} {L L2 : px_L} (h : pb_table c v I L x I2 L2) : I2 41 14 = I 41 14 := by
  unfold pb_table at h
  obtain ⟨rfl, h⟩ := h
  rcases h with ⟨a1, rfl, rfl⟩ | ⟨a1, rfl, rfl⟩
  · (repeat rw [px_u_out (by omega)])
  · rfl

theorem eb_table_55_14 {c v x : Int32} {I I2 : px_I} {L L2 : px_L} (h : pb_table c v I L x I2 L2) : I2 55 14 = I 55 14 := by
  unfold pb_table at h
  obtain ⟨rfl, h⟩ := h
  rcases h with ⟨a1, rfl, rfl⟩ | ⟨a1, rfl, rfl⟩
  · (repeat rw [px_u_out (by omega)])
  · rfl

theorem ek_table_103_16 {c v x : Int32} {I I2 : px_I} {L L2 : px_L} (h : pk_table c v I L x I2 L2) : I2 103 16 = I 103 16 := by
  unfold pk_table at h
  obtain ⟨rfl, h⟩ := h
  rcases h with ⟨a1, rfl, rfl⟩ | ⟨a1, rfl, rfl⟩
  · (repeat rw [px_u_out (by omega)])
  · rfl

theorem eb_repair_41_14 {g p y x : Int32} {I I2 : px_I} {L L2 : px_L} (h : pb_repair g p y I L x I2 L2) : I2 41 14 = I 41 14 := by
  unfold pb_repair at h
  obtain ⟨rfl, h⟩ := h
  rcases h with ⟨G, g1, rfl, rfl⟩ | ⟨a1, rfl, rfl⟩
  · have g2 := g1.1
    have gG : G = 41 ∨ G = 55 := by unfold bG at g2; omega
    unfold cRep; (repeat rw [px_u_out (by omega)])
  · rfl

theorem eb_repair_55_14 {g p y x : Int32} {I I2 : px_I} {L L2 : px_L} (h : pb_repair g p y I L x I2 L2) : I2 55 14 = I 55 14 := by
  unfold pb_repair at h
  obtain ⟨rfl, h⟩ := h
  rcases h with ⟨G, g1, rfl, rfl⟩ | ⟨a1, rfl, rfl⟩
  · have g2 := g1.1
    have gG : G = 41 ∨ G = 55 := by unfold bG at g2; omega
    unfold cRep; (repeat rw [px_u_out (by omega)])
  · rfl

theorem ek_repair_103_16 {g p y x : Int32} {I I2 : px_I} {L L2 : px_L} (h : pk_repair g p y I L x I2 L2) : I2 103 16 = I 103 16 := by
  unfold pk_repair at h
  obtain ⟨rfl, h⟩ := h
  rcases h with ⟨a1, rfl, rfl⟩ | ⟨a1, rfl, rfl⟩
  · (repeat rw [px_u_out (by omega)])
  · rfl

theorem eb_lime_41_14 {v x : Int32} {I I2 : px_I} {L L2 : px_L} (h : pb_lime v I L x I2 L2) : I2 41 14 = I 41 14 := by
  unfold pb_lime at h
  obtain ⟨rfl, h⟩ := h
  rcases h with ⟨a1, rfl, rfl⟩ | ⟨a1, rfl, rfl⟩
  · (repeat rw [px_u_out (by omega)])
  · rfl

theorem eb_lime_55_14 {v x : Int32} {I I2 : px_I} {L L2 : px_L} (h : pb_lime v I L x I2 L2) : I2 55 14 = I 55 14 := by
  unfold pb_lime at h
  obtain ⟨rfl, h⟩ := h
  rcases h with ⟨a1, rfl, rfl⟩ | ⟨a1, rfl, rfl⟩
  · (repeat rw [px_u_out (by omega)])
  · rfl

theorem ek_lime_103_16 {v x : Int32} {I I2 : px_I} {L L2 : px_L} (h : pk_lime v I L x I2 L2) : I2 103 16 = I 103 16 := by
  unfold pk_lime at h
  obtain ⟨rfl, h⟩ := h
  rcases h with ⟨a1, a2, rfl, rfl⟩ | ⟨a1, rfl, rfl⟩
  · (repeat rw [px_u_out (by omega)])
  · rfl

theorem eb_flow_41_14 {g y k h x : Int32} {I I2 : px_I} {L L2 : px_L} (h : pb_flow g y k h I L x I2 L2) : I2 41 14 = I 41 14 := by
  unfold pb_flow at h
  exact h.1 41 14 (by omega)

theorem eb_flow_55_14 {g y k h x : Int32} {I I2 : px_I} {L L2 : px_L} (h : pb_flow g y k h I L x I2 L2) : I2 55 14 = I 55 14 := by
  unfold pb_flow at h
  exact h.1 55 14 (by omega)

theorem ek_flow_103_16 {g y k h x : Int32} {I I2 : px_I} {L L2 : px_L} (h : pk_flow g y k h I L x I2 L2) : I2 103 16 = I 103 16 := by
  unfold pk_flow at h
  exact h.1 103 16 (by omega)

theorem eb_narrow_41_14 {g y k x : Int32} {I I2 : px_I} {L L2 : px_L} (h : pb_narrow g y k I L x I2 L2) : I2 41 14 = I 41 14 := by
  unfold pb_narrow at h
  exact h.1 41 14 (by omega)

theorem eb_narrow_55_14 {g y k x : Int32} {I I2 : px_I} {L L2 : px_L} (h : pb_narrow g y k I L x I2 L2) : I2 55 14 = I 55 14 := by
  unfold pb_narrow at h
  exact h.1 55 14 (by omega)

theorem ek_narrow_103_16 {g y k x : Int32} {I I2 : px_I} {L L2 : px_L} (h : pk_narrow g y k I L x I2 L2) : I2 103 16 = I 103 16 := by
  unfold pk_narrow at h
  exact h.1 103 16 (by omega)

theorem eb_about_41_14 {w x : Int32} {I I2 : px_I} {L L2 : px_L} (h : pb_about w I L x I2 L2) : I2 41 14 = I 41 14 := by
  unfold pb_about at h
  rw [h.1]

theorem eb_about_55_14 {w x : Int32} {I I2 : px_I} {L L2 : px_L} (h : pb_about w I L x I2 L2) : I2 55 14 = I 55 14 := by
  unfold pb_about at h
  rw [h.1]

theorem ek_about_103_16 {w x : Int32} {I I2 : px_I} {L L2 : px_L} (h : pk_about w I L x I2 L2) : I2 103 16 = I 103 16 := by
  unfold pk_about at h
  rw [h.1]

theorem eb_days_45_r {x9 x : Int32} {I I2 : px_I} {L L2 : px_L} (h : pb_days x9 I L x I2 L2) : I2 45 = I 45 := by
  unfold pb_days at h
  obtain ⟨rfl, h⟩ := h
  rcases h with ⟨a1, a2, rfl, rfl⟩ | ⟨a1, rfl, rfl⟩
  · (repeat rw [px_u_ne (by omega)])
  · rfl

theorem eb_days_46_r {x9 x : Int32} {I I2 : px_I} {L L2 : px_L} (h : pb_days x9 I L x I2 L2) : I2 46 = I 46 := by
  unfold pb_days at h
  obtain ⟨rfl, h⟩ := h
  rcases h with ⟨a1, a2, rfl, rfl⟩ | ⟨a1, rfl, rfl⟩
  · (repeat rw [px_u_ne (by omega)])
  · rfl

theorem eb_days_59_r {x9 x : Int32} {I I2 : px_I} {L L2 : px_L} (h : pb_days x9 I L x I2 L2) : I2 59 = I 59 := by
  unfold pb_days at h
  obtain ⟨rfl, h⟩ := h
  rcases h with ⟨a1, a2, rfl, rfl⟩ | ⟨a1, rfl, rfl⟩
  · (repeat rw [px_u_ne (by omega)])
  · rfl

theorem eb_days_60_r {x9 x : Int32} {I I2 : px_I} {L L2 : px_L} (h : pb_days x9 I L x I2 L2) : I2 60 = I 60 := by
  unfold pb_days at h
  obtain ⟨rfl, h⟩ := h
  rcases h with ⟨a1, a2, rfl, rfl⟩ | ⟨a1, rfl, rfl⟩
  · (repeat rw [px_u_ne (by omega)])
  · rfl

theorem ek_days_111_r {x9 x : Int32} {I I2 : px_I} {L L2 : px_L} (h : pk_days x9 I L x I2 L2) : I2 111 = I 111 := by
  unfold pk_days at h
  obtain ⟨rfl, h⟩ := h
  rcases h with ⟨a1, a2, a3, rfl, rfl⟩ | ⟨a1, rfl, rfl⟩
  · (repeat rw [px_u_ne (by omega)])
  · rfl

theorem ek_days_112_r {x9 x : Int32} {I I2 : px_I} {L L2 : px_L} (h : pk_days x9 I L x I2 L2) : I2 112 = I 112 := by
  unfold pk_days at h
  obtain ⟨rfl, h⟩ := h
  rcases h with ⟨a1, a2, a3, rfl, rfl⟩ | ⟨a1, rfl, rfl⟩
  · (repeat rw [px_u_ne (by omega)])
  · rfl

theorem ek_days_113_r {x9 x : Int32} {I I2 : px_I} {L L2 : px_L} (h : pk_days x9 I L x I2 L2) : I2 113 = I 113 := by
  unfold pk_days at h
  obtain ⟨rfl, h⟩ := h
  rcases h with ⟨a1, a2, a3, rfl, rfl⟩ | ⟨a1, rfl, rfl⟩
  · (repeat rw [px_u_ne (by omega)])
  · rfl

theorem ek_days_114_r {x9 x : Int32} {I I2 : px_I} {L L2 : px_L} (h : pk_days x9 I L x I2 L2) : I2 114 = I 114 := by
  unfold pk_days at h
  obtain ⟨rfl, h⟩ := h
  rcases h with ⟨a1, a2, a3, rfl, rfl⟩ | ⟨a1, rfl, rfl⟩
  · (repeat rw [px_u_ne (by omega)])
  · rfl

theorem eb_station_45_r { x : Int32} {I I2 : px_I} {L L2 : px_L} (h : pb_station  I L x I2 L2) : I2 45 = I 45 := by
  unfold pb_station at h
  obtain ⟨rfl, h⟩ := h
  rcases h with ⟨a1, rfl, rfl⟩ | ⟨a1, rfl, rfl⟩
  · (repeat rw [px_u_ne (by omega)])
  · rfl

theorem eb_station_46_r { x : Int32} {I I2 : px_I} {L L2 : px_L} (h : pb_station  I L x I2 L2) : I2 46 = I 46 := by
  unfold pb_station at h
  obtain ⟨rfl, h⟩ := h
  rcases h with ⟨a1, rfl, rfl⟩ | ⟨a1, rfl, rfl⟩
  · (repeat rw [px_u_ne (by omega)])
  · rfl

theorem eb_station_59_r { x : Int32} {I I2 : px_I} {L L2 : px_L} (h : pb_station  I L x I2 L2) : I2 59 = I 59 := by
  unfold pb_station at h
  obtain ⟨rfl, h⟩ := h
  rcases h with ⟨a1, rfl, rfl⟩ | ⟨a1, rfl, rfl⟩
  · (repeat rw [px_u_ne (by omega)])
  · rfl

theorem eb_station_60_r { x : Int32} {I I2 : px_I} {L L2 : px_L} (h : pb_station  I L x I2 L2) : I2 60 = I 60 := by
  unfold pb_station at h
  obtain ⟨rfl, h⟩ := h
  rcases h with ⟨a1, rfl, rfl⟩ | ⟨a1, rfl, rfl⟩
  · (repeat rw [px_u_ne (by omega)])
  · rfl

theorem ek_station_111_r { x : Int32} {I I2 : px_I} {L L2 : px_L} (h : pk_station  I L x I2 L2) : I2 111 = I 111 := by
  unfold pk_station at h
  obtain ⟨rfl, h⟩ := h
  rcases h with ⟨a1, rfl, rfl⟩ | ⟨a1, rfl, rfl⟩
  · (repeat rw [px_u_ne (by omega)])
  · rfl

theorem ek_station_112_r { x : Int32} {I I2 : px_I} {L L2 : px_L} (h : pk_station  I L x I2 L2) : I2 112 = I 112 := by
  unfold pk_station at h
  obtain ⟨rfl, h⟩ := h
  rcases h with ⟨a1, rfl, rfl⟩ | ⟨a1, rfl, rfl⟩
  · (repeat rw [px_u_ne (by omega)])
  · rfl

theorem ek_station_113_r { x : Int32} {I I2 : px_I} {L L2 : px_L} (h : pk_station  I L x I2 L2) : I2 113 = I 113 := by
  unfold pk_station at h
  obtain ⟨rfl, h⟩ := h
  rcases h with ⟨a1, rfl, rfl⟩ | ⟨a1, rfl, rfl⟩
  · (repeat rw [px_u_ne (by omega)])
  · rfl

theorem ek_station_114_r { x : Int32} {I I2 : px_I} {L L2 : px_L} (h : pk_station  I L x I2 L2) : I2 114 = I 114 := by
  unfold pk_station at h
  obtain ⟨rfl, h⟩ := h
  rcases h with ⟨a1, rfl, rfl⟩ | ⟨a1, rfl, rfl⟩
  · (repeat rw [px_u_ne (by omega)])
  · rfl

theorem eb_sight_45_r {a f t lo hi x : Int32} {I I2 : px_I} {L L2 : px_L} (h : pb_sight a f t lo hi I L x I2 L2) : I2 45 = I 45 := by
  unfold pb_sight at h
  obtain ⟨rfl, h⟩ := h
  rcases h with ⟨a1, rfl, rfl⟩ | ⟨a1, rfl, rfl⟩
  · (repeat rw [px_u_ne (by omega)])
  · rfl

theorem eb_sight_46_r {a f t lo hi x : Int32} {I I2 : px_I} {L L2 : px_L} (h : pb_sight a f t lo hi I L x I2 L2) : I2 46 = I 46 := by
  unfold pb_sight at h
  obtain ⟨rfl, h⟩ := h
  rcases h with ⟨a1, rfl, rfl⟩ | ⟨a1, rfl, rfl⟩
  · (repeat rw [px_u_ne (by omega)])
  · rfl

theorem eb_sight_59_r {a f t lo hi x : Int32} {I I2 : px_I} {L L2 : px_L} (h : pb_sight a f t lo hi I L x I2 L2) : I2 59 = I 59 := by
  unfold pb_sight at h
  obtain ⟨rfl, h⟩ := h
  rcases h with ⟨a1, rfl, rfl⟩ | ⟨a1, rfl, rfl⟩
  · (repeat rw [px_u_ne (by omega)])
  · rfl

theorem eb_sight_60_r {a f t lo hi x : Int32} {I I2 : px_I} {L L2 : px_L} (h : pb_sight a f t lo hi I L x I2 L2) : I2 60 = I 60 := by
  unfold pb_sight at h
  obtain ⟨rfl, h⟩ := h
  rcases h with ⟨a1, rfl, rfl⟩ | ⟨a1, rfl, rfl⟩
  · (repeat rw [px_u_ne (by omega)])
  · rfl

theorem ek_sight_111_r {a f t lo hi x : Int32} {I I2 : px_I} {L L2 : px_L} (h : pk_sight a f t lo hi I L x I2 L2) : I2 111 = I 111 := by
  unfold pk_sight at h
  obtain ⟨rfl, h⟩ := h
  rcases h with ⟨a1, rfl, rfl⟩ | ⟨a1, rfl, rfl⟩
  · (repeat rw [px_u_ne (by omega)])
  · rfl

theorem ek_sight_112_r {a f t lo hi x : Int32} {I I2 : px_I} {L L2 : px_L} (h : pk_sight a f t lo hi I L x I2 L2) : I2 112 = I 112 := by
  unfold pk_sight at h
  obtain ⟨rfl, h⟩ := h
  rcases h with ⟨a1, rfl, rfl⟩ | ⟨a1, rfl, rfl⟩
  · (repeat rw [px_u_ne (by omega)])
  · rfl

theorem ek_sight_113_r {a f t lo hi x : Int32} {I I2 : px_I} {L L2 : px_L} (h : pk_sight a f t lo hi I L x I2 L2) : I2 113 = I 113 := by
  unfold pk_sight at h
  obtain ⟨rfl, h⟩ := h
  rcases h with ⟨a1, rfl, rfl⟩ | ⟨a1, rfl, rfl⟩
  · (repeat rw [px_u_ne (by omega)])
  · rfl

theorem ek_sight_114_r {a f t lo hi x : Int32} {I I2 : px_I} {L L2 : px_L} (h : pk_sight a f t lo hi I L x I2 L2) : I2 114 = I 114 := by
  unfold pk_sight at h
  obtain ⟨rfl, h⟩ := h
  rcases h with ⟨a1, rfl, rfl⟩ | ⟨a1, rfl, rfl⟩
  · (repeat rw [px_u_ne (by omega)])
  · rfl

theorem eb_closed_45_r {a k x : Int32} {I I2 : px_I} {L L2 : px_L} (h : pb_closed a k I L x I2 L2) : I2 45 = I 45 := by
  unfold pb_closed at h
  obtain ⟨rfl, h⟩ := h
  rfl

theorem eb_closed_46_r {a k x : Int32} {I I2 : px_I} {L L2 : px_L} (h : pb_closed a k I L x I2 L2) : I2 46 = I 46 := by
  unfold pb_closed at h
  obtain ⟨rfl, h⟩ := h
  rfl

theorem eb_closed_59_r {a k x : Int32} {I I2 : px_I} {L L2 : px_L} (h : pb_closed a k I L x I2 L2) : I2 59 = I 59 := by
  unfold pb_closed at h
  obtain ⟨rfl, h⟩ := h
  rfl

theorem eb_closed_60_r {a k x : Int32} {I I2 : px_I} {L L2 : px_L} (h : pb_closed a k I L x I2 L2) : I2 60 = I 60 := by
  unfold pb_closed at h
  obtain ⟨rfl, h⟩ := h
  rfl

theorem ek_closed_111_r {a k x : Int32} {I I2 : px_I} {L L2 : px_L} (h : pk_closed a k I L x I2 L2) : I2 111 = I 111 := by
  unfold pk_closed at h
  exact funext fun j => h.1 111 j (by omega)

theorem ek_closed_112_r {a k x : Int32} {I I2 : px_I} {L L2 : px_L} (h : pk_closed a k I L x I2 L2) : I2 112 = I 112 := by
  unfold pk_closed at h
  exact funext fun j => h.1 112 j (by omega)

theorem ek_closed_113_r {a k x : Int32} {I I2 : px_I} {L L2 : px_L} (h : pk_closed a k I L x I2 L2) : I2 113 = I 113 := by
  unfold pk_closed at h
  exact funext fun j => h.1 113 j (by omega)

theorem ek_closed_114_r {a k x : Int32} {I I2 : px_I} {L L2 : px_L} (h : pk_closed a k I L x I2 L2) : I2 114 = I 114 := by
  unfold pk_closed at h
  exact funext fun j => h.1 114 j (by omega)

theorem eb_span_45_r {a t k h x : Int32} {I I2 : px_I} {L L2 : px_L} (h : pb_span a t k h I L x I2 L2) : I2 45 = I 45 := by
  unfold pb_span at h
  obtain ⟨rfl, h⟩ := h
  rfl

theorem eb_span_46_r {a t k h x : Int32} {I I2 : px_I} {L L2 : px_L} (h : pb_span a t k h I L x I2 L2) : I2 46 = I 46 := by
  unfold pb_span at h
  obtain ⟨rfl, h⟩ := h
  rfl

theorem eb_span_59_r {a t k h x : Int32} {I I2 : px_I} {L L2 : px_L} (h : pb_span a t k h I L x I2 L2) : I2 59 = I 59 := by
  unfold pb_span at h
  obtain ⟨rfl, h⟩ := h
  rfl

theorem eb_span_60_r {a t k h x : Int32} {I I2 : px_I} {L L2 : px_L} (h : pb_span a t k h I L x I2 L2) : I2 60 = I 60 := by
  unfold pb_span at h
  obtain ⟨rfl, h⟩ := h
  rfl

theorem ek_span_111_r {a t k h x : Int32} {I I2 : px_I} {L L2 : px_L} (h : pk_span a t k h I L x I2 L2) : I2 111 = I 111 := by
  unfold pk_span at h
  exact funext fun j => h.1 111 j (by omega)

theorem ek_span_112_r {a t k h x : Int32} {I I2 : px_I} {L L2 : px_L} (h : pk_span a t k h I L x I2 L2) : I2 112 = I 112 := by
  unfold pk_span at h
  exact funext fun j => h.1 112 j (by omega)

theorem ek_span_113_r {a t k h x : Int32} {I I2 : px_I} {L L2 : px_L} (h : pk_span a t k h I L x I2 L2) : I2 113 = I 113 := by
  unfold pk_span at h
  exact funext fun j => h.1 113 j (by omega)

theorem ek_span_114_r {a t k h x : Int32} {I I2 : px_I} {L L2 : px_L} (h : pk_span a t k h I L x I2 L2) : I2 114 = I 114 := by
  unfold pk_span at h
  exact funext fun j => h.1 114 j (by omega)

theorem eb_gap_45_r {a f t k h x : Int32} {I I2 : px_I} {L L2 : px_L} (h : pb_gap a f t k h I L x I2 L2) : I2 45 = I 45 := by
  unfold pb_gap at h
  obtain ⟨rfl, h⟩ := h
  rfl

theorem eb_gap_46_r {a f t k h x : Int32} {I I2 : px_I} {L L2 : px_L} (h : pb_gap a f t k h I L x I2 L2) : I2 46 = I 46 := by
  unfold pb_gap at h
  obtain ⟨rfl, h⟩ := h
  rfl

theorem eb_gap_59_r {a f t k h x : Int32} {I I2 : px_I} {L L2 : px_L} (h : pb_gap a f t k h I L x I2 L2) : I2 59 = I 59 := by
  unfold pb_gap at h
  obtain ⟨rfl, h⟩ := h
  rfl

theorem eb_gap_60_r {a f t k h x : Int32} {I I2 : px_I} {L L2 : px_L} (h : pb_gap a f t k h I L x I2 L2) : I2 60 = I 60 := by
  unfold pb_gap at h
  obtain ⟨rfl, h⟩ := h
  rfl

theorem ek_gap_111_r {a f t k h x : Int32} {I I2 : px_I} {L L2 : px_L} (h : pk_gap a f t k h I L x I2 L2) : I2 111 = I 111 := by
  unfold pk_gap at h
  exact funext fun j => h.1 111 j (by omega)

theorem ek_gap_112_r {a f t k h x : Int32} {I I2 : px_I} {L L2 : px_L} (h : pk_gap a f t k h I L x I2 L2) : I2 112 = I 112 := by
  unfold pk_gap at h
  exact funext fun j => h.1 112 j (by omega)

theorem ek_gap_113_r {a f t k h x : Int32} {I I2 : px_I} {L L2 : px_L} (h : pk_gap a f t k h I L x I2 L2) : I2 113 = I 113 := by
  unfold pk_gap at h
  exact funext fun j => h.1 113 j (by omega)

theorem ek_gap_114_r {a f t k h x : Int32} {I I2 : px_I} {L L2 : px_L} (h : pk_gap a f t k h I L x I2 L2) : I2 114 = I 114 := by
  unfold pk_gap at h
  exact funext fun j => h.1 114 j (by omega)

theorem eb_blamed_45_r {a k i x : Int32} {I I2 : px_I} {L L2 : px_L} (h : pb_blamed a k i I L x I2 L2) : I2 45 = I 45 := by
  unfold pb_blamed at h
  obtain ⟨rfl, h⟩ := h
  rfl

theorem eb_blamed_46_r {a k i x : Int32} {I I2 : px_I} {L L2 : px_L} (h : pb_blamed a k i I L x I2 L2) : I2 46 = I 46 := by
  unfold pb_blamed at h
  obtain ⟨rfl, h⟩ := h
  rfl

theorem eb_blamed_59_r {a k i x : Int32} {I I2 : px_I} {L L2 : px_L} (h : pb_blamed a k i I L x I2 L2) : I2 59 = I 59 := by
  unfold pb_blamed at h
  obtain ⟨rfl, h⟩ := h
  rfl

theorem eb_blamed_60_r {a k i x : Int32} {I I2 : px_I} {L L2 : px_L} (h : pb_blamed a k i I L x I2 L2) : I2 60 = I 60 := by
  unfold pb_blamed at h
  obtain ⟨rfl, h⟩ := h
  rfl

theorem ek_blamed_111_r {a k i x : Int32} {I I2 : px_I} {L L2 : px_L} (h : pk_blamed a k i I L x I2 L2) : I2 111 = I 111 := by
  unfold pk_blamed at h
  exact funext fun j => h.1 111 j (by omega)

theorem ek_blamed_112_r {a k i x : Int32} {I I2 : px_I} {L L2 : px_L} (h : pk_blamed a k i I L x I2 L2) : I2 112 = I 112 := by
  unfold pk_blamed at h
  exact funext fun j => h.1 112 j (by omega)

theorem ek_blamed_113_r {a k i x : Int32} {I I2 : px_I} {L L2 : px_L} (h : pk_blamed a k i I L x I2 L2) : I2 113 = I 113 := by
  unfold pk_blamed at h
  exact funext fun j => h.1 113 j (by omega)

theorem ek_blamed_114_r {a k i x : Int32} {I I2 : px_I} {L L2 : px_L} (h : pk_blamed a k i I L x I2 L2) : I2 114 = I 114 := by
  unfold pk_blamed at h
  exact funext fun j => h.1 114 j (by omega)

theorem eb_mouth_45_r {g st x : Int32} {I I2 : px_I} {L L2 : px_L} (h : pb_mouth g st I L x I2 L2) : I2 45 = I 45 := by
  unfold pb_mouth at h
  obtain ⟨rfl, h⟩ := h
  rcases h with ⟨G, g1, rfl⟩ | rfl
  · have gG : G = 41 ∨ G = 55 := by unfold bG at g1; omega
    (repeat rw [px_u_ne (by omega)])
  · rfl

theorem eb_mouth_46_r {g st x : Int32} {I I2 : px_I} {L L2 : px_L} (h : pb_mouth g st I L x I2 L2) : I2 46 = I 46 := by
  unfold pb_mouth at h
  obtain ⟨rfl, h⟩ := h
  rcases h with ⟨G, g1, rfl⟩ | rfl
  · have gG : G = 41 ∨ G = 55 := by unfold bG at g1; omega
    (repeat rw [px_u_ne (by omega)])
  · rfl

theorem eb_mouth_59_r {g st x : Int32} {I I2 : px_I} {L L2 : px_L} (h : pb_mouth g st I L x I2 L2) : I2 59 = I 59 := by
  unfold pb_mouth at h
  obtain ⟨rfl, h⟩ := h
  rcases h with ⟨G, g1, rfl⟩ | rfl
  · have gG : G = 41 ∨ G = 55 := by unfold bG at g1; omega
    (repeat rw [px_u_ne (by omega)])
  · rfl

theorem eb_mouth_60_r {g st x : Int32} {I I2 : px_I} {L L2 : px_L} (h : pb_mouth g st I L x I2 L2) : I2 60 = I 60 := by
  unfold pb_mouth at h
  obtain ⟨rfl, h⟩ := h
  rcases h with ⟨G, g1, rfl⟩ | rfl
  · have gG : G = 41 ∨ G = 55 := by unfold bG at g1; omega
    (repeat rw [px_u_ne (by omega)])
  · rfl

theorem ek_mouth_111_r {g st x : Int32} {I I2 : px_I} {L L2 : px_L} (h : pk_mouth g st I L x I2 L2) : I2 111 = I 111 := by
  unfold pk_mouth at h
  obtain ⟨rfl, h⟩ := h
  rcases h with ⟨a1, a2, rfl, rfl⟩ | ⟨a1, rfl, rfl⟩
  · (repeat rw [px_u_ne (by omega)])
  · rfl

theorem ek_mouth_112_r {g st x : Int32} {I I2 : px_I} {L L2 : px_L} (h : pk_mouth g st I L x I2 L2) : I2 112 = I 112 := by
  unfold pk_mouth at h
  obtain ⟨rfl, h⟩ := h
  rcases h with ⟨a1, a2, rfl, rfl⟩ | ⟨a1, rfl, rfl⟩
  · (repeat rw [px_u_ne (by omega)])
  · rfl

theorem ek_mouth_113_r {g st x : Int32} {I I2 : px_I} {L L2 : px_L} (h : pk_mouth g st I L x I2 L2) : I2 113 = I 113 := by
  unfold pk_mouth at h
  obtain ⟨rfl, h⟩ := h
  rcases h with ⟨a1, a2, rfl, rfl⟩ | ⟨a1, rfl, rfl⟩
  · (repeat rw [px_u_ne (by omega)])
  · rfl

theorem ek_mouth_114_r {g st x : Int32} {I I2 : px_I} {L L2 : px_L} (h : pk_mouth g st I L x I2 L2) : I2 114 = I 114 := by
  unfold pk_mouth at h
  obtain ⟨rfl, h⟩ := h
  rcases h with ⟨a1, a2, rfl, rfl⟩ | ⟨a1, rfl, rfl⟩
  · (repeat rw [px_u_ne (by omega)])
  · rfl

theorem eb_mark_45_r {g p f t x : Int32} {I I2 : px_I} {L L2 : px_L} (h : pb_mark g p f t I L x I2 L2) : I2 45 = I 45 := by
  unfold pb_mark at h
  obtain ⟨rfl, h⟩ := h
  rcases h with ⟨G, g1, rfl, rfl⟩ | ⟨a1, rfl, rfl⟩
  · have g2 := g1.1
    have gG : G = 41 ∨ G = 55 := by unfold bG at g2; omega
    unfold cMark; (repeat rw [px_u_ne (by omega)])
  · rfl

theorem eb_mark_46_r {g p f t x : Int32} {I I2 : px_I} {L L2 : px_L} (h : pb_mark g p f t I L x I2 L2) : I2 46 = I 46 := by
  unfold pb_mark at h
  obtain ⟨rfl, h⟩ := h
  rcases h with ⟨G, g1, rfl, rfl⟩ | ⟨a1, rfl, rfl⟩
  · have g2 := g1.1
    have gG : G = 41 ∨ G = 55 := by unfold bG at g2; omega
    unfold cMark; (repeat rw [px_u_ne (by omega)])
  · rfl

theorem eb_mark_59_r {g p f t x : Int32} {I I2 : px_I} {L L2 : px_L} (h : pb_mark g p f t I L x I2 L2) : I2 59 = I 59 := by
  unfold pb_mark at h
  obtain ⟨rfl, h⟩ := h
  rcases h with ⟨G, g1, rfl, rfl⟩ | ⟨a1, rfl, rfl⟩
  · have g2 := g1.1
    have gG : G = 41 ∨ G = 55 := by unfold bG at g2; omega
    unfold cMark; (repeat rw [px_u_ne (by omega)])
  · rfl

theorem eb_mark_60_r {g p f t x : Int32} {I I2 : px_I} {L L2 : px_L} (h : pb_mark g p f t I L x I2 L2) : I2 60 = I 60 := by
  unfold pb_mark at h
  obtain ⟨rfl, h⟩ := h
  rcases h with ⟨G, g1, rfl, rfl⟩ | ⟨a1, rfl, rfl⟩
  · have g2 := g1.1
    have gG : G = 41 ∨ G = 55 := by unfold bG at g2; omega
    unfold cMark; (repeat rw [px_u_ne (by omega)])
  · rfl

theorem ek_mark_111_r {g p f t x : Int32} {I I2 : px_I} {L L2 : px_L} (h : pk_mark g p f t I L x I2 L2) : I2 111 = I 111 := by
  unfold pk_mark at h
  obtain ⟨rfl, h⟩ := h
  rcases h with ⟨a1, rfl, rfl⟩ | ⟨a1, rfl, rfl⟩
  · unfold mMark; (repeat rw [px_u_ne (by omega)])
  · rfl

theorem ek_mark_112_r {g p f t x : Int32} {I I2 : px_I} {L L2 : px_L} (h : pk_mark g p f t I L x I2 L2) : I2 112 = I 112 := by
  unfold pk_mark at h
  obtain ⟨rfl, h⟩ := h
  rcases h with ⟨a1, rfl, rfl⟩ | ⟨a1, rfl, rfl⟩
  · unfold mMark; (repeat rw [px_u_ne (by omega)])
  · rfl

theorem ek_mark_113_r {g p f t x : Int32} {I I2 : px_I} {L L2 : px_L} (h : pk_mark g p f t I L x I2 L2) : I2 113 = I 113 := by
  unfold pk_mark at h
  obtain ⟨rfl, h⟩ := h
  rcases h with ⟨a1, rfl, rfl⟩ | ⟨a1, rfl, rfl⟩
  · unfold mMark; (repeat rw [px_u_ne (by omega)])
  · rfl

theorem ek_mark_114_r {g p f t x : Int32} {I I2 : px_I} {L L2 : px_L} (h : pk_mark g p f t I L x I2 L2) : I2 114 = I 114 := by
  unfold pk_mark at h
  obtain ⟨rfl, h⟩ := h
  rcases h with ⟨a1, rfl, rfl⟩ | ⟨a1, rfl, rfl⟩
  · unfold mMark; (repeat rw [px_u_ne (by omega)])
  · rfl

theorem eb_when_45_r {g p h x : Int32} {I I2 : px_I} {L L2 : px_L} (h : pb_when g p h I L x I2 L2) : I2 45 = I 45 := by
  unfold pb_when at h
  obtain ⟨rfl, h⟩ := h
  rw [h 45 (by decide) (by decide) (by decide) (by decide)]

theorem eb_when_46_r {g p h x : Int32} {I I2 : px_I} {L L2 : px_L} (h : pb_when g p h I L x I2 L2) : I2 46 = I 46 := by
  unfold pb_when at h
  obtain ⟨rfl, h⟩ := h
  rw [h 46 (by decide) (by decide) (by decide) (by decide)]

theorem eb_when_59_r {g p h x : Int32} {I I2 : px_I} {L L2 : px_L} (h : pb_when g p h I L x I2 L2) : I2 59 = I 59 := by
  unfold pb_when at h
  obtain ⟨rfl, h⟩ := h
  rw [h 59 (by decide) (by decide) (by decide) (by decide)]

theorem eb_when_60_r {g p h x : Int32} {I I2 : px_I} {L L2 : px_L} (h : pb_when g p h I L x I2 L2) : I2 60 = I 60 := by
  unfold pb_when at h
  obtain ⟨rfl, h⟩ := h
  rw [h 60 (by decide) (by decide) (by decide) (by decide)]

theorem ek_when_111_r {g p h x : Int32} {I I2 : px_I} {L L2 : px_L} (h : pk_when g p h I L x I2 L2) : I2 111 = I 111 := by
  unfold pk_when at h
  exact funext fun j => h.1 111 j (by omega)

theorem ek_when_112_r {g p h x : Int32} {I I2 : px_I} {L L2 : px_L} (h : pk_when g p h I L x I2 L2) : I2 112 = I 112 := by
  unfold pk_when at h
  exact funext fun j => h.1 112 j (by omega)

theorem ek_when_113_r {g p h x : Int32} {I I2 : px_I} {L L2 : px_L} (h : pk_when g p h I L x I2 L2) : I2 113 = I 113 := by
  unfold pk_when at h
  exact funext fun j => h.1 113 j (by omega)

theorem ek_when_114_r {g p h x : Int32} {I I2 : px_I} {L L2 : px_L} (h : pk_when g p h I L x I2 L2) : I2 114 = I 114 := by
  unfold pk_when at h
  exact funext fun j => h.1 114 j (by omega)

theorem eb_between_45_r {g p q h x : Int32} {I I2 : px_I} {L L2 : px_L} (h : pb_between g p q h I L x I2 L2) : I2 45 = I 45 := by
  unfold pb_between at h
  obtain ⟨rfl, h⟩ := h
  rw [h 45 (by decide) (by decide) (by decide) (by decide)]

theorem eb_between_46_r {g p q h x : Int32} {I I2 : px_I} {L L2 : px_L} (h : pb_between g p q h I L x I2 L2) : I2 46 = I 46 := by
  unfold pb_between at h
  obtain ⟨rfl, h⟩ := h
  rw [h 46 (by decide) (by decide) (by decide) (by decide)]

theorem eb_between_59_r {g p q h x : Int32} {I I2 : px_I} {L L2 : px_L} (h : pb_between g p q h I L x I2 L2) : I2 59 = I 59 := by
  unfold pb_between at h
  obtain ⟨rfl, h⟩ := h
  rw [h 59 (by decide) (by decide) (by decide) (by decide)]

theorem eb_between_60_r {g p q h x : Int32} {I I2 : px_I} {L L2 : px_L} (h : pb_between g p q h I L x I2 L2) : I2 60 = I 60 := by
  unfold pb_between at h
  obtain ⟨rfl, h⟩ := h
  rw [h 60 (by decide) (by decide) (by decide) (by decide)]

theorem ek_between_111_r {g p t h x : Int32} {I I2 : px_I} {L L2 : px_L} (h : pk_between g p t h I L x I2 L2) : I2 111 = I 111 := by
  unfold pk_between at h
  exact funext fun j => h.1 111 j (by omega)

theorem ek_between_112_r {g p t h x : Int32} {I I2 : px_I} {L L2 : px_L} (h : pk_between g p t h I L x I2 L2) : I2 112 = I 112 := by
  unfold pk_between at h
  exact funext fun j => h.1 112 j (by omega)

theorem ek_between_113_r {g p t h x : Int32} {I I2 : px_I} {L L2 : px_L} (h : pk_between g p t h I L x I2 L2) : I2 113 = I 113 := by
  unfold pk_between at h
  exact funext fun j => h.1 113 j (by omega)

theorem ek_between_114_r {g p t h x : Int32} {I I2 : px_I} {L L2 : px_L} (h : pk_between g p t h I L x I2 L2) : I2 114 = I 114 := by
  unfold pk_between at h
  exact funext fun j => h.1 114 j (by omega)

theorem eb_lamps_45_r {g p h lo hi x : Int32} {I I2 : px_I} {L L2 : px_L} (h : pb_lamps g p h lo hi I L x I2 L2) : I2 45 = I 45 := by
  unfold pb_lamps at h
  rw [h.1]

theorem eb_lamps_46_r {g p h lo hi x : Int32} {I I2 : px_I} {L L2 : px_L} (h : pb_lamps g p h lo hi I L x I2 L2) : I2 46 = I 46 := by
  unfold pb_lamps at h
  rw [h.1]

theorem eb_lamps_59_r {g p h lo hi x : Int32} {I I2 : px_I} {L L2 : px_L} (h : pb_lamps g p h lo hi I L x I2 L2) : I2 59 = I 59 := by
  unfold pb_lamps at h
  rw [h.1]

theorem eb_lamps_60_r {g p h lo hi x : Int32} {I I2 : px_I} {L L2 : px_L} (h : pb_lamps g p h lo hi I L x I2 L2) : I2 60 = I 60 := by
  unfold pb_lamps at h
  rw [h.1]

theorem ek_lamps_111_r {g p h lo hi x : Int32} {I I2 : px_I} {L L2 : px_L} (h : pk_lamps g p h lo hi I L x I2 L2) : I2 111 = I 111 := by
  unfold pk_lamps at h
  rw [h.1]

theorem ek_lamps_112_r {g p h lo hi x : Int32} {I I2 : px_I} {L L2 : px_L} (h : pk_lamps g p h lo hi I L x I2 L2) : I2 112 = I 112 := by
  unfold pk_lamps at h
  rw [h.1]

theorem ek_lamps_113_r {g p h lo hi x : Int32} {I I2 : px_I} {L L2 : px_L} (h : pk_lamps g p h lo hi I L x I2 L2) : I2 113 = I 113 := by
  unfold pk_lamps at h
  rw [h.1]

theorem ek_lamps_114_r {g p h lo hi x : Int32} {I I2 : px_I} {L L2 : px_L} (h : pk_lamps g p h lo hi I L x I2 L2) : I2 114 = I 114 := by
  unfold pk_lamps at h
  rw [h.1]

theorem eb_count_45_r {u lo hi x : Int32} {I I2 : px_I} {L L2 : px_L} (h : pb_count u lo hi I L x I2 L2) : I2 45 = I 45 := by
  unfold pb_count at h
  obtain ⟨rfl, h⟩ := h
  rcases h with ⟨a1, rfl, rfl⟩ | ⟨a1, rfl, rfl⟩
  · (repeat rw [px_u_ne (by omega)])
  · rfl

theorem eb_count_46_r {u lo hi x : Int32} {I I2 : px_I} {L L2 : px_L} (h : pb_count u lo hi I L x I2 L2) : I2 46 = I 46 := by
  unfold pb_count at h
  obtain ⟨rfl, h⟩ := h
  rcases h with ⟨a1, rfl, rfl⟩ | ⟨a1, rfl, rfl⟩
  · (repeat rw [px_u_ne (by omega)])
  · rfl

theorem eb_count_59_r {u lo hi x : Int32} {I I2 : px_I} {L L2 : px_L} (h : pb_count u lo hi I L x I2 L2) : I2 59 = I 59 := by
  unfold pb_count at h
  obtain ⟨rfl, h⟩ := h
  rcases h with ⟨a1, rfl, rfl⟩ | ⟨a1, rfl, rfl⟩
  · (repeat rw [px_u_ne (by omega)])
  · rfl

theorem eb_count_60_r {u lo hi x : Int32} {I I2 : px_I} {L L2 : px_L} (h : pb_count u lo hi I L x I2 L2) : I2 60 = I 60 := by
  unfold pb_count at h
  obtain ⟨rfl, h⟩ := h
  rcases h with ⟨a1, rfl, rfl⟩ | ⟨a1, rfl, rfl⟩
  · (repeat rw [px_u_ne (by omega)])
  · rfl

theorem ek_count_111_r {u lo hi x : Int32} {I I2 : px_I} {L L2 : px_L} (h : pk_count u lo hi I L x I2 L2) : I2 111 = I 111 := by
  unfold pk_count at h
  rcases h with ⟨a1, rfl, rfl, rfl⟩ | ⟨a1, rfl, rfl, rfl⟩
  · (repeat rw [px_u_ne (by omega)])
  · rfl

theorem ek_count_112_r {u lo hi x : Int32} {I I2 : px_I} {L L2 : px_L} (h : pk_count u lo hi I L x I2 L2) : I2 112 = I 112 := by
  unfold pk_count at h
  rcases h with ⟨a1, rfl, rfl, rfl⟩ | ⟨a1, rfl, rfl, rfl⟩
  · (repeat rw [px_u_ne (by omega)])
  · rfl

theorem ek_count_113_r {u lo hi x : Int32} {I I2 : px_I} {L L2 : px_L} (h : pk_count u lo hi I L x I2 L2) : I2 113 = I 113 := by
  unfold pk_count at h
  rcases h with ⟨a1, rfl, rfl, rfl⟩ | ⟨a1, rfl, rfl, rfl⟩
  · (repeat rw [px_u_ne (by omega)])
  · rfl

theorem ek_count_114_r {u lo hi x : Int32} {I I2 : px_I} {L L2 : px_L} (h : pk_count u lo hi I L x I2 L2) : I2 114 = I 114 := by
  unfold pk_count at h
  rcases h with ⟨a1, rfl, rfl, rfl⟩ | ⟨a1, rfl, rfl, rfl⟩
  · (repeat rw [px_u_ne (by omega)])
  · rfl

theorem eb_unit_45_r {h x : Int32} {I I2 : px_I} {L L2 : px_L} (h : pb_unit h I L x I2 L2) : I2 45 = I 45 := by
  unfold pb_unit at h
  rw [h.1]

theorem eb_unit_46_r {h x : Int32} {I I2 : px_I} {L L2 : px_L} (h : pb_unit h I L x I2 L2) : I2 46 = I 46 := by
  unfold pb_unit at h
  rw [h.1]

theorem eb_unit_59_r {h x : Int32} {I I2 : px_I} {L L2 : px_L} (h : pb_unit h I L x I2 L2) : I2 59 = I 59 := by
  unfold pb_unit at h
  rw [h.1]

theorem eb_unit_60_r {h x : Int32} {I I2 : px_I} {L L2 : px_L} (h : pb_unit h I L x I2 L2) : I2 60 = I 60 := by
  unfold pb_unit at h
  rw [h.1]

theorem ek_unit_111_r {h x : Int32} {I I2 : px_I} {L L2 : px_L} (h : pk_unit h I L x I2 L2) : I2 111 = I 111 := by
  unfold pk_unit at h
  rw [h.1]

theorem ek_unit_112_r {h x : Int32} {I I2 : px_I} {L L2 : px_L} (h : pk_unit h I L x I2 L2) : I2 112 = I 112 := by
  unfold pk_unit at h
  rw [h.1]

theorem ek_unit_113_r {h x : Int32} {I I2 : px_I} {L L2 : px_L} (h : pk_unit h I L x I2 L2) : I2 113 = I 113 := by
  unfold pk_unit at h
  rw [h.1]

theorem ek_unit_114_r {h x : Int32} {I I2 : px_I} {L L2 : px_L} (h : pk_unit h I L x I2 L2) : I2 114 = I 114 := by
  unfold pk_unit at h
  rw [h.1]

theorem eb_feed_45_r {a b c d e x : Int32} {I I2 : px_I} {L L2 : px_L} (h : pb_feed a b c d e I L x I2 L2) : I2 45 = I 45 := by
  unfold pb_feed at h
  obtain ⟨rfl, h⟩ := h
  rcases h with ⟨a1, rfl, rfl⟩ | ⟨a1, rfl, rfl⟩
  · rw [cApp_o _ _ (by omega) (by omega), cApp_o _ _ (by omega) (by omega), cApp_o _ _ (by omega) (by omega), cApp_o _ _ (by omega) (by omega), cApp_o _ _ (by omega) (by omega)]
  · rfl

theorem eb_feed_46_r {a b c d e x : Int32} {I I2 : px_I} {L L2 : px_L} (h : pb_feed a b c d e I L x I2 L2) : I2 46 = I 46 := by
  unfold pb_feed at h
  obtain ⟨rfl, h⟩ := h
  rcases h with ⟨a1, rfl, rfl⟩ | ⟨a1, rfl, rfl⟩
  · rw [cApp_o _ _ (by omega) (by omega), cApp_o _ _ (by omega) (by omega), cApp_o _ _ (by omega) (by omega), cApp_o _ _ (by omega) (by omega), cApp_o _ _ (by omega) (by omega)]
  · rfl

theorem eb_feed_59_r {a b c d e x : Int32} {I I2 : px_I} {L L2 : px_L} (h : pb_feed a b c d e I L x I2 L2) : I2 59 = I 59 := by
  unfold pb_feed at h
  obtain ⟨rfl, h⟩ := h
  rcases h with ⟨a1, rfl, rfl⟩ | ⟨a1, rfl, rfl⟩
  · rw [cApp_o _ _ (by omega) (by omega), cApp_o _ _ (by omega) (by omega), cApp_o _ _ (by omega) (by omega), cApp_o _ _ (by omega) (by omega), cApp_o _ _ (by omega) (by omega)]
  · rfl

theorem eb_feed_60_r {a b c d e x : Int32} {I I2 : px_I} {L L2 : px_L} (h : pb_feed a b c d e I L x I2 L2) : I2 60 = I 60 := by
  unfold pb_feed at h
  obtain ⟨rfl, h⟩ := h
  rcases h with ⟨a1, rfl, rfl⟩ | ⟨a1, rfl, rfl⟩
  · rw [cApp_o _ _ (by omega) (by omega), cApp_o _ _ (by omega) (by omega), cApp_o _ _ (by omega) (by omega), cApp_o _ _ (by omega) (by omega), cApp_o _ _ (by omega) (by omega)]
  · rfl

theorem ek_feed_111_r {a b c d e x : Int32} {I I2 : px_I} {L L2 : px_L} (h : pk_feed a b c d e I L x I2 L2) : I2 111 = I 111 := by
  unfold pk_feed at h
  obtain ⟨rfl, h⟩ := h
  rcases h with ⟨a1, rfl, rfl⟩ | ⟨a1, rfl, rfl⟩
  · funext j; rw [mPut_o (by omega) (by omega), mPut_o (by omega) (by omega), mPut_o (by omega) (by omega), mPut_o (by omega) (by omega), mPut_o (by omega) (by omega)]
  · rfl

theorem ek_feed_112_r {a b c d e x : Int32} {I I2 : px_I} {L L2 : px_L} (h : pk_feed a b c d e I L x I2 L2) : I2 112 = I 112 := by
  unfold pk_feed at h
  obtain ⟨rfl, h⟩ := h
  rcases h with ⟨a1, rfl, rfl⟩ | ⟨a1, rfl, rfl⟩
  · funext j; rw [mPut_o (by omega) (by omega), mPut_o (by omega) (by omega), mPut_o (by omega) (by omega), mPut_o (by omega) (by omega), mPut_o (by omega) (by omega)]
  · rfl

theorem ek_feed_113_r {a b c d e x : Int32} {I I2 : px_I} {L L2 : px_L} (h : pk_feed a b c d e I L x I2 L2) : I2 113 = I 113 := by
  unfold pk_feed at h
  obtain ⟨rfl, h⟩ := h
  rcases h with ⟨a1, rfl, rfl⟩ | ⟨a1, rfl, rfl⟩
  · funext j; rw [mPut_o (by omega) (by omega), mPut_o (by omega) (by omega), mPut_o (by omega) (by omega), mPut_o (by omega) (by omega), mPut_o (by omega) (by omega)]
  · rfl

theorem ek_feed_114_r {a b c d e x : Int32} {I I2 : px_I} {L L2 : px_L} (h : pk_feed a b c d e I L x I2 L2) : I2 114 = I 114 := by
  unfold pk_feed at h
  obtain ⟨rfl, h⟩ := h
  rcases h with ⟨a1, rfl, rfl⟩ | ⟨a1, rfl, rfl⟩
  · funext j; rw [mPut_o (by omega) (by omega), mPut_o (by omega) (by omega), mPut_o (by omega) (by omega), mPut_o (by omega) (by omega), mPut_o (by omega) (by omega)]
  · rfl

theorem eb_end_45_r {x9 x : Int32} {I I2 : px_I} {L L2 : px_L} (h : pb_end x9 I L x I2 L2) : I2 45 = I 45 := by
  unfold pb_end at h
  obtain ⟨rfl, h⟩ := h
  rcases h with ⟨a1, rfl, rfl⟩ | ⟨a1, rfl, rfl⟩
  · (repeat rw [px_u_ne (by omega)])
  · rfl

theorem eb_end_46_r {x9 x : Int32} {I I2 : px_I} {L L2 : px_L} (h : pb_end x9 I L x I2 L2) : I2 46 = I 46 := by
  unfold pb_end at h
  obtain ⟨rfl, h⟩ := h
  rcases h with ⟨a1, rfl, rfl⟩ | ⟨a1, rfl, rfl⟩
  · (repeat rw [px_u_ne (by omega)])
  · rfl

theorem eb_end_59_r {x9 x : Int32} {I I2 : px_I} {L L2 : px_L} (h : pb_end x9 I L x I2 L2) : I2 59 = I 59 := by
  unfold pb_end at h
  obtain ⟨rfl, h⟩ := h
  rcases h with ⟨a1, rfl, rfl⟩ | ⟨a1, rfl, rfl⟩
  · (repeat rw [px_u_ne (by omega)])
  · rfl

theorem eb_end_60_r {x9 x : Int32} {I I2 : px_I} {L L2 : px_L} (h : pb_end x9 I L x I2 L2) : I2 60 = I 60 := by
  unfold pb_end at h
  obtain ⟨rfl, h⟩ := h
  rcases h with ⟨a1, rfl, rfl⟩ | ⟨a1, rfl, rfl⟩
  · (repeat rw [px_u_ne (by omega)])
  · rfl

theorem ek_end_111_r {x9 x : Int32} {I I2 : px_I} {L L2 : px_L} (h : pk_end x9 I L x I2 L2) : I2 111 = I 111 := by
  unfold pk_end at h
  obtain ⟨rfl, h⟩ := h
  rcases h with ⟨a1, a2, rfl, rfl⟩ | ⟨a1, rfl, rfl⟩
  · (repeat rw [px_u_ne (by omega)])
  · rfl

theorem ek_end_112_r {x9 x : Int32} {I I2 : px_I} {L L2 : px_L} (h : pk_end x9 I L x I2 L2) : I2 112 = I 112 := by
  unfold pk_end at h
  obtain ⟨rfl, h⟩ := h
  rcases h with ⟨a1, a2, rfl, rfl⟩ | ⟨a1, rfl, rfl⟩
  · (repeat rw [px_u_ne (by omega)])
  · rfl

theorem ek_end_113_r {x9 x : Int32} {I I2 : px_I} {L L2 : px_L} (h : pk_end x9 I L x I2 L2) : I2 113 = I 113 := by
  unfold pk_end at h
  obtain ⟨rfl, h⟩ := h
  rcases h with ⟨a1, a2, rfl, rfl⟩ | ⟨a1, rfl, rfl⟩
  · (repeat rw [px_u_ne (by omega)])
  · rfl

theorem ek_end_114_r {x9 x : Int32} {I I2 : px_I} {L L2 : px_L} (h : pk_end x9 I L x I2 L2) : I2 114 = I 114 := by
  unfold pk_end at h
  obtain ⟨rfl, h⟩ := h
  rcases h with ⟨a1, a2, rfl, rfl⟩ | ⟨a1, rfl, rfl⟩
  · (repeat rw [px_u_ne (by omega)])
  · rfl

theorem eb_way_45_r {i x : Int32} {I I2 : px_I} {L L2 : px_L} (h : pb_way i I L x I2 L2) : I2 45 = I 45 := by
  unfold pb_way at h
  exact funext fun j => h.1 45 j (by omega) (by omega) (by omega) (by omega) (by omega)

theorem eb_way_46_r {i x : Int32} {I I2 : px_I} {L L2 : px_L} (h : pb_way i I L x I2 L2) : I2 46 = I 46 := by
  unfold pb_way at h
  exact funext fun j => h.1 46 j (by omega) (by omega) (by omega) (by omega) (by omega)

theorem eb_way_59_r {i x : Int32} {I I2 : px_I} {L L2 : px_L} (h : pb_way i I L x I2 L2) : I2 59 = I 59 := by
  unfold pb_way at h
  exact funext fun j => h.1 59 j (by omega) (by omega) (by omega) (by omega) (by omega)

theorem eb_way_60_r {i x : Int32} {I I2 : px_I} {L L2 : px_L} (h : pb_way i I L x I2 L2) : I2 60 = I 60 := by
  unfold pb_way at h
  exact funext fun j => h.1 60 j (by omega) (by omega) (by omega) (by omega) (by omega)

theorem ek_way_111_r {w x : Int32} {I I2 : px_I} {L L2 : px_L} (h : pk_way w I L x I2 L2) : I2 111 = I 111 := by
  unfold pk_way at h
  obtain ⟨rfl, h⟩ := h
  rcases h with ⟨a1, a2, rfl⟩ | ⟨a1, a2, a3⟩
  · rfl
  · exact funext fun j => a2 111 j (by omega) (by omega)

theorem ek_way_112_r {w x : Int32} {I I2 : px_I} {L L2 : px_L} (h : pk_way w I L x I2 L2) : I2 112 = I 112 := by
  unfold pk_way at h
  obtain ⟨rfl, h⟩ := h
  rcases h with ⟨a1, a2, rfl⟩ | ⟨a1, a2, a3⟩
  · rfl
  · exact funext fun j => a2 112 j (by omega) (by omega)

theorem ek_way_113_r {w x : Int32} {I I2 : px_I} {L L2 : px_L} (h : pk_way w I L x I2 L2) : I2 113 = I 113 := by
  unfold pk_way at h
  obtain ⟨rfl, h⟩ := h
  rcases h with ⟨a1, a2, rfl⟩ | ⟨a1, a2, a3⟩
  · rfl
  · exact funext fun j => a2 113 j (by omega) (by omega)

theorem ek_way_114_r {w x : Int32} {I I2 : px_I} {L L2 : px_L} (h : pk_way w I L x I2 L2) : I2 114 = I 114 := by
  unfold pk_way at h
  obtain ⟨rfl, h⟩ := h
  rcases h with ⟨a1, a2, rfl⟩ | ⟨a1, a2, a3⟩
  · rfl
  · exact funext fun j => a2 114 j (by omega) (by omega)

theorem eb_fault_45_r {x9 x : Int32} {I I2 : px_I} {L L2 : px_L} (h : pb_fault x9 I L x I2 L2) : I2 45 = I 45 := by
  unfold pb_fault at h
  rw [h.1]

theorem eb_fault_46_r {x9 x : Int32} {I I2 : px_I} {L L2 : px_L} (h : pb_fault x9 I L x I2 L2) : I2 46 = I 46 := by
  unfold pb_fault at h
  rw [h.1]

theorem eb_fault_59_r {x9 x : Int32} {I I2 : px_I} {L L2 : px_L} (h : pb_fault x9 I L x I2 L2) : I2 59 = I 59 := by
  unfold pb_fault at h
  rw [h.1]

theorem eb_fault_60_r {x9 x : Int32} {I I2 : px_I} {L L2 : px_L} (h : pb_fault x9 I L x I2 L2) : I2 60 = I 60 := by
  unfold pb_fault at h
  rw [h.1]

theorem ek_fault_111_r {x9 x : Int32} {I I2 : px_I} {L L2 : px_L} (h : pk_fault x9 I L x I2 L2) : I2 111 = I 111 := by
  unfold pk_fault at h
  rw [h.1]

theorem ek_fault_112_r {x9 x : Int32} {I I2 : px_I} {L L2 : px_L} (h : pk_fault x9 I L x I2 L2) : I2 112 = I 112 := by
  unfold pk_fault at h
  rw [h.1]

theorem ek_fault_113_r {x9 x : Int32} {I I2 : px_I} {L L2 : px_L} (h : pk_fault x9 I L x I2 L2) : I2 113 = I 113 := by
  unfold pk_fault at h
  rw [h.1]

theorem ek_fault_114_r {x9 x : Int32} {I I2 : px_I} {L L2 : px_L} (h : pk_fault x9 I L x I2 L2) : I2 114 = I 114 := by
  unfold pk_fault at h
  rw [h.1]

theorem eb_tools_45_r {a b c d e x : Int32} {I I2 : px_I} {L L2 : px_L} (h : pb_tools a b c d e I L x I2 L2) : I2 45 = I 45 := by
  unfold pb_tools at h
  obtain ⟨rfl, h⟩ := h
  rcases h with ⟨a1, rfl, a2⟩ | ⟨a1, rfl, rfl⟩
  · rw [a2 45 (by decide)]; (repeat rw [px_u_ne (by omega)])
  · rfl

theorem eb_tools_46_r {a b c d e x : Int32} {I I2 : px_I} {L L2 : px_L} (h : pb_tools a b c d e I L x I2 L2) : I2 46 = I 46 := by
  unfold pb_tools at h
  obtain ⟨rfl, h⟩ := h
  rcases h with ⟨a1, rfl, a2⟩ | ⟨a1, rfl, rfl⟩
  · rw [a2 46 (by decide)]; (repeat rw [px_u_ne (by omega)])
  · rfl

theorem eb_tools_59_r {a b c d e x : Int32} {I I2 : px_I} {L L2 : px_L} (h : pb_tools a b c d e I L x I2 L2) : I2 59 = I 59 := by
  unfold pb_tools at h
  obtain ⟨rfl, h⟩ := h
  rcases h with ⟨a1, rfl, a2⟩ | ⟨a1, rfl, rfl⟩
  · rw [a2 59 (by decide)]; (repeat rw [px_u_ne (by omega)])
  · rfl

theorem eb_tools_60_r {a b c d e x : Int32} {I I2 : px_I} {L L2 : px_L} (h : pb_tools a b c d e I L x I2 L2) : I2 60 = I 60 := by
  unfold pb_tools at h
  obtain ⟨rfl, h⟩ := h
  rcases h with ⟨a1, rfl, a2⟩ | ⟨a1, rfl, rfl⟩
  · rw [a2 60 (by decide)]; (repeat rw [px_u_ne (by omega)])
  · rfl

theorem ek_tools_111_r {a b c d e x : Int32} {I I2 : px_I} {L L2 : px_L} (h : pk_tools a b c d e I L x I2 L2) : I2 111 = I 111 := by
  unfold pk_tools at h
  obtain ⟨rfl, h⟩ := h
  rcases h with ⟨a1, rfl, rfl⟩ | ⟨a1, rfl, rfl⟩
  · (repeat rw [px_u_ne (by omega)])
  · rfl

theorem ek_tools_112_r {a b c d e x : Int32} {I I2 : px_I} {L L2 : px_L} (h : pk_tools a b c d e I L x I2 L2) : I2 112 = I 112 := by
  unfold pk_tools at h
  obtain ⟨rfl, h⟩ := h
  rcases h with ⟨a1, rfl, rfl⟩ | ⟨a1, rfl, rfl⟩
  · (repeat rw [px_u_ne (by omega)])
  · rfl

theorem ek_tools_113_r {a b c d e x : Int32} {I I2 : px_I} {L L2 : px_L} (h : pk_tools a b c d e I L x I2 L2) : I2 113 = I 113 := by
  unfold pk_tools at h
  obtain ⟨rfl, h⟩ := h
  rcases h with ⟨a1, rfl, rfl⟩ | ⟨a1, rfl, rfl⟩
  · (repeat rw [px_u_ne (by omega)])
  · rfl

theorem ek_tools_114_r {a b c d e x : Int32} {I I2 : px_I} {L L2 : px_L} (h : pk_tools a b c d e I L x I2 L2) : I2 114 = I 114 := by
  unfold pk_tools at h
  obtain ⟨rfl, h⟩ := h
  rcases h with ⟨a1, rfl, rfl⟩ | ⟨a1, rfl, rfl⟩
  · (repeat rw [px_u_ne (by omega)])
  · rfl

theorem eb_run_45_r {w h a x : Int32} {I I2 : px_I} {L L2 : px_L} (h : pb_run w h a I L x I2 L2) : I2 45 = I 45 := by
  unfold pb_run at h
  exact funext fun j => h.1 45 j (by omega) (by omega) (by omega) (by omega) (by omega) (by omega) (by omega)

theorem eb_run_46_r {w h a x : Int32} {I I2 : px_I} {L L2 : px_L} (h : pb_run w h a I L x I2 L2) : I2 46 = I 46 := by
  unfold pb_run at h
  exact funext fun j => h.1 46 j (by omega) (by omega) (by omega) (by omega) (by omega) (by omega) (by omega)

theorem eb_run_59_r {w h a x : Int32} {I I2 : px_I} {L L2 : px_L} (h : pb_run w h a I L x I2 L2) : I2 59 = I 59 := by
  unfold pb_run at h
  exact funext fun j => h.1 59 j (by omega) (by omega) (by omega) (by omega) (by omega) (by omega) (by omega)

theorem eb_run_60_r {w h a x : Int32} {I I2 : px_I} {L L2 : px_L} (h : pb_run w h a I L x I2 L2) : I2 60 = I 60 := by
  unfold pb_run at h
  exact funext fun j => h.1 60 j (by omega) (by omega) (by omega) (by omega) (by omega) (by omega) (by omega)

theorem ek_run_111_r {w h a x : Int32} {I I2 : px_I} {L L2 : px_L} (h : pk_run w h a I L x I2 L2) : I2 111 = I 111 := by
  unfold pk_run at h
  exact funext fun j => h.1 111 j (by omega) (by omega) (by omega)

theorem ek_run_112_r {w h a x : Int32} {I I2 : px_I} {L L2 : px_L} (h : pk_run w h a I L x I2 L2) : I2 112 = I 112 := by
  unfold pk_run at h
  exact funext fun j => h.1 112 j (by omega) (by omega) (by omega)

theorem ek_run_113_r {w h a x : Int32} {I I2 : px_I} {L L2 : px_L} (h : pk_run w h a I L x I2 L2) : I2 113 = I 113 := by
  unfold pk_run at h
  exact funext fun j => h.1 113 j (by omega) (by omega) (by omega)

theorem ek_run_114_r {w h a x : Int32} {I I2 : px_I} {L L2 : px_L} (h : pk_run w h a I L x I2 L2) : I2 114 = I 114 := by
  unfold pk_run at h
  exact funext fun j => h.1 114 j (by omega) (by omega) (by omega)

theorem eb_meeting_45_r {a f b t x9 h x : Int32} {I I2 : px_I} {L L2 : px_L} (h : pb_meeting a f b t x9 h I L x I2 L2) : I2 45 = I 45 := by
  unfold pb_meeting at h
  exact funext fun j => h.1 45 j (by omega) (by omega) (by omega) (by omega) (by omega) (by omega) (by omega)

theorem eb_meeting_46_r {a f b t x9 h x : Int32} {I I2 : px_I} {L L2 : px_L} (h : pb_meeting a f b t x9 h I L x I2 L2) : I2 46 = I 46 := by
  unfold pb_meeting at h
  exact funext fun j => h.1 46 j (by omega) (by omega) (by omega) (by omega) (by omega) (by omega) (by omega)

theorem eb_meeting_59_r {a f b t x9 h x : Int32} {I I2 : px_I} {L L2 : px_L} (h : pb_meeting a f b t x9 h I L x I2 L2) : I2 59 = I 59 := by
  unfold pb_meeting at h
  exact funext fun j => h.1 59 j (by omega) (by omega) (by omega) (by omega) (by omega) (by omega) (by omega)

theorem eb_meeting_60_r {a f b t x9 h x : Int32} {I I2 : px_I} {L L2 : px_L} (h : pb_meeting a f b t x9 h I L x I2 L2) : I2 60 = I 60 := by
  unfold pb_meeting at h
  exact funext fun j => h.1 60 j (by omega) (by omega) (by omega) (by omega) (by omega) (by omega) (by omega)

theorem ek_meeting_111_r {a f b t x9 h x : Int32} {I I2 : px_I} {L L2 : px_L} (h : pk_meeting a f b t x9 h I L x I2 L2) : I2 111 = I 111 := by
  unfold pk_meeting at h
  exact funext fun j => h.1 111 j (by omega) (by omega) (by omega)

theorem ek_meeting_112_r {a f b t x9 h x : Int32} {I I2 : px_I} {L L2 : px_L} (h : pk_meeting a f b t x9 h I L x I2 L2) : I2 112 = I 112 := by
  unfold pk_meeting at h
  exact funext fun j => h.1 112 j (by omega) (by omega) (by omega)

theorem ek_meeting_113_r {a f b t x9 h x : Int32} {I I2 : px_I} {L L2 : px_L} (h : pk_meeting a f b t x9 h I L x I2 L2) : I2 113 = I 113 := by
  unfold pk_meeting at h
  exact funext fun j => h.1 113 j (by omega) (by omega) (by omega)

theorem ek_meeting_114_r {a f b t x9 h x : Int32} {I I2 : px_I} {L L2 : px_L} (h : pk_meeting a f b t x9 h I L x I2 L2) : I2 114 = I 114 := by
  unfold pk_meeting at h
  exact funext fun j => h.1 114 j (by omega) (by omega) (by omega)

theorem eb_there_45_r {a lo hi x : Int32} {I I2 : px_I} {L L2 : px_L} (h : pb_there a lo hi I L x I2 L2) : I2 45 = I 45 := by
  unfold pb_there at h
  obtain ⟨rfl, h⟩ := h
  rcases h with ⟨a1, rfl, rfl⟩ | ⟨a1, rfl, rfl⟩
  · (repeat rw [px_u_ne (by omega)])
  · rfl

theorem eb_there_46_r {a lo hi x : Int32} {I I2 : px_I} {L L2 : px_L} (h : pb_there a lo hi I L x I2 L2) : I2 46 = I 46 := by
  unfold pb_there at h
  obtain ⟨rfl, h⟩ := h
  rcases h with ⟨a1, rfl, rfl⟩ | ⟨a1, rfl, rfl⟩
  · (repeat rw [px_u_ne (by omega)])
  · rfl

theorem eb_there_59_r {a lo hi x : Int32} {I I2 : px_I} {L L2 : px_L} (h : pb_there a lo hi I L x I2 L2) : I2 59 = I 59 := by
  unfold pb_there at h
  obtain ⟨rfl, h⟩ := h
  rcases h with ⟨a1, rfl, rfl⟩ | ⟨a1, rfl, rfl⟩
  · (repeat rw [px_u_ne (by omega)])
  · rfl

theorem eb_there_60_r {a lo hi x : Int32} {I I2 : px_I} {L L2 : px_L} (h : pb_there a lo hi I L x I2 L2) : I2 60 = I 60 := by
  unfold pb_there at h
  obtain ⟨rfl, h⟩ := h
  rcases h with ⟨a1, rfl, rfl⟩ | ⟨a1, rfl, rfl⟩
  · (repeat rw [px_u_ne (by omega)])
  · rfl

theorem ek_there_111_r {a lo hi x : Int32} {I I2 : px_I} {L L2 : px_L} (h : pk_there a lo hi I L x I2 L2) : I2 111 = I 111 := by
  unfold pk_there at h
  obtain ⟨rfl, h⟩ := h
  rcases h with ⟨a1, rfl, rfl⟩ | ⟨a1, rfl, rfl⟩
  · (repeat rw [px_u_ne (by omega)])
  · rfl

theorem ek_there_112_r {a lo hi x : Int32} {I I2 : px_I} {L L2 : px_L} (h : pk_there a lo hi I L x I2 L2) : I2 112 = I 112 := by
  unfold pk_there at h
  obtain ⟨rfl, h⟩ := h
  rcases h with ⟨a1, rfl, rfl⟩ | ⟨a1, rfl, rfl⟩
  · (repeat rw [px_u_ne (by omega)])
  · rfl

theorem ek_there_113_r {a lo hi x : Int32} {I I2 : px_I} {L L2 : px_L} (h : pk_there a lo hi I L x I2 L2) : I2 113 = I 113 := by
  unfold pk_there at h
  obtain ⟨rfl, h⟩ := h
  rcases h with ⟨a1, rfl, rfl⟩ | ⟨a1, rfl, rfl⟩
  · (repeat rw [px_u_ne (by omega)])
  · rfl

theorem ek_there_114_r {a lo hi x : Int32} {I I2 : px_I} {L L2 : px_L} (h : pk_there a lo hi I L x I2 L2) : I2 114 = I 114 := by
  unfold pk_there at h
  obtain ⟨rfl, h⟩ := h
  rcases h with ⟨a1, rfl, rfl⟩ | ⟨a1, rfl, rfl⟩
  · (repeat rw [px_u_ne (by omega)])
  · rfl

theorem eb_fits_45_r {a f b t x : Int32} {I I2 : px_I} {L L2 : px_L} (h : pb_fits a f b t I L x I2 L2) : I2 45 = I 45 := by
  unfold pb_fits at h
  exact funext fun j => h.1 45 j (by omega) (by omega) (by omega) (by omega) (by omega) (by omega) (by omega)

theorem eb_fits_46_r {a f b t x : Int32} {I I2 : px_I} {L L2 : px_L} (h : pb_fits a f b t I L x I2 L2) : I2 46 = I 46 := by
  unfold pb_fits at h
  exact funext fun j => h.1 46 j (by omega) (by omega) (by omega) (by omega) (by omega) (by omega) (by omega)

theorem eb_fits_59_r {a f b t x : Int32} {I I2 : px_I} {L L2 : px_L} (h : pb_fits a f b t I L x I2 L2) : I2 59 = I 59 := by
  unfold pb_fits at h
  exact funext fun j => h.1 59 j (by omega) (by omega) (by omega) (by omega) (by omega) (by omega) (by omega)

theorem eb_fits_60_r {a f b t x : Int32} {I I2 : px_I} {L L2 : px_L} (h : pb_fits a f b t I L x I2 L2) : I2 60 = I 60 := by
  unfold pb_fits at h
  exact funext fun j => h.1 60 j (by omega) (by omega) (by omega) (by omega) (by omega) (by omega) (by omega)

theorem ek_fits_111_r {a f b t x : Int32} {I I2 : px_I} {L L2 : px_L} (h : pk_fits a f b t I L x I2 L2) : I2 111 = I 111 := by
  unfold pk_fits at h
  exact funext fun j => h.1 111 j (by omega) (by omega) (by omega)

theorem ek_fits_112_r {a f b t x : Int32} {I I2 : px_I} {L L2 : px_L} (h : pk_fits a f b t I L x I2 L2) : I2 112 = I 112 := by
  unfold pk_fits at h
  exact funext fun j => h.1 112 j (by omega) (by omega) (by omega)

theorem ek_fits_113_r {a f b t x : Int32} {I I2 : px_I} {L L2 : px_L} (h : pk_fits a f b t I L x I2 L2) : I2 113 = I 113 := by
  unfold pk_fits at h
  exact funext fun j => h.1 113 j (by omega) (by omega) (by omega)

theorem ek_fits_114_r {a f b t x : Int32} {I I2 : px_I} {L L2 : px_L} (h : pk_fits a f b t I L x I2 L2) : I2 114 = I 114 := by
  unfold pk_fits at h
  exact funext fun j => h.1 114 j (by omega) (by omega) (by omega)

theorem eb_ways_45_r {a f b t x9 x : Int32} {I I2 : px_I} {L L2 : px_L} (h : pb_ways a f b t x9 I L x I2 L2) : I2 45 = I 45 := by
  unfold pb_ways at h
  exact funext fun j => h.1 45 j (by omega) (by omega) (by omega) (by omega) (by omega) (by omega) (by omega)

theorem eb_ways_46_r {a f b t x9 x : Int32} {I I2 : px_I} {L L2 : px_L} (h : pb_ways a f b t x9 I L x I2 L2) : I2 46 = I 46 := by
  unfold pb_ways at h
  exact funext fun j => h.1 46 j (by omega) (by omega) (by omega) (by omega) (by omega) (by omega) (by omega)

theorem eb_ways_59_r {a f b t x9 x : Int32} {I I2 : px_I} {L L2 : px_L} (h : pb_ways a f b t x9 I L x I2 L2) : I2 59 = I 59 := by
  unfold pb_ways at h
  exact funext fun j => h.1 59 j (by omega) (by omega) (by omega) (by omega) (by omega) (by omega) (by omega)

theorem eb_ways_60_r {a f b t x9 x : Int32} {I I2 : px_I} {L L2 : px_L} (h : pb_ways a f b t x9 I L x I2 L2) : I2 60 = I 60 := by
  unfold pb_ways at h
  exact funext fun j => h.1 60 j (by omega) (by omega) (by omega) (by omega) (by omega) (by omega) (by omega)

theorem ek_ways_111_r {a f b t x9 x : Int32} {I I2 : px_I} {L L2 : px_L} (h : pk_ways a f b t x9 I L x I2 L2) : I2 111 = I 111 := by
  unfold pk_ways at h
  exact funext fun j => h.1 111 j (by omega) (by omega) (by omega)

theorem ek_ways_112_r {a f b t x9 x : Int32} {I I2 : px_I} {L L2 : px_L} (h : pk_ways a f b t x9 I L x I2 L2) : I2 112 = I 112 := by
  unfold pk_ways at h
  exact funext fun j => h.1 112 j (by omega) (by omega) (by omega)

theorem ek_ways_113_r {a f b t x9 x : Int32} {I I2 : px_I} {L L2 : px_L} (h : pk_ways a f b t x9 I L x I2 L2) : I2 113 = I 113 := by
  unfold pk_ways at h
  exact funext fun j => h.1 113 j (by omega) (by omega) (by omega)

theorem ek_ways_114_r {a f b t x9 x : Int32} {I I2 : px_I} {L L2 : px_L} (h : pk_ways a f b t x9 I L x I2 L2) : I2 114 = I 114 := by
  unfold pk_ways at h
  exact funext fun j => h.1 114 j (by omega) (by omega) (by omega)

theorem eb_seek_45_r {a b c d e f x : Int32} {I I2 : px_I} {L L2 : px_L} (h : pb_seek a b c d e f I L x I2 L2) : I2 45 = I 45 := by
  unfold pb_seek at h
  obtain ⟨rfl, h⟩ := h
  rcases h with ⟨a1, rfl, rfl⟩ | ⟨a1, rfl, rfl⟩
  · (repeat rw [px_u_ne (by omega)])
  · rfl

theorem eb_seek_46_r {a b c d e f x : Int32} {I I2 : px_I} {L L2 : px_L} (h : pb_seek a b c d e f I L x I2 L2) : I2 46 = I 46 := by
  unfold pb_seek at h
  obtain ⟨rfl, h⟩ := h
  rcases h with ⟨a1, rfl, rfl⟩ | ⟨a1, rfl, rfl⟩
  · (repeat rw [px_u_ne (by omega)])
  · rfl

theorem eb_seek_59_r {a b c d e f x : Int32} {I I2 : px_I} {L L2 : px_L} (h : pb_seek a b c d e f I L x I2 L2) : I2 59 = I 59 := by
  unfold pb_seek at h
  obtain ⟨rfl, h⟩ := h
  rcases h with ⟨a1, rfl, rfl⟩ | ⟨a1, rfl, rfl⟩
  · (repeat rw [px_u_ne (by omega)])
  · rfl

theorem eb_seek_60_r {a b c d e f x : Int32} {I I2 : px_I} {L L2 : px_L} (h : pb_seek a b c d e f I L x I2 L2) : I2 60 = I 60 := by
  unfold pb_seek at h
  obtain ⟨rfl, h⟩ := h
  rcases h with ⟨a1, rfl, rfl⟩ | ⟨a1, rfl, rfl⟩
  · (repeat rw [px_u_ne (by omega)])
  · rfl

theorem ek_seek_111_r {a b c d e f x : Int32} {I I2 : px_I} {L L2 : px_L} (h : pk_seek a b c d e f I L x I2 L2) : I2 111 = I 111 := by
  unfold pk_seek at h
  obtain ⟨rfl, h⟩ := h
  rcases h with ⟨a1, rfl, rfl⟩ | ⟨a1, rfl, rfl⟩
  · (repeat rw [px_u_ne (by omega)])
  · rfl

theorem ek_seek_112_r {a b c d e f x : Int32} {I I2 : px_I} {L L2 : px_L} (h : pk_seek a b c d e f I L x I2 L2) : I2 112 = I 112 := by
  unfold pk_seek at h
  obtain ⟨rfl, h⟩ := h
  rcases h with ⟨a1, rfl, rfl⟩ | ⟨a1, rfl, rfl⟩
  · (repeat rw [px_u_ne (by omega)])
  · rfl

theorem ek_seek_113_r {a b c d e f x : Int32} {I I2 : px_I} {L L2 : px_L} (h : pk_seek a b c d e f I L x I2 L2) : I2 113 = I 113 := by
  unfold pk_seek at h
  obtain ⟨rfl, h⟩ := h
  rcases h with ⟨a1, rfl, rfl⟩ | ⟨a1, rfl, rfl⟩
  · (repeat rw [px_u_ne (by omega)])
  · rfl

theorem ek_seek_114_r {a b c d e f x : Int32} {I I2 : px_I} {L L2 : px_L} (h : pk_seek a b c d e f I L x I2 L2) : I2 114 = I 114 := by
  unfold pk_seek at h
  obtain ⟨rfl, h⟩ := h
  rcases h with ⟨a1, rfl, rfl⟩ | ⟨a1, rfl, rfl⟩
  · (repeat rw [px_u_ne (by omega)])
  · rfl

theorem eb_detour_45_r {a o h x : Int32} {I I2 : px_I} {L L2 : px_L} (h : pb_detour a o h I L x I2 L2) : I2 45 = I 45 := by
  unfold pb_detour at h
  rw [h.1]

theorem eb_detour_46_r {a o h x : Int32} {I I2 : px_I} {L L2 : px_L} (h : pb_detour a o h I L x I2 L2) : I2 46 = I 46 := by
  unfold pb_detour at h
  rw [h.1]

theorem eb_detour_59_r {a o h x : Int32} {I I2 : px_I} {L L2 : px_L} (h : pb_detour a o h I L x I2 L2) : I2 59 = I 59 := by
  unfold pb_detour at h
  rw [h.1]

theorem eb_detour_60_r {a o h x : Int32} {I I2 : px_I} {L L2 : px_L} (h : pb_detour a o h I L x I2 L2) : I2 60 = I 60 := by
  unfold pb_detour at h
  rw [h.1]

theorem ek_detour_111_r {a o lo x : Int32} {I I2 : px_I} {L L2 : px_L} (h : pk_detour a o lo I L x I2 L2) : I2 111 = I 111 := by
  unfold pk_detour at h
  rw [h.1]

theorem ek_detour_112_r {a o lo x : Int32} {I I2 : px_I} {L L2 : px_L} (h : pk_detour a o lo I L x I2 L2) : I2 112 = I 112 := by
  unfold pk_detour at h
  rw [h.1]

theorem ek_detour_113_r {a o lo x : Int32} {I I2 : px_I} {L L2 : px_L} (h : pk_detour a o lo I L x I2 L2) : I2 113 = I 113 := by
  unfold pk_detour at h
  rw [h.1]

theorem ek_detour_114_r {a o lo x : Int32} {I I2 : px_I} {L L2 : px_L} (h : pk_detour a o lo I L x I2 L2) : I2 114 = I 114 := by
  unfold pk_detour at h
  rw [h.1]

theorem eb_table_45_r {c v x : Int32} {I I2 : px_I} {L L2 : px_L} (h : pb_table c v I L x I2 L2) : I2 45 = I 45 := by
  unfold pb_table at h
  obtain ⟨rfl, h⟩ := h
  rcases h with ⟨a1, rfl, rfl⟩ | ⟨a1, rfl, rfl⟩
  · (repeat rw [px_u_ne (by omega)])
  · rfl

theorem eb_table_46_r {c v x : Int32} {I I2 : px_I} {L L2 : px_L} (h : pb_table c v I L x I2 L2) : I2 46 = I 46 := by
  unfold pb_table at h
  obtain ⟨rfl, h⟩ := h
  rcases h with ⟨a1, rfl, rfl⟩ | ⟨a1, rfl, rfl⟩
  · (repeat rw [px_u_ne (by omega)])
  · rfl

theorem eb_table_59_r {c v x : Int32} {I I2 : px_I} {L L2 : px_L} (h : pb_table c v I L x I2 L2) : I2 59 = I 59 := by
  unfold pb_table at h
  obtain ⟨rfl, h⟩ := h
  rcases h with ⟨a1, rfl, rfl⟩ | ⟨a1, rfl, rfl⟩
  · (repeat rw [px_u_ne (by omega)])
  · rfl

theorem eb_table_60_r {c v x : Int32} {I I2 : px_I} {L L2 : px_L} (h : pb_table c v I L x I2 L2) : I2 60 = I 60 := by
  unfold pb_table at h
  obtain ⟨rfl, h⟩ := h
  rcases h with ⟨a1, rfl, rfl⟩ | ⟨a1, rfl, rfl⟩
  · (repeat rw [px_u_ne (by omega)])
  · rfl

theorem ek_table_111_r {c v x : Int32} {I I2 : px_I} {L L2 : px_L} (h : pk_table c v I L x I2 L2) : I2 111 = I 111 := by
  unfold pk_table at h
  obtain ⟨rfl, h⟩ := h
  rcases h with ⟨a1, rfl, rfl⟩ | ⟨a1, rfl, rfl⟩
  · (repeat rw [px_u_ne (by omega)])
  · rfl

theorem ek_table_112_r {c v x : Int32} {I I2 : px_I} {L L2 : px_L} (h : pk_table c v I L x I2 L2) : I2 112 = I 112 := by
  unfold pk_table at h
  obtain ⟨rfl, h⟩ := h
  rcases h with ⟨a1, rfl, rfl⟩ | ⟨a1, rfl, rfl⟩
  · (repeat rw [px_u_ne (by omega)])
  · rfl

theorem ek_table_113_r {c v x : Int32} {I I2 : px_I} {L L2 : px_L} (h : pk_table c v I L x I2 L2) : I2 113 = I 113 := by
  unfold pk_table at h
  obtain ⟨rfl, h⟩ := h
  rcases h with ⟨a1, rfl, rfl⟩ | ⟨a1, rfl, rfl⟩
  · (repeat rw [px_u_ne (by omega)])
  · rfl

theorem ek_table_114_r {c v x : Int32} {I I2 : px_I} {L L2 : px_L} (h : pk_table c v I L x I2 L2) : I2 114 = I 114 := by
  unfold pk_table at h
  obtain ⟨rfl, h⟩ := h
  rcases h with ⟨a1, rfl, rfl⟩ | ⟨a1, rfl, rfl⟩
  · (repeat rw [px_u_ne (by omega)])
  · rfl

theorem eb_repair_45_r {g p y x : Int32} {I I2 : px_I} {L L2 : px_L} (h : pb_repair g p y I L x I2 L2) : I2 45 = I 45 := by
  unfold pb_repair at h
  obtain ⟨rfl, h⟩ := h
  rcases h with ⟨G, g1, rfl, rfl⟩ | ⟨a1, rfl, rfl⟩
  · have g2 := g1.1
    have gG : G = 41 ∨ G = 55 := by unfold bG at g2; omega
    unfold cRep; (repeat rw [px_u_ne (by omega)])
  · rfl

theorem eb_repair_46_r {g p y x : Int32} {I I2 : px_I} {L L2 : px_L} (h : pb_repair g p y I L x I2 L2) : I2 46 = I 46 := by
  unfold pb_repair at h
  obtain ⟨rfl, h⟩ := h
  rcases h with ⟨G, g1, rfl, rfl⟩ | ⟨a1, rfl, rfl⟩
  · have g2 := g1.1
    have gG : G = 41 ∨ G = 55 := by unfold bG at g2; omega
    unfold cRep; (repeat rw [px_u_ne (by omega)])
  · rfl

theorem eb_repair_59_r {g p y x : Int32} {I I2 : px_I} {L L2 : px_L} (h : pb_repair g p y I L x I2 L2) : I2 59 = I 59 := by
  unfold pb_repair at h
  obtain ⟨rfl, h⟩ := h
  rcases h with ⟨G, g1, rfl, rfl⟩ | ⟨a1, rfl, rfl⟩
  · have g2 := g1.1
    have gG : G = 41 ∨ G = 55 := by unfold bG at g2; omega
    unfold cRep; (repeat rw [px_u_ne (by omega)])
  · rfl

theorem eb_repair_60_r {g p y x : Int32} {I I2 : px_I} {L L2 : px_L} (h : pb_repair g p y I L x I2 L2) : I2 60 = I 60 := by
  unfold pb_repair at h
  obtain ⟨rfl, h⟩ := h
  rcases h with ⟨G, g1, rfl, rfl⟩ | ⟨a1, rfl, rfl⟩
  · have g2 := g1.1
    have gG : G = 41 ∨ G = 55 := by unfold bG at g2; omega
    unfold cRep; (repeat rw [px_u_ne (by omega)])
  · rfl

theorem ek_repair_111_r {g p y x : Int32} {I I2 : px_I} {L L2 : px_L} (h : pk_repair g p y I L x I2 L2) : I2 111 = I 111 := by
  unfold pk_repair at h
  obtain ⟨rfl, h⟩ := h
  rcases h with ⟨a1, rfl, rfl⟩ | ⟨a1, rfl, rfl⟩
  · (repeat rw [px_u_ne (by omega)])
  · rfl

theorem ek_repair_112_r {g p y x : Int32} {I I2 : px_I} {L L2 : px_L} (h : pk_repair g p y I L x I2 L2) : I2 112 = I 112 := by
  unfold pk_repair at h
  obtain ⟨rfl, h⟩ := h
  rcases h with ⟨a1, rfl, rfl⟩ | ⟨a1, rfl, rfl⟩
  · (repeat rw [px_u_ne (by omega)])
  · rfl

theorem ek_repair_113_r {g p y x : Int32} {I I2 : px_I} {L L2 : px_L} (h : pk_repair g p y I L x I2 L2) : I2 113 = I 113 := by
  unfold pk_repair at h
  obtain ⟨rfl, h⟩ := h
  rcases h with ⟨a1, rfl, rfl⟩ | ⟨a1, rfl, rfl⟩
  · (repeat rw [px_u_ne (by omega)])
  · rfl

theorem ek_repair_114_r {g p y x : Int32} {I I2 : px_I} {L L2 : px_L} (h : pk_repair g p y I L x I2 L2) : I2 114 = I 114 := by
  unfold pk_repair at h
  obtain ⟨rfl, h⟩ := h
  rcases h with ⟨a1, rfl, rfl⟩ | ⟨a1, rfl, rfl⟩
  · (repeat rw [px_u_ne (by omega)])
  · rfl

theorem eb_lime_45_r {v x : Int32} {I I2 : px_I} {L L2 : px_L} (h : pb_lime v I L x I2 L2) : I2 45 = I 45 := by
  unfold pb_lime at h
  obtain ⟨rfl, h⟩ := h
  rcases h with ⟨a1, rfl, rfl⟩ | ⟨a1, rfl, rfl⟩
  · (repeat rw [px_u_ne (by omega)])
  · rfl

theorem eb_lime_46_r {v x : Int32} {I I2 : px_I} {L L2 : px_L} (h : pb_lime v I L x I2 L2) : I2 46 = I 46 := by
  unfold pb_lime at h
  obtain ⟨rfl, h⟩ := h
  rcases h with ⟨a1, rfl, rfl⟩ | ⟨a1, rfl, rfl⟩
  · (repeat rw [px_u_ne (by omega)])
  · rfl

theorem eb_lime_59_r {v x : Int32} {I I2 : px_I} {L L2 : px_L} (h : pb_lime v I L x I2 L2) : I2 59 = I 59 := by
  unfold pb_lime at h
  obtain ⟨rfl, h⟩ := h
  rcases h with ⟨a1, rfl, rfl⟩ | ⟨a1, rfl, rfl⟩
  · (repeat rw [px_u_ne (by omega)])
  · rfl

theorem eb_lime_60_r {v x : Int32} {I I2 : px_I} {L L2 : px_L} (h : pb_lime v I L x I2 L2) : I2 60 = I 60 := by
  unfold pb_lime at h
  obtain ⟨rfl, h⟩ := h
  rcases h with ⟨a1, rfl, rfl⟩ | ⟨a1, rfl, rfl⟩
  · (repeat rw [px_u_ne (by omega)])
  · rfl

theorem ek_lime_111_r {v x : Int32} {I I2 : px_I} {L L2 : px_L} (h : pk_lime v I L x I2 L2) : I2 111 = I 111 := by
  unfold pk_lime at h
  obtain ⟨rfl, h⟩ := h
  rcases h with ⟨a1, a2, rfl, rfl⟩ | ⟨a1, rfl, rfl⟩
  · (repeat rw [px_u_ne (by omega)])
  · rfl

theorem ek_lime_112_r {v x : Int32} {I I2 : px_I} {L L2 : px_L} (h : pk_lime v I L x I2 L2) : I2 112 = I 112 := by
  unfold pk_lime at h
  obtain ⟨rfl, h⟩ := h
  rcases h with ⟨a1, a2, rfl, rfl⟩ | ⟨a1, rfl, rfl⟩
  · (repeat rw [px_u_ne (by omega)])
  · rfl

theorem ek_lime_113_r {v x : Int32} {I I2 : px_I} {L L2 : px_L} (h : pk_lime v I L x I2 L2) : I2 113 = I 113 := by
  unfold pk_lime at h
  obtain ⟨rfl, h⟩ := h
  rcases h with ⟨a1, a2, rfl, rfl⟩ | ⟨a1, rfl, rfl⟩
  · (repeat rw [px_u_ne (by omega)])
  · rfl

theorem ek_lime_114_r {v x : Int32} {I I2 : px_I} {L L2 : px_L} (h : pk_lime v I L x I2 L2) : I2 114 = I 114 := by
  unfold pk_lime at h
  obtain ⟨rfl, h⟩ := h
  rcases h with ⟨a1, a2, rfl, rfl⟩ | ⟨a1, rfl, rfl⟩
  · (repeat rw [px_u_ne (by omega)])
  · rfl

theorem eb_flow_45_r {g y k h x : Int32} {I I2 : px_I} {L L2 : px_L} (h : pb_flow g y k h I L x I2 L2) : I2 45 = I 45 := by
  unfold pb_flow at h
  exact funext fun j => h.1 45 j (by omega)

theorem eb_flow_46_r {g y k h x : Int32} {I I2 : px_I} {L L2 : px_L} (h : pb_flow g y k h I L x I2 L2) : I2 46 = I 46 := by
  unfold pb_flow at h
  exact funext fun j => h.1 46 j (by omega)

theorem eb_flow_59_r {g y k h x : Int32} {I I2 : px_I} {L L2 : px_L} (h : pb_flow g y k h I L x I2 L2) : I2 59 = I 59 := by
  unfold pb_flow at h
  exact funext fun j => h.1 59 j (by omega)

theorem eb_flow_60_r {g y k h x : Int32} {I I2 : px_I} {L L2 : px_L} (h : pb_flow g y k h I L x I2 L2) : I2 60 = I 60 := by
  unfold pb_flow at h
  exact funext fun j => h.1 60 j (by omega)

theorem ek_flow_111_r {g y k h x : Int32} {I I2 : px_I} {L L2 : px_L} (h : pk_flow g y k h I L x I2 L2) : I2 111 = I 111 := by
  unfold pk_flow at h
  exact funext fun j => h.1 111 j (by omega)

theorem ek_flow_112_r {g y k h x : Int32} {I I2 : px_I} {L L2 : px_L} (h : pk_flow g y k h I L x I2 L2) : I2 112 = I 112 := by
  unfold pk_flow at h
  exact funext fun j => h.1 112 j (by omega)

theorem ek_flow_113_r {g y k h x : Int32} {I I2 : px_I} {L L2 : px_L} (h : pk_flow g y k h I L x I2 L2) : I2 113 = I 113 := by
  unfold pk_flow at h
  exact funext fun j => h.1 113 j (by omega)

theorem ek_flow_114_r {g y k h x : Int32} {I I2 : px_I} {L L2 : px_L} (h : pk_flow g y k h I L x I2 L2) : I2 114 = I 114 := by
  unfold pk_flow at h
  exact funext fun j => h.1 114 j (by omega)

theorem eb_narrow_45_r {g y k x : Int32} {I I2 : px_I} {L L2 : px_L} (h : pb_narrow g y k I L x I2 L2) : I2 45 = I 45 := by
  unfold pb_narrow at h
  exact funext fun j => h.1 45 j (by omega)

theorem eb_narrow_46_r {g y k x : Int32} {I I2 : px_I} {L L2 : px_L} (h : pb_narrow g y k I L x I2 L2) : I2 46 = I 46 := by
  unfold pb_narrow at h
  exact funext fun j => h.1 46 j (by omega)

theorem eb_narrow_59_r {g y k x : Int32} {I I2 : px_I} {L L2 : px_L} (h : pb_narrow g y k I L x I2 L2) : I2 59 = I 59 := by
  unfold pb_narrow at h
  exact funext fun j => h.1 59 j (by omega)

theorem eb_narrow_60_r {g y k x : Int32} {I I2 : px_I} {L L2 : px_L} (h : pb_narrow g y k I L x I2 L2) : I2 60 = I 60 := by
  unfold pb_narrow at h
  exact funext fun j => h.1 60 j (by omega)

theorem ek_narrow_111_r {g y k x : Int32} {I I2 : px_I} {L L2 : px_L} (h : pk_narrow g y k I L x I2 L2) : I2 111 = I 111 := by
  unfold pk_narrow at h
  exact funext fun j => h.1 111 j (by omega)

theorem ek_narrow_112_r {g y k x : Int32} {I I2 : px_I} {L L2 : px_L} (h : pk_narrow g y k I L x I2 L2) : I2 112 = I 112 := by
  unfold pk_narrow at h
  exact funext fun j => h.1 112 j (by omega)

theorem ek_narrow_113_r {g y k x : Int32} {I I2 : px_I} {L L2 : px_L} (h : pk_narrow g y k I L x I2 L2) : I2 113 = I 113 := by
  unfold pk_narrow at h
  exact funext fun j => h.1 113 j (by omega)

theorem ek_narrow_114_r {g y k x : Int32} {I I2 : px_I} {L L2 : px_L} (h : pk_narrow g y k I L x I2 L2) : I2 114 = I 114 := by
  unfold pk_narrow at h
  exact funext fun j => h.1 114 j (by omega)

theorem eb_about_45_r {w x : Int32} {I I2 : px_I} {L L2 : px_L} (h : pb_about w I L x I2 L2) : I2 45 = I 45 := by
  unfold pb_about at h
  rw [h.1]

theorem eb_about_46_r {w x : Int32} {I I2 : px_I} {L L2 : px_L} (h : pb_about w I L x I2 L2) : I2 46 = I 46 := by
  unfold pb_about at h
  rw [h.1]

theorem eb_about_59_r {w x : Int32} {I I2 : px_I} {L L2 : px_L} (h : pb_about w I L x I2 L2) : I2 59 = I 59 := by
  unfold pb_about at h
  rw [h.1]

theorem eb_about_60_r {w x : Int32} {I I2 : px_I} {L L2 : px_L} (h : pb_about w I L x I2 L2) : I2 60 = I 60 := by
  unfold pb_about at h
  rw [h.1]

theorem ek_about_111_r {w x : Int32} {I I2 : px_I} {L L2 : px_L} (h : pk_about w I L x I2 L2) : I2 111 = I 111 := by
  unfold pk_about at h
  rw [h.1]

theorem ek_about_112_r {w x : Int32} {I I2 : px_I} {L L2 : px_L} (h : pk_about w I L x I2 L2) : I2 112 = I 112 := by
  unfold pk_about at h
  rw [h.1]

theorem ek_about_113_r {w x : Int32} {I I2 : px_I} {L L2 : px_L} (h : pk_about w I L x I2 L2) : I2 113 = I 113 := by
  unfold pk_about at h
  rw [h.1]

theorem ek_about_114_r {w x : Int32} {I I2 : px_I} {L L2 : px_L} (h : pk_about w I L x I2 L2) : I2 114 = I 114 := by
  unfold pk_about at h
  rw [h.1]

theorem eb_days_48_r {x9 x : Int32} {I I2 : px_I} {L L2 : px_L} (h : pb_days x9 I L x I2 L2) : I2 48 = I 48 := by
  unfold pb_days at h
  obtain ⟨rfl, h⟩ := h
  rcases h with ⟨a1, a2, rfl, rfl⟩ | ⟨a1, rfl, rfl⟩
  · (repeat rw [px_u_ne (by omega)])
  · rfl

theorem eb_days_49_r {x9 x : Int32} {I I2 : px_I} {L L2 : px_L} (h : pb_days x9 I L x I2 L2) : I2 49 = I 49 := by
  unfold pb_days at h
  obtain ⟨rfl, h⟩ := h
  rcases h with ⟨a1, a2, rfl, rfl⟩ | ⟨a1, rfl, rfl⟩
  · (repeat rw [px_u_ne (by omega)])
  · rfl

theorem eb_days_62_r {x9 x : Int32} {I I2 : px_I} {L L2 : px_L} (h : pb_days x9 I L x I2 L2) : I2 62 = I 62 := by
  unfold pb_days at h
  obtain ⟨rfl, h⟩ := h
  rcases h with ⟨a1, a2, rfl, rfl⟩ | ⟨a1, rfl, rfl⟩
  · (repeat rw [px_u_ne (by omega)])
  · rfl

theorem eb_days_63_r {x9 x : Int32} {I I2 : px_I} {L L2 : px_L} (h : pb_days x9 I L x I2 L2) : I2 63 = I 63 := by
  unfold pb_days at h
  obtain ⟨rfl, h⟩ := h
  rcases h with ⟨a1, a2, rfl, rfl⟩ | ⟨a1, rfl, rfl⟩
  · (repeat rw [px_u_ne (by omega)])
  · rfl

theorem ek_days_117_r {x9 x : Int32} {I I2 : px_I} {L L2 : px_L} (h : pk_days x9 I L x I2 L2) : I2 117 = I 117 := by
  unfold pk_days at h
  obtain ⟨rfl, h⟩ := h
  rcases h with ⟨a1, a2, a3, rfl, rfl⟩ | ⟨a1, rfl, rfl⟩
  · (repeat rw [px_u_ne (by omega)])
  · rfl

theorem ek_days_118_r {x9 x : Int32} {I I2 : px_I} {L L2 : px_L} (h : pk_days x9 I L x I2 L2) : I2 118 = I 118 := by
  unfold pk_days at h
  obtain ⟨rfl, h⟩ := h
  rcases h with ⟨a1, a2, a3, rfl, rfl⟩ | ⟨a1, rfl, rfl⟩
  · (repeat rw [px_u_ne (by omega)])
  · rfl

theorem ek_days_119_r {x9 x : Int32} {I I2 : px_I} {L L2 : px_L} (h : pk_days x9 I L x I2 L2) : I2 119 = I 119 := by
  unfold pk_days at h
  obtain ⟨rfl, h⟩ := h
  rcases h with ⟨a1, a2, a3, rfl, rfl⟩ | ⟨a1, rfl, rfl⟩
  · (repeat rw [px_u_ne (by omega)])
  · rfl

theorem ek_days_120_r {x9 x : Int32} {I I2 : px_I} {L L2 : px_L} (h : pk_days x9 I L x I2 L2) : I2 120 = I 120 := by
  unfold pk_days at h
  obtain ⟨rfl, h⟩ := h
  rcases h with ⟨a1, a2, a3, rfl, rfl⟩ | ⟨a1, rfl, rfl⟩
  · (repeat rw [px_u_ne (by omega)])
  · rfl

theorem eb_station_48_r { x : Int32} {I I2 : px_I} {L L2 : px_L} (h : pb_station  I L x I2 L2) : I2 48 = I 48 := by
  unfold pb_station at h
  obtain ⟨rfl, h⟩ := h
  rcases h with ⟨a1, rfl, rfl⟩ | ⟨a1, rfl, rfl⟩
  · (repeat rw [px_u_ne (by omega)])
  · rfl

theorem eb_station_49_r { x : Int32} {I I2 : px_I} {L L2 : px_L} (h : pb_station  I L x I2 L2) : I2 49 = I 49 := by
  unfold pb_station at h
  obtain ⟨rfl, h⟩ := h
  rcases h with ⟨a1, rfl, rfl⟩ | ⟨a1, rfl, rfl⟩
  · (repeat rw [px_u_ne (by omega)])
  · rfl

theorem eb_station_62_r { x : Int32} {I I2 : px_I} {L L2 : px_L} (h : pb_station  I L x I2 L2) : I2 62 = I 62 := by
  unfold pb_station at h
  obtain ⟨rfl, h⟩ := h
  rcases h with ⟨a1, rfl, rfl⟩ | ⟨a1, rfl, rfl⟩
  · (repeat rw [px_u_ne (by omega)])
  · rfl

theorem eb_station_63_r { x : Int32} {I I2 : px_I} {L L2 : px_L} (h : pb_station  I L x I2 L2) : I2 63 = I 63 := by
  unfold pb_station at h
  obtain ⟨rfl, h⟩ := h
  rcases h with ⟨a1, rfl, rfl⟩ | ⟨a1, rfl, rfl⟩
  · (repeat rw [px_u_ne (by omega)])
  · rfl

theorem ek_station_117_r { x : Int32} {I I2 : px_I} {L L2 : px_L} (h : pk_station  I L x I2 L2) : I2 117 = I 117 := by
  unfold pk_station at h
  obtain ⟨rfl, h⟩ := h
  rcases h with ⟨a1, rfl, rfl⟩ | ⟨a1, rfl, rfl⟩
  · (repeat rw [px_u_ne (by omega)])
  · rfl

theorem ek_station_118_r { x : Int32} {I I2 : px_I} {L L2 : px_L} (h : pk_station  I L x I2 L2) : I2 118 = I 118 := by
  unfold pk_station at h
  obtain ⟨rfl, h⟩ := h
  rcases h with ⟨a1, rfl, rfl⟩ | ⟨a1, rfl, rfl⟩
  · (repeat rw [px_u_ne (by omega)])
  · rfl

theorem ek_station_119_r { x : Int32} {I I2 : px_I} {L L2 : px_L} (h : pk_station  I L x I2 L2) : I2 119 = I 119 := by
  unfold pk_station at h
  obtain ⟨rfl, h⟩ := h
  rcases h with ⟨a1, rfl, rfl⟩ | ⟨a1, rfl, rfl⟩
  · (repeat rw [px_u_ne (by omega)])
  · rfl

theorem ek_station_120_r { x : Int32} {I I2 : px_I} {L L2 : px_L} (h : pk_station  I L x I2 L2) : I2 120 = I 120 := by
  unfold pk_station at h
  obtain ⟨rfl, h⟩ := h
  rcases h with ⟨a1, rfl, rfl⟩ | ⟨a1, rfl, rfl⟩
  · (repeat rw [px_u_ne (by omega)])
  · rfl

theorem eb_sight_48_r {a f t lo hi x : Int32} {I I2 : px_I} {L L2 : px_L} (h : pb_sight a f t lo hi I L x I2 L2) : I2 48 = I 48 := by
  unfold pb_sight at h
  obtain ⟨rfl, h⟩ := h
  rcases h with ⟨a1, rfl, rfl⟩ | ⟨a1, rfl, rfl⟩
  · (repeat rw [px_u_ne (by omega)])
  · rfl

theorem eb_sight_49_r {a f t lo hi x : Int32} {I I2 : px_I} {L L2 : px_L} (h : pb_sight a f t lo hi I L x I2 L2) : I2 49 = I 49 := by
  unfold pb_sight at h
  obtain ⟨rfl, h⟩ := h
  rcases h with ⟨a1, rfl, rfl⟩ | ⟨a1, rfl, rfl⟩
  · (repeat rw [px_u_ne (by omega)])
  · rfl

theorem eb_sight_62_r {a f t lo hi x : Int32} {I I2 : px_I} {L L2 : px_L} (h : pb_sight a f t lo hi I L x I2 L2) : I2 62 = I 62 := by
  unfold pb_sight at h
  obtain ⟨rfl, h⟩ := h
  rcases h with ⟨a1, rfl, rfl⟩ | ⟨a1, rfl, rfl⟩
  · (repeat rw [px_u_ne (by omega)])
  · rfl

theorem eb_sight_63_r {a f t lo hi x : Int32} {I I2 : px_I} {L L2 : px_L} (h : pb_sight a f t lo hi I L x I2 L2) : I2 63 = I 63 := by
  unfold pb_sight at h
  obtain ⟨rfl, h⟩ := h
  rcases h with ⟨a1, rfl, rfl⟩ | ⟨a1, rfl, rfl⟩
  · (repeat rw [px_u_ne (by omega)])
  · rfl

theorem ek_sight_117_r {a f t lo hi x : Int32} {I I2 : px_I} {L L2 : px_L} (h : pk_sight a f t lo hi I L x I2 L2) : I2 117 = I 117 := by
  unfold pk_sight at h
  obtain ⟨rfl, h⟩ := h
  rcases h with ⟨a1, rfl, rfl⟩ | ⟨a1, rfl, rfl⟩
  · (repeat rw [px_u_ne (by omega)])
  · rfl

theorem ek_sight_118_r {a f t lo hi x : Int32} {I I2 : px_I} {L L2 : px_L} (h : pk_sight a f t lo hi I L x I2 L2) : I2 118 = I 118 := by
  unfold pk_sight at h
  obtain ⟨rfl, h⟩ := h
  rcases h with ⟨a1, rfl, rfl⟩ | ⟨a1, rfl, rfl⟩
  · (repeat rw [px_u_ne (by omega)])
  · rfl

theorem ek_sight_119_r {a f t lo hi x : Int32} {I I2 : px_I} {L L2 : px_L} (h : pk_sight a f t lo hi I L x I2 L2) : I2 119 = I 119 := by
  unfold pk_sight at h
  obtain ⟨rfl, h⟩ := h
  rcases h with ⟨a1, rfl, rfl⟩ | ⟨a1, rfl, rfl⟩
  · (repeat rw [px_u_ne (by omega)])
  · rfl

theorem ek_sight_120_r {a f t lo hi x : Int32} {I I2 : px_I} {L L2 : px_L} (h : pk_sight a f t lo hi I L x I2 L2) : I2 120 = I 120 := by
  unfold pk_sight at h
  obtain ⟨rfl, h⟩ := h
  rcases h with ⟨a1, rfl, rfl⟩ | ⟨a1, rfl, rfl⟩
  · (repeat rw [px_u_ne (by omega)])
  · rfl

theorem eb_closed_48_r {a k x : Int32} {I I2 : px_I} {L L2 : px_L} (h : pb_closed a k I L x I2 L2) : I2 48 = I 48 := by
  unfold pb_closed at h
  obtain ⟨rfl, h⟩ := h
  rfl

theorem eb_closed_49_r {a k x : Int32} {I I2 : px_I} {L L2 : px_L} (h : pb_closed a k I L x I2 L2) : I2 49 = I 49 := by
  unfold pb_closed at h
  obtain ⟨rfl, h⟩ := h
  rfl

theorem eb_closed_62_r {a k x : Int32} {I I2 : px_I} {L L2 : px_L} (h : pb_closed a k I L x I2 L2) : I2 62 = I 62 := by
  unfold pb_closed at h
  obtain ⟨rfl, h⟩ := h
  rfl

theorem eb_closed_63_r {a k x : Int32} {I I2 : px_I} {L L2 : px_L} (h : pb_closed a k I L x I2 L2) : I2 63 = I 63 := by
  unfold pb_closed at h
  obtain ⟨rfl, h⟩ := h
  rfl

theorem ek_closed_117_r {a k x : Int32} {I I2 : px_I} {L L2 : px_L} (h : pk_closed a k I L x I2 L2) : I2 117 = I 117 := by
  unfold pk_closed at h
  exact funext fun j => h.1 117 j (by omega)

theorem ek_closed_118_r {a k x : Int32} {I I2 : px_I} {L L2 : px_L} (h : pk_closed a k I L x I2 L2) : I2 118 = I 118 := by
  unfold pk_closed at h
  exact funext fun j => h.1 118 j (by omega)

theorem ek_closed_119_r {a k x : Int32} {I I2 : px_I} {L L2 : px_L} (h : pk_closed a k I L x I2 L2) : I2 119 = I 119 := by
  unfold pk_closed at h
  exact funext fun j => h.1 119 j (by omega)

theorem ek_closed_120_r {a k x : Int32} {I I2 : px_I} {L L2 : px_L} (h : pk_closed a k I L x I2 L2) : I2 120 = I 120 := by
  unfold pk_closed at h
  exact funext fun j => h.1 120 j (by omega)

theorem eb_span_48_r {a t k h x : Int32} {I I2 : px_I} {L L2 : px_L} (h : pb_span a t k h I L x I2 L2) : I2 48 = I 48 := by
  unfold pb_span at h
  obtain ⟨rfl, h⟩ := h
  rfl

theorem eb_span_49_r {a t k h x : Int32} {I I2 : px_I} {L L2 : px_L} (h : pb_span a t k h I L x I2 L2) : I2 49 = I 49 := by
  unfold pb_span at h
  obtain ⟨rfl, h⟩ := h
  rfl

theorem eb_span_62_r {a t k h x : Int32} {I I2 : px_I} {L L2 : px_L} (h : pb_span a t k h I L x I2 L2) : I2 62 = I 62 := by
  unfold pb_span at h
  obtain ⟨rfl, h⟩ := h
  rfl

theorem eb_span_63_r {a t k h x : Int32} {I I2 : px_I} {L L2 : px_L} (h : pb_span a t k h I L x I2 L2) : I2 63 = I 63 := by
  unfold pb_span at h
  obtain ⟨rfl, h⟩ := h
  rfl

theorem ek_span_117_r {a t k h x : Int32} {I I2 : px_I} {L L2 : px_L} (h : pk_span a t k h I L x I2 L2) : I2 117 = I 117 := by
  unfold pk_span at h
  exact funext fun j => h.1 117 j (by omega)

theorem ek_span_118_r {a t k h x : Int32} {I I2 : px_I} {L L2 : px_L} (h : pk_span a t k h I L x I2 L2) : I2 118 = I 118 := by
  unfold pk_span at h
  exact funext fun j => h.1 118 j (by omega)

theorem ek_span_119_r {a t k h x : Int32} {I I2 : px_I} {L L2 : px_L} (h : pk_span a t k h I L x I2 L2) : I2 119 = I 119 := by
  unfold pk_span at h
  exact funext fun j => h.1 119 j (by omega)

theorem ek_span_120_r {a t k h x : Int32} {I I2 : px_I} {L L2 : px_L} (h : pk_span a t k h I L x I2 L2) : I2 120 = I 120 := by
  unfold pk_span at h
  exact funext fun j => h.1 120 j (by omega)

theorem eb_gap_48_r {a f t k h x : Int32} {I I2 : px_I} {L L2 : px_L} (h : pb_gap a f t k h I L x I2 L2) : I2 48 = I 48 := by
  unfold pb_gap at h
  obtain ⟨rfl, h⟩ := h
  rfl

theorem eb_gap_49_r {a f t k h x : Int32} {I I2 : px_I} {L L2 : px_L} (h : pb_gap a f t k h I L x I2 L2) : I2 49 = I 49 := by
  unfold pb_gap at h
  obtain ⟨rfl, h⟩ := h
  rfl

theorem eb_gap_62_r {a f t k h x : Int32} {I I2 : px_I} {L L2 : px_L} (h : pb_gap a f t k h I L x I2 L2) : I2 62 = I 62 := by
  unfold pb_gap at h
  obtain ⟨rfl, h⟩ := h
  rfl

theorem eb_gap_63_r {a f t k h x : Int32} {I I2 : px_I} {L L2 : px_L} (h : pb_gap a f t k h I L x I2 L2) : I2 63 = I 63 := by
  unfold pb_gap at h
  obtain ⟨rfl, h⟩ := h
  rfl

theorem ek_gap_117_r {a f t k h x : Int32} {I I2 : px_I} {L L2 : px_L} (h : pk_gap a f t k h I L x I2 L2) : I2 117 = I 117 := by
  unfold pk_gap at h
  exact funext fun j => h.1 117 j (by omega)

theorem ek_gap_118_r {a f t k h x : Int32} {I I2 : px_I} {L L2 : px_L} (h : pk_gap a f t k h I L x I2 L2) : I2 118 = I 118 := by
  unfold pk_gap at h
  exact funext fun j => h.1 118 j (by omega)

theorem ek_gap_119_r {a f t k h x : Int32} {I I2 : px_I} {L L2 : px_L} (h : pk_gap a f t k h I L x I2 L2) : I2 119 = I 119 := by
  unfold pk_gap at h
  exact funext fun j => h.1 119 j (by omega)

theorem ek_gap_120_r {a f t k h x : Int32} {I I2 : px_I} {L L2 : px_L} (h : pk_gap a f t k h I L x I2 L2) : I2 120 = I 120 := by
  unfold pk_gap at h
  exact funext fun j => h.1 120 j (by omega)

theorem eb_blamed_48_r {a k i x : Int32} {I I2 : px_I} {L L2 : px_L} (h : pb_blamed a k i I L x I2 L2) : I2 48 = I 48 := by
  unfold pb_blamed at h
  obtain ⟨rfl, h⟩ := h
  rfl

theorem eb_blamed_49_r {a k i x : Int32} {I I2 : px_I} {L L2 : px_L} (h : pb_blamed a k i I L x I2 L2) : I2 49 = I 49 := by
  unfold pb_blamed at h
  obtain ⟨rfl, h⟩ := h
  rfl

theorem eb_blamed_62_r {a k i x : Int32} {I I2 : px_I} {L L2 : px_L} (h : pb_blamed a k i I L x I2 L2) : I2 62 = I 62 := by
  unfold pb_blamed at h
  obtain ⟨rfl, h⟩ := h
  rfl

theorem eb_blamed_63_r {a k i x : Int32} {I I2 : px_I} {L L2 : px_L} (h : pb_blamed a k i I L x I2 L2) : I2 63 = I 63 := by
  unfold pb_blamed at h
  obtain ⟨rfl, h⟩ := h
  rfl

theorem ek_blamed_117_r {a k i x : Int32} {I I2 : px_I} {L L2 : px_L} (h : pk_blamed a k i I L x I2 L2) : I2 117 = I 117 := by
  unfold pk_blamed at h
  exact funext fun j => h.1 117 j (by omega)

theorem ek_blamed_118_r {a k i x : Int32} {I I2 : px_I} {L L2 : px_L} (h : pk_blamed a k i I L x I2 L2) : I2 118 = I 118 := by
  unfold pk_blamed at h
  exact funext fun j => h.1 118 j (by omega)

theorem ek_blamed_119_r {a k i x : Int32} {I I2 : px_I} {L L2 : px_L} (h : pk_blamed a k i I L x I2 L2) : I2 119 = I 119 := by
  unfold pk_blamed at h
  exact funext fun j => h.1 119 j (by omega)

theorem ek_blamed_120_r {a k i x : Int32} {I I2 : px_I} {L L2 : px_L} (h : pk_blamed a k i I L x I2 L2) : I2 120 = I 120 := by
  unfold pk_blamed at h
  exact funext fun j => h.1 120 j (by omega)

theorem eb_mouth_48_r {g st x : Int32} {I I2 : px_I} {L L2 : px_L} (h : pb_mouth g st I L x I2 L2) : I2 48 = I 48 := by
  unfold pb_mouth at h
  obtain ⟨rfl, h⟩ := h
  rcases h with ⟨G, g1, rfl⟩ | rfl
  · have gG : G = 41 ∨ G = 55 := by unfold bG at g1; omega
    (repeat rw [px_u_ne (by omega)])
  · rfl

theorem eb_mouth_49_r {g st x : Int32} {I I2 : px_I} {L L2 : px_L} (h : pb_mouth g st I L x I2 L2) : I2 49 = I 49 := by
  unfold pb_mouth at h
  obtain ⟨rfl, h⟩ := h
  rcases h with ⟨G, g1, rfl⟩ | rfl
  · have gG : G = 41 ∨ G = 55 := by unfold bG at g1; omega
    (repeat rw [px_u_ne (by omega)])
  · rfl

theorem eb_mouth_62_r {g st x : Int32} {I I2 : px_I} {L L2 : px_L} (h : pb_mouth g st I L x I2 L2) : I2 62 = I 62 := by
  unfold pb_mouth at h
  obtain ⟨rfl, h⟩ := h
  rcases h with ⟨G, g1, rfl⟩ | rfl
  · have gG : G = 41 ∨ G = 55 := by unfold bG at g1; omega
    (repeat rw [px_u_ne (by omega)])
  · rfl

theorem eb_mouth_63_r {g st x : Int32} {I I2 : px_I} {L L2 : px_L} (h : pb_mouth g st I L x I2 L2) : I2 63 = I 63 := by
  unfold pb_mouth at h
  obtain ⟨rfl, h⟩ := h
  rcases h with ⟨G, g1, rfl⟩ | rfl
  · have gG : G = 41 ∨ G = 55 := by unfold bG at g1; omega
    (repeat rw [px_u_ne (by omega)])
  · rfl

theorem ek_mouth_117_r {g st x : Int32} {I I2 : px_I} {L L2 : px_L} (h : pk_mouth g st I L x I2 L2) : I2 117 = I 117 := by
  unfold pk_mouth at h
  obtain ⟨rfl, h⟩ := h
  rcases h with ⟨a1, a2, rfl, rfl⟩ | ⟨a1, rfl, rfl⟩
  · (repeat rw [px_u_ne (by omega)])
  · rfl

theorem ek_mouth_118_r {g st x : Int32} {I I2 : px_I} {L L2 : px_L} (h : pk_mouth g st I L x I2 L2) : I2 118 = I 118 := by
  unfold pk_mouth at h
  obtain ⟨rfl, h⟩ := h
  rcases h with ⟨a1, a2, rfl, rfl⟩ | ⟨a1, rfl, rfl⟩
  · (repeat rw [px_u_ne (by omega)])
  · rfl

theorem ek_mouth_119_r {g st x : Int32} {I I2 : px_I} {L L2 : px_L} (h : pk_mouth g st I L x I2 L2) : I2 119 = I 119 := by
  unfold pk_mouth at h
  obtain ⟨rfl, h⟩ := h
  rcases h with ⟨a1, a2, rfl, rfl⟩ | ⟨a1, rfl, rfl⟩
  · (repeat rw [px_u_ne (by omega)])
  · rfl

theorem ek_mouth_120_r {g st x : Int32} {I I2 : px_I} {L L2 : px_L} (h : pk_mouth g st I L x I2 L2) : I2 120 = I 120 := by
  unfold pk_mouth at h
  obtain ⟨rfl, h⟩ := h
  rcases h with ⟨a1, a2, rfl, rfl⟩ | ⟨a1, rfl, rfl⟩
  · (repeat rw [px_u_ne (by omega)])
  · rfl

theorem eb_when_48_r {g p h x : Int32} {I I2 : px_I} {L L2 : px_L} (h : pb_when g p h I L x I2 L2) : I2 48 = I 48 := by
  unfold pb_when at h
  obtain ⟨rfl, h⟩ := h
  rw [h 48 (by decide) (by decide) (by decide) (by decide)]

theorem eb_when_49_r {g p h x : Int32} {I I2 : px_I} {L L2 : px_L} (h : pb_when g p h I L x I2 L2) : I2 49 = I 49 := by
  unfold pb_when at h
  obtain ⟨rfl, h⟩ := h
  rw [h 49 (by decide) (by decide) (by decide) (by decide)]

theorem eb_when_62_r {g p h x : Int32} {I I2 : px_I} {L L2 : px_L} (h : pb_when g p h I L x I2 L2) : I2 62 = I 62 := by
  unfold pb_when at h
  obtain ⟨rfl, h⟩ := h
  rw [h 62 (by decide) (by decide) (by decide) (by decide)]

theorem eb_when_63_r {g p h x : Int32} {I I2 : px_I} {L L2 : px_L} (h : pb_when g p h I L x I2 L2) : I2 63 = I 63 := by
  unfold pb_when at h
  obtain ⟨rfl, h⟩ := h
  rw [h 63 (by decide) (by decide) (by decide) (by decide)]

theorem ek_when_117_r {g p h x : Int32} {I I2 : px_I} {L L2 : px_L} (h : pk_when g p h I L x I2 L2) : I2 117 = I 117 := by
  unfold pk_when at h
  exact funext fun j => h.1 117 j (by omega)

theorem ek_when_118_r {g p h x : Int32} {I I2 : px_I} {L L2 : px_L} (h : pk_when g p h I L x I2 L2) : I2 118 = I 118 := by
  unfold pk_when at h
  exact funext fun j => h.1 118 j (by omega)

theorem ek_when_119_r {g p h x : Int32} {I I2 : px_I} {L L2 : px_L} (h : pk_when g p h I L x I2 L2) : I2 119 = I 119 := by
  unfold pk_when at h
  exact funext fun j => h.1 119 j (by omega)

theorem ek_when_120_r {g p h x : Int32} {I I2 : px_I} {L L2 : px_L} (h : pk_when g p h I L x I2 L2) : I2 120 = I 120 := by
  unfold pk_when at h
  exact funext fun j => h.1 120 j (by omega)

theorem eb_between_48_r {g p q h x : Int32} {I I2 : px_I} {L L2 : px_L} (h : pb_between g p q h I L x I2 L2) : I2 48 = I 48 := by
  unfold pb_between at h
  obtain ⟨rfl, h⟩ := h
  rw [h 48 (by decide) (by decide) (by decide) (by decide)]

theorem eb_between_49_r {g p q h x : Int32} {I I2 : px_I} {L L2 : px_L} (h : pb_between g p q h I L x I2 L2) : I2 49 = I 49 := by
  unfold pb_between at h
  obtain ⟨rfl, h⟩ := h
  rw [h 49 (by decide) (by decide) (by decide) (by decide)]

theorem eb_between_62_r {g p q h x : Int32} {I I2 : px_I} {L L2 : px_L} (h : pb_between g p q h I L x I2 L2) : I2 62 = I 62 := by
  unfold pb_between at h
  obtain ⟨rfl, h⟩ := h
  rw [h 62 (by decide) (by decide) (by decide) (by decide)]

theorem eb_between_63_r {g p q h x : Int32} {I I2 : px_I} {L L2 : px_L} (h : pb_between g p q h I L x I2 L2) : I2 63 = I 63 := by
  unfold pb_between at h
  obtain ⟨rfl, h⟩ := h
  rw [h 63 (by decide) (by decide) (by decide) (by decide)]

theorem ek_between_117_r {g p t h x : Int32} {I I2 : px_I} {L L2 : px_L} (h : pk_between g p t h I L x I2 L2) : I2 117 = I 117 := by
  unfold pk_between at h
  exact funext fun j => h.1 117 j (by omega)

theorem ek_between_118_r {g p t h x : Int32} {I I2 : px_I} {L L2 : px_L} (h : pk_between g p t h I L x I2 L2) : I2 118 = I 118 := by
  unfold pk_between at h
  exact funext fun j => h.1 118 j (by omega)

theorem ek_between_119_r {g p t h x : Int32} {I I2 : px_I} {L L2 : px_L} (h : pk_between g p t h I L x I2 L2) : I2 119 = I 119 := by
  unfold pk_between at h
  exact funext fun j => h.1 119 j (by omega)

theorem ek_between_120_r {g p t h x : Int32} {I I2 : px_I} {L L2 : px_L} (h : pk_between g p t h I L x I2 L2) : I2 120 = I 120 := by
  unfold pk_between at h
  exact funext fun j => h.1 120 j (by omega)

theorem eb_lamps_48_r {g p h lo hi x : Int32} {I I2 : px_I} {L L2 : px_L} (h : pb_lamps g p h lo hi I L x I2 L2) : I2 48 = I 48 := by
  unfold pb_lamps at h
  rw [h.1]

theorem eb_lamps_49_r {g p h lo hi x : Int32} {I I2 : px_I} {L L2 : px_L} (h : pb_lamps g p h lo hi I L x I2 L2) : I2 49 = I 49 := by
  unfold pb_lamps at h
  rw [h.1]

theorem eb_lamps_62_r {g p h lo hi x : Int32} {I I2 : px_I} {L L2 : px_L} (h : pb_lamps g p h lo hi I L x I2 L2) : I2 62 = I 62 := by
  unfold pb_lamps at h
  rw [h.1]

theorem eb_lamps_63_r {g p h lo hi x : Int32} {I I2 : px_I} {L L2 : px_L} (h : pb_lamps g p h lo hi I L x I2 L2) : I2 63 = I 63 := by
  unfold pb_lamps at h
  rw [h.1]

theorem ek_lamps_117_r {g p h lo hi x : Int32} {I I2 : px_I} {L L2 : px_L} (h : pk_lamps g p h lo hi I L x I2 L2) : I2 117 = I 117 := by
  unfold pk_lamps at h
  rw [h.1]

theorem ek_lamps_118_r {g p h lo hi x : Int32} {I I2 : px_I} {L L2 : px_L} (h : pk_lamps g p h lo hi I L x I2 L2) : I2 118 = I 118 := by
  unfold pk_lamps at h
  rw [h.1]

theorem ek_lamps_119_r {g p h lo hi x : Int32} {I I2 : px_I} {L L2 : px_L} (h : pk_lamps g p h lo hi I L x I2 L2) : I2 119 = I 119 := by
  unfold pk_lamps at h
  rw [h.1]

theorem ek_lamps_120_r {g p h lo hi x : Int32} {I I2 : px_I} {L L2 : px_L} (h : pk_lamps g p h lo hi I L x I2 L2) : I2 120 = I 120 := by
  unfold pk_lamps at h
  rw [h.1]

theorem eb_count_48_r {u lo hi x : Int32} {I I2 : px_I} {L L2 : px_L} (h : pb_count u lo hi I L x I2 L2) : I2 48 = I 48 := by
  unfold pb_count at h
  obtain ⟨rfl, h⟩ := h
  rcases h with ⟨a1, rfl, rfl⟩ | ⟨a1, rfl, rfl⟩
  · (repeat rw [px_u_ne (by omega)])
  · rfl

theorem eb_count_49_r {u lo hi x : Int32} {I I2 : px_I} {L L2 : px_L} (h : pb_count u lo hi I L x I2 L2) : I2 49 = I 49 := by
  unfold pb_count at h
  obtain ⟨rfl, h⟩ := h
  rcases h with ⟨a1, rfl, rfl⟩ | ⟨a1, rfl, rfl⟩
  · (repeat rw [px_u_ne (by omega)])
  · rfl

theorem eb_count_62_r {u lo hi x : Int32} {I I2 : px_I} {L L2 : px_L} (h : pb_count u lo hi I L x I2 L2) : I2 62 = I 62 := by
  unfold pb_count at h
  obtain ⟨rfl, h⟩ := h
  rcases h with ⟨a1, rfl, rfl⟩ | ⟨a1, rfl, rfl⟩
  · (repeat rw [px_u_ne (by omega)])
  · rfl

theorem eb_count_63_r {u lo hi x : Int32} {I I2 : px_I} {L L2 : px_L} (h : pb_count u lo hi I L x I2 L2) : I2 63 = I 63 := by
  unfold pb_count at h
  obtain ⟨rfl, h⟩ := h
  rcases h with ⟨a1, rfl, rfl⟩ | ⟨a1, rfl, rfl⟩
  · (repeat rw [px_u_ne (by omega)])
  · rfl

theorem ek_count_117_r {u lo hi x : Int32} {I I2 : px_I} {L L2 : px_L} (h : pk_count u lo hi I L x I2 L2) : I2 117 = I 117 := by
  unfold pk_count at h
  rcases h with ⟨a1, rfl, rfl, rfl⟩ | ⟨a1, rfl, rfl, rfl⟩
  · (repeat rw [px_u_ne (by omega)])
  · rfl

theorem ek_count_118_r {u lo hi x : Int32} {I I2 : px_I} {L L2 : px_L} (h : pk_count u lo hi I L x I2 L2) : I2 118 = I 118 := by
  unfold pk_count at h
  rcases h with ⟨a1, rfl, rfl, rfl⟩ | ⟨a1, rfl, rfl, rfl⟩
  · (repeat rw [px_u_ne (by omega)])
  · rfl

theorem ek_count_119_r {u lo hi x : Int32} {I I2 : px_I} {L L2 : px_L} (h : pk_count u lo hi I L x I2 L2) : I2 119 = I 119 := by
  unfold pk_count at h
  rcases h with ⟨a1, rfl, rfl, rfl⟩ | ⟨a1, rfl, rfl, rfl⟩
  · (repeat rw [px_u_ne (by omega)])
  · rfl

theorem ek_count_120_r {u lo hi x : Int32} {I I2 : px_I} {L L2 : px_L} (h : pk_count u lo hi I L x I2 L2) : I2 120 = I 120 := by
  unfold pk_count at h
  rcases h with ⟨a1, rfl, rfl, rfl⟩ | ⟨a1, rfl, rfl, rfl⟩
  · (repeat rw [px_u_ne (by omega)])
  · rfl

theorem eb_unit_48_r {h x : Int32} {I I2 : px_I} {L L2 : px_L} (h : pb_unit h I L x I2 L2) : I2 48 = I 48 := by
  unfold pb_unit at h
  rw [h.1]

theorem eb_unit_49_r {h x : Int32} {I I2 : px_I} {L L2 : px_L} (h : pb_unit h I L x I2 L2) : I2 49 = I 49 := by
  unfold pb_unit at h
  rw [h.1]

theorem eb_unit_62_r {h x : Int32} {I I2 : px_I} {L L2 : px_L} (h : pb_unit h I L x I2 L2) : I2 62 = I 62 := by
  unfold pb_unit at h
  rw [h.1]

theorem eb_unit_63_r {h x : Int32} {I I2 : px_I} {L L2 : px_L} (h : pb_unit h I L x I2 L2) : I2 63 = I 63 := by
  unfold pb_unit at h
  rw [h.1]

theorem ek_unit_117_r {h x : Int32} {I I2 : px_I} {L L2 : px_L} (h : pk_unit h I L x I2 L2) : I2 117 = I 117 := by
  unfold pk_unit at h
  rw [h.1]

theorem ek_unit_118_r {h x : Int32} {I I2 : px_I} {L L2 : px_L} (h : pk_unit h I L x I2 L2) : I2 118 = I 118 := by
  unfold pk_unit at h
  rw [h.1]

theorem ek_unit_119_r {h x : Int32} {I I2 : px_I} {L L2 : px_L} (h : pk_unit h I L x I2 L2) : I2 119 = I 119 := by
  unfold pk_unit at h
  rw [h.1]

theorem ek_unit_120_r {h x : Int32} {I I2 : px_I} {L L2 : px_L} (h : pk_unit h I L x I2 L2) : I2 120 = I 120 := by
  unfold pk_unit at h
  rw [h.1]

theorem eb_feed_48_r {a b c d e x : Int32} {I I2 : px_I} {L L2 : px_L} (h : pb_feed a b c d e I L x I2 L2) : I2 48 = I 48 := by
  unfold pb_feed at h
  obtain ⟨rfl, h⟩ := h
  rcases h with ⟨a1, rfl, rfl⟩ | ⟨a1, rfl, rfl⟩
  · rw [cApp_o _ _ (by omega) (by omega), cApp_o _ _ (by omega) (by omega), cApp_o _ _ (by omega) (by omega), cApp_o _ _ (by omega) (by omega), cApp_o _ _ (by omega) (by omega)]
  · rfl

theorem eb_feed_49_r {a b c d e x : Int32} {I I2 : px_I} {L L2 : px_L} (h : pb_feed a b c d e I L x I2 L2) : I2 49 = I 49 := by
  unfold pb_feed at h
  obtain ⟨rfl, h⟩ := h
  rcases h with ⟨a1, rfl, rfl⟩ | ⟨a1, rfl, rfl⟩
  · rw [cApp_o _ _ (by omega) (by omega), cApp_o _ _ (by omega) (by omega), cApp_o _ _ (by omega) (by omega), cApp_o _ _ (by omega) (by omega), cApp_o _ _ (by omega) (by omega)]
  · rfl

theorem eb_feed_62_r {a b c d e x : Int32} {I I2 : px_I} {L L2 : px_L} (h : pb_feed a b c d e I L x I2 L2) : I2 62 = I 62 := by
  unfold pb_feed at h
  obtain ⟨rfl, h⟩ := h
  rcases h with ⟨a1, rfl, rfl⟩ | ⟨a1, rfl, rfl⟩
  · rw [cApp_o _ _ (by omega) (by omega), cApp_o _ _ (by omega) (by omega), cApp_o _ _ (by omega) (by omega), cApp_o _ _ (by omega) (by omega), cApp_o _ _ (by omega) (by omega)]
  · rfl

theorem eb_feed_63_r {a b c d e x : Int32} {I I2 : px_I} {L L2 : px_L} (h : pb_feed a b c d e I L x I2 L2) : I2 63 = I 63 := by
  unfold pb_feed at h
  obtain ⟨rfl, h⟩ := h
  rcases h with ⟨a1, rfl, rfl⟩ | ⟨a1, rfl, rfl⟩
  · rw [cApp_o _ _ (by omega) (by omega), cApp_o _ _ (by omega) (by omega), cApp_o _ _ (by omega) (by omega), cApp_o _ _ (by omega) (by omega), cApp_o _ _ (by omega) (by omega)]
  · rfl

theorem ek_feed_117_r {a b c d e x : Int32} {I I2 : px_I} {L L2 : px_L} (h : pk_feed a b c d e I L x I2 L2) : I2 117 = I 117 := by
  unfold pk_feed at h
  obtain ⟨rfl, h⟩ := h
  rcases h with ⟨a1, rfl, rfl⟩ | ⟨a1, rfl, rfl⟩
  · funext j; rw [mPut_o (by omega) (by omega), mPut_o (by omega) (by omega), mPut_o (by omega) (by omega), mPut_o (by omega) (by omega), mPut_o (by omega) (by omega)]
  · rfl

theorem ek_feed_118_r {a b c d e x : Int32} {I I2 : px_I} {L L2 : px_L} (h : pk_feed a b c d e I L x I2 L2) : I2 118 = I 118 := by
  unfold pk_feed at h
  obtain ⟨rfl, h⟩ := h
  rcases h with ⟨a1, rfl, rfl⟩ | ⟨a1, rfl, rfl⟩
  · funext j; rw [mPut_o (by omega) (by omega), mPut_o (by omega) (by omega), mPut_o (by omega) (by omega), mPut_o (by omega) (by omega), mPut_o (by omega) (by omega)]
  · rfl

theorem ek_feed_119_r {a b c d e x : Int32} {I I2 : px_I} {L L2 : px_L} (h : pk_feed a b c d e I L x I2 L2) : I2 119 = I 119 := by
  unfold pk_feed at h
  obtain ⟨rfl, h⟩ := h
  rcases h with ⟨a1, rfl, rfl⟩ | ⟨a1, rfl, rfl⟩
  · funext j; rw [mPut_o (by omega) (by omega), mPut_o (by omega) (by omega), mPut_o (by omega) (by omega), mPut_o (by omega) (by omega), mPut_o (by omega) (by omega)]
  · rfl

theorem ek_feed_120_r {a b c d e x : Int32} {I I2 : px_I} {L L2 : px_L} (h : pk_feed a b c d e I L x I2 L2) : I2 120 = I 120 := by
  unfold pk_feed at h
  obtain ⟨rfl, h⟩ := h
  rcases h with ⟨a1, rfl, rfl⟩ | ⟨a1, rfl, rfl⟩
  · funext j; rw [mPut_o (by omega) (by omega), mPut_o (by omega) (by omega), mPut_o (by omega) (by omega), mPut_o (by omega) (by omega), mPut_o (by omega) (by omega)]
  · rfl

theorem eb_end_48_r {x9 x : Int32} {I I2 : px_I} {L L2 : px_L} (h : pb_end x9 I L x I2 L2) : I2 48 = I 48 := by
  unfold pb_end at h
  obtain ⟨rfl, h⟩ := h
  rcases h with ⟨a1, rfl, rfl⟩ | ⟨a1, rfl, rfl⟩
  · (repeat rw [px_u_ne (by omega)])
  · rfl

theorem eb_end_49_r {x9 x : Int32} {I I2 : px_I} {L L2 : px_L} (h : pb_end x9 I L x I2 L2) : I2 49 = I 49 := by
  unfold pb_end at h
  obtain ⟨rfl, h⟩ := h
  rcases h with ⟨a1, rfl, rfl⟩ | ⟨a1, rfl, rfl⟩
  · (repeat rw [px_u_ne (by omega)])
  · rfl

theorem eb_end_62_r {x9 x : Int32} {I I2 : px_I} {L L2 : px_L} (h : pb_end x9 I L x I2 L2) : I2 62 = I 62 := by
  unfold pb_end at h
  obtain ⟨rfl, h⟩ := h
  rcases h with ⟨a1, rfl, rfl⟩ | ⟨a1, rfl, rfl⟩
  · (repeat rw [px_u_ne (by omega)])
  · rfl

theorem eb_end_63_r {x9 x : Int32} {I I2 : px_I} {L L2 : px_L} (h : pb_end x9 I L x I2 L2) : I2 63 = I 63 := by
  unfold pb_end at h
  obtain ⟨rfl, h⟩ := h
  rcases h with ⟨a1, rfl, rfl⟩ | ⟨a1, rfl, rfl⟩
  · (repeat rw [px_u_ne (by omega)])
  · rfl

theorem ek_end_117_r {x9 x : Int32} {I I2 : px_I} {L L2 : px_L} (h : pk_end x9 I L x I2 L2) : I2 117 = I 117 := by
  unfold pk_end at h
  obtain ⟨rfl, h⟩ := h
  rcases h with ⟨a1, a2, rfl, rfl⟩ | ⟨a1, rfl, rfl⟩
  · (repeat rw [px_u_ne (by omega)])
  · rfl

theorem ek_end_118_r {x9 x : Int32} {I I2 : px_I} {L L2 : px_L} (h : pk_end x9 I L x I2 L2) : I2 118 = I 118 := by
  unfold pk_end at h
  obtain ⟨rfl, h⟩ := h
  rcases h with ⟨a1, a2, rfl, rfl⟩ | ⟨a1, rfl, rfl⟩
  · (repeat rw [px_u_ne (by omega)])
  · rfl

theorem ek_end_119_r {x9 x : Int32} {I I2 : px_I} {L L2 : px_L} (h : pk_end x9 I L x I2 L2) : I2 119 = I 119 := by
  unfold pk_end at h
  obtain ⟨rfl, h⟩ := h
  rcases h with ⟨a1, a2, rfl, rfl⟩ | ⟨a1, rfl, rfl⟩
  · (repeat rw [px_u_ne (by omega)])
  · rfl

theorem ek_end_120_r {x9 x : Int32} {I I2 : px_I} {L L2 : px_L} (h : pk_end x9 I L x I2 L2) : I2 120 = I 120 := by
  unfold pk_end at h
  obtain ⟨rfl, h⟩ := h
  rcases h with ⟨a1, a2, rfl, rfl⟩ | ⟨a1, rfl, rfl⟩
  · (repeat rw [px_u_ne (by omega)])
  · rfl

theorem eb_way_48_r {i x : Int32} {I I2 : px_I} {L L2 : px_L} (h : pb_way i I L x I2 L2) : I2 48 = I 48 := by
  unfold pb_way at h
  exact funext fun j => h.1 48 j (by omega) (by omega) (by omega) (by omega) (by omega)

theorem eb_way_49_r {i x : Int32} {I I2 : px_I} {L L2 : px_L} (h : pb_way i I L x I2 L2) : I2 49 = I 49 := by
  unfold pb_way at h
  exact funext fun j => h.1 49 j (by omega) (by omega) (by omega) (by omega) (by omega)

theorem eb_way_62_r {i x : Int32} {I I2 : px_I} {L L2 : px_L} (h : pb_way i I L x I2 L2) : I2 62 = I 62 := by
  unfold pb_way at h
  exact funext fun j => h.1 62 j (by omega) (by omega) (by omega) (by omega) (by omega)

theorem eb_way_63_r {i x : Int32} {I I2 : px_I} {L L2 : px_L} (h : pb_way i I L x I2 L2) : I2 63 = I 63 := by
  unfold pb_way at h
  exact funext fun j => h.1 63 j (by omega) (by omega) (by omega) (by omega) (by omega)

theorem ek_way_117_r {w x : Int32} {I I2 : px_I} {L L2 : px_L} (h : pk_way w I L x I2 L2) : I2 117 = I 117 := by
  unfold pk_way at h
  obtain ⟨rfl, h⟩ := h
  rcases h with ⟨a1, a2, rfl⟩ | ⟨a1, a2, a3⟩
  · rfl
  · exact funext fun j => a2 117 j (by omega) (by omega)

theorem ek_way_118_r {w x : Int32} {I I2 : px_I} {L L2 : px_L} (h : pk_way w I L x I2 L2) : I2 118 = I 118 := by
  unfold pk_way at h
  obtain ⟨rfl, h⟩ := h
  rcases h with ⟨a1, a2, rfl⟩ | ⟨a1, a2, a3⟩
  · rfl
  · exact funext fun j => a2 118 j (by omega) (by omega)

theorem ek_way_119_r {w x : Int32} {I I2 : px_I} {L L2 : px_L} (h : pk_way w I L x I2 L2) : I2 119 = I 119 := by
  unfold pk_way at h
  obtain ⟨rfl, h⟩ := h
  rcases h with ⟨a1, a2, rfl⟩ | ⟨a1, a2, a3⟩
  · rfl
  · exact funext fun j => a2 119 j (by omega) (by omega)

theorem ek_way_120_r {w x : Int32} {I I2 : px_I} {L L2 : px_L} (h : pk_way w I L x I2 L2) : I2 120 = I 120 := by
  unfold pk_way at h
  obtain ⟨rfl, h⟩ := h
  rcases h with ⟨a1, a2, rfl⟩ | ⟨a1, a2, a3⟩
  · rfl
  · exact funext fun j => a2 120 j (by omega) (by omega)

theorem eb_fault_48_r {x9 x : Int32} {I I2 : px_I} {L L2 : px_L} (h : pb_fault x9 I L x I2 L2) : I2 48 = I 48 := by
  unfold pb_fault at h
  rw [h.1]

theorem eb_fault_49_r {x9 x : Int32} {I I2 : px_I} {L L2 : px_L} (h : pb_fault x9 I L x I2 L2) : I2 49 = I 49 := by
  unfold pb_fault at h
  rw [h.1]

theorem eb_fault_62_r {x9 x : Int32} {I I2 : px_I} {L L2 : px_L} (h : pb_fault x9 I L x I2 L2) : I2 62 = I 62 := by
  unfold pb_fault at h
  rw [h.1]

theorem eb_fault_63_r {x9 x : Int32} {I I2 : px_I} {L L2 : px_L} (h : pb_fault x9 I L x I2 L2) : I2 63 = I 63 := by
  unfold pb_fault at h
  rw [h.1]

theorem ek_fault_117_r {x9 x : Int32} {I I2 : px_I} {L L2 : px_L} (h : pk_fault x9 I L x I2 L2) : I2 117 = I 117 := by
  unfold pk_fault at h
  rw [h.1]

theorem ek_fault_118_r {x9 x : Int32} {I I2 : px_I} {L L2 : px_L} (h : pk_fault x9 I L x I2 L2) : I2 118 = I 118 := by
  unfold pk_fault at h
  rw [h.1]

theorem ek_fault_119_r {x9 x : Int32} {I I2 : px_I} {L L2 : px_L} (h : pk_fault x9 I L x I2 L2) : I2 119 = I 119 := by
  unfold pk_fault at h
  rw [h.1]

theorem ek_fault_120_r {x9 x : Int32} {I I2 : px_I} {L L2 : px_L} (h : pk_fault x9 I L x I2 L2) : I2 120 = I 120 := by
  unfold pk_fault at h
  rw [h.1]

theorem eb_tools_48_r {a b c d e x : Int32} {I I2 : px_I} {L L2 : px_L} (h : pb_tools a b c d e I L x I2 L2) : I2 48 = I 48 := by
  unfold pb_tools at h
  obtain ⟨rfl, h⟩ := h
  rcases h with ⟨a1, rfl, a2⟩ | ⟨a1, rfl, rfl⟩
  · rw [a2 48 (by decide)]; (repeat rw [px_u_ne (by omega)])
  · rfl

theorem eb_tools_49_r {a b c d e x : Int32} {I I2 : px_I} {L L2 : px_L} (h : pb_tools a b c d e I L x I2 L2) : I2 49 = I 49 := by
  unfold pb_tools at h
  obtain ⟨rfl, h⟩ := h
  rcases h with ⟨a1, rfl, a2⟩ | ⟨a1, rfl, rfl⟩
  · rw [a2 49 (by decide)]; (repeat rw [px_u_ne (by omega)])
  · rfl

theorem eb_tools_62_r {a b c d e x : Int32} {I I2 : px_I} {L L2 : px_L} (h : pb_tools a b c d e I L x I2 L2) : I2 62 = I 62 := by
  unfold pb_tools at h
  obtain ⟨rfl, h⟩ := h
  rcases h with ⟨a1, rfl, a2⟩ | ⟨a1, rfl, rfl⟩
  · rw [a2 62 (by decide)]; (repeat rw [px_u_ne (by omega)])
  · rfl

theorem eb_tools_63_r {a b c d e x : Int32} {I I2 : px_I} {L L2 : px_L} (h : pb_tools a b c d e I L x I2 L2) : I2 63 = I 63 := by
  unfold pb_tools at h
  obtain ⟨rfl, h⟩ := h
  rcases h with ⟨a1, rfl, a2⟩ | ⟨a1, rfl, rfl⟩
  · rw [a2 63 (by decide)]; (repeat rw [px_u_ne (by omega)])
  · rfl

theorem ek_tools_117_r {a b c d e x : Int32} {I I2 : px_I} {L L2 : px_L} (h : pk_tools a b c d e I L x I2 L2) : I2 117 = I 117 := by
  unfold pk_tools at h
  obtain ⟨rfl, h⟩ := h
  rcases h with ⟨a1, rfl, rfl⟩ | ⟨a1, rfl, rfl⟩
  · (repeat rw [px_u_ne (by omega)])
  · rfl

theorem ek_tools_118_r {a b c d e x : Int32} {I I2 : px_I} {L L2 : px_L} (h : pk_tools a b c d e I L x I2 L2) : I2 118 = I 118 := by
  unfold pk_tools at h
  obtain ⟨rfl, h⟩ := h
  rcases h with ⟨a1, rfl, rfl⟩ | ⟨a1, rfl, rfl⟩
  · (repeat rw [px_u_ne (by omega)])
  · rfl

theorem ek_tools_119_r {a b c d e x : Int32} {I I2 : px_I} {L L2 : px_L} (h : pk_tools a b c d e I L x I2 L2) : I2 119 = I 119 := by
  unfold pk_tools at h
  obtain ⟨rfl, h⟩ := h
  rcases h with ⟨a1, rfl, rfl⟩ | ⟨a1, rfl, rfl⟩
  · (repeat rw [px_u_ne (by omega)])
  · rfl

theorem ek_tools_120_r {a b c d e x : Int32} {I I2 : px_I} {L L2 : px_L} (h : pk_tools a b c d e I L x I2 L2) : I2 120 = I 120 := by
  unfold pk_tools at h
  obtain ⟨rfl, h⟩ := h
  rcases h with ⟨a1, rfl, rfl⟩ | ⟨a1, rfl, rfl⟩
  · (repeat rw [px_u_ne (by omega)])
  · rfl

theorem eb_run_48_r {w h a x : Int32} {I I2 : px_I} {L L2 : px_L} (h : pb_run w h a I L x I2 L2) : I2 48 = I 48 := by
  unfold pb_run at h
  exact funext fun j => h.1 48 j (by omega) (by omega) (by omega) (by omega) (by omega) (by omega) (by omega)

theorem eb_run_49_r {w h a x : Int32} {I I2 : px_I} {L L2 : px_L} (h : pb_run w h a I L x I2 L2) : I2 49 = I 49 := by
  unfold pb_run at h
  exact funext fun j => h.1 49 j (by omega) (by omega) (by omega) (by omega) (by omega) (by omega) (by omega)

theorem eb_run_62_r {w h a x : Int32} {I I2 : px_I} {L L2 : px_L} (h : pb_run w h a I L x I2 L2) : I2 62 = I 62 := by
  unfold pb_run at h
  exact funext fun j => h.1 62 j (by omega) (by omega) (by omega) (by omega) (by omega) (by omega) (by omega)

theorem eb_run_63_r {w h a x : Int32} {I I2 : px_I} {L L2 : px_L} (h : pb_run w h a I L x I2 L2) : I2 63 = I 63 := by
  unfold pb_run at h
  exact funext fun j => h.1 63 j (by omega) (by omega) (by omega) (by omega) (by omega) (by omega) (by omega)

theorem ek_run_117_r {w h a x : Int32} {I I2 : px_I} {L L2 : px_L} (h : pk_run w h a I L x I2 L2) : I2 117 = I 117 := by
  unfold pk_run at h
  exact funext fun j => h.1 117 j (by omega) (by omega) (by omega)

theorem ek_run_118_r {w h a x : Int32} {I I2 : px_I} {L L2 : px_L} (h : pk_run w h a I L x I2 L2) : I2 118 = I 118 := by
  unfold pk_run at h
  exact funext fun j => h.1 118 j (by omega) (by omega) (by omega)

theorem ek_run_119_r {w h a x : Int32} {I I2 : px_I} {L L2 : px_L} (h : pk_run w h a I L x I2 L2) : I2 119 = I 119 := by
  unfold pk_run at h
  exact funext fun j => h.1 119 j (by omega) (by omega) (by omega)

theorem ek_run_120_r {w h a x : Int32} {I I2 : px_I} {L L2 : px_L} (h : pk_run w h a I L x I2 L2) : I2 120 = I 120 := by
  unfold pk_run at h
  exact funext fun j => h.1 120 j (by omega) (by omega) (by omega)

theorem eb_meeting_48_r {a f b t x9 h x : Int32} {I I2 : px_I} {L L2 : px_L} (h : pb_meeting a f b t x9 h I L x I2 L2) : I2 48 = I 48 := by
  unfold pb_meeting at h
  exact funext fun j => h.1 48 j (by omega) (by omega) (by omega) (by omega) (by omega) (by omega) (by omega)

theorem eb_meeting_49_r {a f b t x9 h x : Int32} {I I2 : px_I} {L L2 : px_L} (h : pb_meeting a f b t x9 h I L x I2 L2) : I2 49 = I 49 := by
  unfold pb_meeting at h
  exact funext fun j => h.1 49 j (by omega) (by omega) (by omega) (by omega) (by omega) (by omega) (by omega)

theorem eb_meeting_62_r {a f b t x9 h x : Int32} {I I2 : px_I} {L L2 : px_L} (h : pb_meeting a f b t x9 h I L x I2 L2) : I2 62 = I 62 := by
  unfold pb_meeting at h
  exact funext fun j => h.1 62 j (by omega) (by omega) (by omega) (by omega) (by omega) (by omega) (by omega)

theorem eb_meeting_63_r {a f b t x9 h x : Int32} {I I2 : px_I} {L L2 : px_L} (h : pb_meeting a f b t x9 h I L x I2 L2) : I2 63 = I 63 := by
  unfold pb_meeting at h
  exact funext fun j => h.1 63 j (by omega) (by omega) (by omega) (by omega) (by omega) (by omega) (by omega)

theorem ek_meeting_117_r {a f b t x9 h x : Int32} {I I2 : px_I} {L L2 : px_L} (h : pk_meeting a f b t x9 h I L x I2 L2) : I2 117 = I 117 := by
  unfold pk_meeting at h
  exact funext fun j => h.1 117 j (by omega) (by omega) (by omega)

theorem ek_meeting_118_r {a f b t x9 h x : Int32} {I I2 : px_I} {L L2 : px_L} (h : pk_meeting a f b t x9 h I L x I2 L2) : I2 118 = I 118 := by
  unfold pk_meeting at h
  exact funext fun j => h.1 118 j (by omega) (by omega) (by omega)

theorem ek_meeting_119_r {a f b t x9 h x : Int32} {I I2 : px_I} {L L2 : px_L} (h : pk_meeting a f b t x9 h I L x I2 L2) : I2 119 = I 119 := by
  unfold pk_meeting at h
  exact funext fun j => h.1 119 j (by omega) (by omega) (by omega)

theorem ek_meeting_120_r {a f b t x9 h x : Int32} {I I2 : px_I} {L L2 : px_L} (h : pk_meeting a f b t x9 h I L x I2 L2) : I2 120 = I 120 := by
  unfold pk_meeting at h
  exact funext fun j => h.1 120 j (by omega) (by omega) (by omega)

theorem eb_there_48_r {a lo hi x : Int32} {I I2 : px_I} {L L2 : px_L} (h : pb_there a lo hi I L x I2 L2) : I2 48 = I 48 := by
  unfold pb_there at h
  obtain ⟨rfl, h⟩ := h
  rcases h with ⟨a1, rfl, rfl⟩ | ⟨a1, rfl, rfl⟩
  · (repeat rw [px_u_ne (by omega)])
  · rfl

theorem eb_there_49_r {a lo hi x : Int32} {I I2 : px_I} {L L2 : px_L} (h : pb_there a lo hi I L x I2 L2) : I2 49 = I 49 := by
  unfold pb_there at h
  obtain ⟨rfl, h⟩ := h
  rcases h with ⟨a1, rfl, rfl⟩ | ⟨a1, rfl, rfl⟩
  · (repeat rw [px_u_ne (by omega)])
  · rfl

theorem eb_there_62_r {a lo hi x : Int32} {I I2 : px_I} {L L2 : px_L} (h : pb_there a lo hi I L x I2 L2) : I2 62 = I 62 := by
  unfold pb_there at h
  obtain ⟨rfl, h⟩ := h
  rcases h with ⟨a1, rfl, rfl⟩ | ⟨a1, rfl, rfl⟩
  · (repeat rw [px_u_ne (by omega)])
  · rfl

theorem eb_there_63_r {a lo hi x : Int32} {I I2 : px_I} {L L2 : px_L} (h : pb_there a lo hi I L x I2 L2) : I2 63 = I 63 := by
  unfold pb_there at h
  obtain ⟨rfl, h⟩ := h
  rcases h with ⟨a1, rfl, rfl⟩ | ⟨a1, rfl, rfl⟩
  · (repeat rw [px_u_ne (by omega)])
  · rfl

theorem ek_there_117_r {a lo hi x : Int32} {I I2 : px_I} {L L2 : px_L} (h : pk_there a lo hi I L x I2 L2) : I2 117 = I 117 := by
  unfold pk_there at h
  obtain ⟨rfl, h⟩ := h
  rcases h with ⟨a1, rfl, rfl⟩ | ⟨a1, rfl, rfl⟩
  · (repeat rw [px_u_ne (by omega)])
  · rfl

theorem ek_there_118_r {a lo hi x : Int32} {I I2 : px_I} {L L2 : px_L} (h : pk_there a lo hi I L x I2 L2) : I2 118 = I 118 := by
  unfold pk_there at h
  obtain ⟨rfl, h⟩ := h
  rcases h with ⟨a1, rfl, rfl⟩ | ⟨a1, rfl, rfl⟩
  · (repeat rw [px_u_ne (by omega)])
  · rfl

theorem ek_there_119_r {a lo hi x : Int32} {I I2 : px_I} {L L2 : px_L} (h : pk_there a lo hi I L x I2 L2) : I2 119 = I 119 := by
  unfold pk_there at h
  obtain ⟨rfl, h⟩ := h
  rcases h with ⟨a1, rfl, rfl⟩ | ⟨a1, rfl, rfl⟩
  · (repeat rw [px_u_ne (by omega)])
  · rfl

theorem ek_there_120_r {a lo hi x : Int32} {I I2 : px_I} {L L2 : px_L} (h : pk_there a lo hi I L x I2 L2) : I2 120 = I 120 := by
  unfold pk_there at h
  obtain ⟨rfl, h⟩ := h
  rcases h with ⟨a1, rfl, rfl⟩ | ⟨a1, rfl, rfl⟩
  · (repeat rw [px_u_ne (by omega)])
  · rfl

theorem eb_fits_48_r {a f b t x : Int32} {I I2 : px_I} {L L2 : px_L} (h : pb_fits a f b t I L x I2 L2) : I2 48 = I 48 := by
  unfold pb_fits at h
  exact funext fun j => h.1 48 j (by omega) (by omega) (by omega) (by omega) (by omega) (by omega) (by omega)

theorem eb_fits_49_r {a f b t x : Int32} {I I2 : px_I} {L L2 : px_L} (h : pb_fits a f b t I L x I2 L2) : I2 49 = I 49 := by
  unfold pb_fits at h
  exact funext fun j => h.1 49 j (by omega) (by omega) (by omega) (by omega) (by omega) (by omega) (by omega)

theorem eb_fits_62_r {a f b t x : Int32} {I I2 : px_I} {L L2 : px_L} (h : pb_fits a f b t I L x I2 L2) : I2 62 = I 62 := by
  unfold pb_fits at h
  exact funext fun j => h.1 62 j (by omega) (by omega) (by omega) (by omega) (by omega) (by omega) (by omega)

theorem eb_fits_63_r {a f b t x : Int32} {I I2 : px_I} {L L2 : px_L} (h : pb_fits a f b t I L x I2 L2) : I2 63 = I 63 := by
  unfold pb_fits at h
  exact funext fun j => h.1 63 j (by omega) (by omega) (by omega) (by omega) (by omega) (by omega) (by omega)

theorem ek_fits_117_r {a f b t x : Int32} {I I2 : px_I} {L L2 : px_L} (h : pk_fits a f b t I L x I2 L2) : I2 117 = I 117 := by
  unfold pk_fits at h
  exact funext fun j => h.1 117 j (by omega) (by omega) (by omega)

theorem ek_fits_118_r {a f b t x : Int32} {I I2 : px_I} {L L2 : px_L} (h : pk_fits a f b t I L x I2 L2) : I2 118 = I 118 := by
  unfold pk_fits at h
  exact funext fun j => h.1 118 j (by omega) (by omega) (by omega)

theorem ek_fits_119_r {a f b t x : Int32} {I I2 : px_I} {L L2 : px_L} (h : pk_fits a f b t I L x I2 L2) : I2 119 = I 119 := by
  unfold pk_fits at h
  exact funext fun j => h.1 119 j (by omega) (by omega) (by omega)

theorem ek_fits_120_r {a f b t x : Int32} {I I2 : px_I} {L L2 : px_L} (h : pk_fits a f b t I L x I2 L2) : I2 120 = I 120 := by
  unfold pk_fits at h
  exact funext fun j => h.1 120 j (by omega) (by omega) (by omega)

theorem eb_ways_48_r {a f b t x9 x : Int32} {I I2 : px_I} {L L2 : px_L} (h : pb_ways a f b t x9 I L x I2 L2) : I2 48 = I 48 := by
  unfold pb_ways at h
  exact funext fun j => h.1 48 j (by omega) (by omega) (by omega) (by omega) (by omega) (by omega) (by omega)

theorem eb_ways_49_r {a f b t x9 x : Int32} {I I2 : px_I} {L L2 : px_L} (h : pb_ways a f b t x9 I L x I2 L2) : I2 49 = I 49 := by
  unfold pb_ways at h
  exact funext fun j => h.1 49 j (by omega) (by omega) (by omega) (by omega) (by omega) (by omega) (by omega)

theorem eb_ways_62_r {a f b t x9 x : Int32} {I I2 : px_I} {L L2 : px_L} (h : pb_ways a f b t x9 I L x I2 L2) : I2 62 = I 62 := by
  unfold pb_ways at h
  exact funext fun j => h.1 62 j (by omega) (by omega) (by omega) (by omega) (by omega) (by omega) (by omega)

theorem eb_ways_63_r {a f b t x9 x : Int32} {I I2 : px_I} {L L2 : px_L} (h : pb_ways a f b t x9 I L x I2 L2) : I2 63 = I 63 := by
  unfold pb_ways at h
  exact funext fun j => h.1 63 j (by omega) (by omega) (by omega) (by omega) (by omega) (by omega) (by omega)

theorem ek_ways_117_r {a f b t x9 x : Int32} {I I2 : px_I} {L L2 : px_L} (h : pk_ways a f b t x9 I L x I2 L2) : I2 117 = I 117 := by
  unfold pk_ways at h
  exact funext fun j => h.1 117 j (by omega) (by omega) (by omega)

theorem ek_ways_118_r {a f b t x9 x : Int32} {I I2 : px_I} {L L2 : px_L} (h : pk_ways a f b t x9 I L x I2 L2) : I2 118 = I 118 := by
  unfold pk_ways at h
  exact funext fun j => h.1 118 j (by omega) (by omega) (by omega)

theorem ek_ways_119_r {a f b t x9 x : Int32} {I I2 : px_I} {L L2 : px_L} (h : pk_ways a f b t x9 I L x I2 L2) : I2 119 = I 119 := by
  unfold pk_ways at h
  exact funext fun j => h.1 119 j (by omega) (by omega) (by omega)

theorem ek_ways_120_r {a f b t x9 x : Int32} {I I2 : px_I} {L L2 : px_L} (h : pk_ways a f b t x9 I L x I2 L2) : I2 120 = I 120 := by
  unfold pk_ways at h
  exact funext fun j => h.1 120 j (by omega) (by omega) (by omega)

theorem eb_seek_48_r {a b c d e f x : Int32} {I I2 : px_I} {L L2 : px_L} (h : pb_seek a b c d e f I L x I2 L2) : I2 48 = I 48 := by
  unfold pb_seek at h
  obtain ⟨rfl, h⟩ := h
  rcases h with ⟨a1, rfl, rfl⟩ | ⟨a1, rfl, rfl⟩
  · (repeat rw [px_u_ne (by omega)])
  · rfl

theorem eb_seek_49_r {a b c d e f x : Int32} {I I2 : px_I} {L L2 : px_L} (h : pb_seek a b c d e f I L x I2 L2) : I2 49 = I 49 := by
  unfold pb_seek at h
  obtain ⟨rfl, h⟩ := h
  rcases h with ⟨a1, rfl, rfl⟩ | ⟨a1, rfl, rfl⟩
  · (repeat rw [px_u_ne (by omega)])
  · rfl

theorem eb_seek_62_r {a b c d e f x : Int32} {I I2 : px_I} {L L2 : px_L} (h : pb_seek a b c d e f I L x I2 L2) : I2 62 = I 62 := by
  unfold pb_seek at h
  obtain ⟨rfl, h⟩ := h
  rcases h with ⟨a1, rfl, rfl⟩ | ⟨a1, rfl, rfl⟩
  · (repeat rw [px_u_ne (by omega)])
  · rfl

theorem eb_seek_63_r {a b c d e f x : Int32} {I I2 : px_I} {L L2 : px_L} (h : pb_seek a b c d e f I L x I2 L2) : I2 63 = I 63 := by
  unfold pb_seek at h
  obtain ⟨rfl, h⟩ := h
  rcases h with ⟨a1, rfl, rfl⟩ | ⟨a1, rfl, rfl⟩
  · (repeat rw [px_u_ne (by omega)])
  · rfl

theorem ek_seek_117_r {a b c d e f x : Int32} {I I2 : px_I} {L L2 : px_L} (h : pk_seek a b c d e f I L x I2 L2) : I2 117 = I 117 := by
  unfold pk_seek at h
  obtain ⟨rfl, h⟩ := h
  rcases h with ⟨a1, rfl, rfl⟩ | ⟨a1, rfl, rfl⟩
  · (repeat rw [px_u_ne (by omega)])
  · rfl

theorem ek_seek_118_r {a b c d e f x : Int32} {I I2 : px_I} {L L2 : px_L} (h : pk_seek a b c d e f I L x I2 L2) : I2 118 = I 118 := by
  unfold pk_seek at h
  obtain ⟨rfl, h⟩ := h
  rcases h with ⟨a1, rfl, rfl⟩ | ⟨a1, rfl, rfl⟩
  · (repeat rw [px_u_ne (by omega)])
  · rfl

theorem ek_seek_119_r {a b c d e f x : Int32} {I I2 : px_I} {L L2 : px_L} (h : pk_seek a b c d e f I L x I2 L2) : I2 119 = I 119 := by
  unfold pk_seek at h
  obtain ⟨rfl, h⟩ := h
  rcases h with ⟨a1, rfl, rfl⟩ | ⟨a1, rfl, rfl⟩
  · (repeat rw [px_u_ne (by omega)])
  · rfl

theorem ek_seek_120_r {a b c d e f x : Int32} {I I2 : px_I} {L L2 : px_L} (h : pk_seek a b c d e f I L x I2 L2) : I2 120 = I 120 := by
  unfold pk_seek at h
  obtain ⟨rfl, h⟩ := h
  rcases h with ⟨a1, rfl, rfl⟩ | ⟨a1, rfl, rfl⟩
  · (repeat rw [px_u_ne (by omega)])
  · rfl

theorem eb_detour_48_r {a o h x : Int32} {I I2 : px_I} {L L2 : px_L} (h : pb_detour a o h I L x I2 L2) : I2 48 = I 48 := by
  unfold pb_detour at h
  rw [h.1]

theorem eb_detour_49_r {a o h x : Int32} {I I2 : px_I} {L L2 : px_L} (h : pb_detour a o h I L x I2 L2) : I2 49 = I 49 := by
  unfold pb_detour at h
  rw [h.1]

theorem eb_detour_62_r {a o h x : Int32} {I I2 : px_I} {L L2 : px_L} (h : pb_detour a o h I L x I2 L2) : I2 62 = I 62 := by
  unfold pb_detour at h
  rw [h.1]

theorem eb_detour_63_r {a o h x : Int32} {I I2 : px_I} {L L2 : px_L} (h : pb_detour a o h I L x I2 L2) : I2 63 = I 63 := by
  unfold pb_detour at h
  rw [h.1]

theorem ek_detour_117_r {a o lo x : Int32} {I I2 : px_I} {L L2 : px_L} (h : pk_detour a o lo I L x I2 L2) : I2 117 = I 117 := by
  unfold pk_detour at h
  rw [h.1]

theorem ek_detour_118_r {a o lo x : Int32} {I I2 : px_I} {L L2 : px_L} (h : pk_detour a o lo I L x I2 L2) : I2 118 = I 118 := by
  unfold pk_detour at h
  rw [h.1]

theorem ek_detour_119_r {a o lo x : Int32} {I I2 : px_I} {L L2 : px_L} (h : pk_detour a o lo I L x I2 L2) : I2 119 = I 119 := by
  unfold pk_detour at h
  rw [h.1]

theorem ek_detour_120_r {a o lo x : Int32} {I I2 : px_I} {L L2 : px_L} (h : pk_detour a o lo I L x I2 L2) : I2 120 = I 120 := by
  unfold pk_detour at h
  rw [h.1]

theorem eb_table_48_r {c v x : Int32} {I I2 : px_I} {L L2 : px_L} (h : pb_table c v I L x I2 L2) : I2 48 = I 48 := by
  unfold pb_table at h
  obtain ⟨rfl, h⟩ := h
  rcases h with ⟨a1, rfl, rfl⟩ | ⟨a1, rfl, rfl⟩
  · (repeat rw [px_u_ne (by omega)])
  · rfl

theorem eb_table_49_r {c v x : Int32} {I I2 : px_I} {L L2 : px_L} (h : pb_table c v I L x I2 L2) : I2 49 = I 49 := by
  unfold pb_table at h
  obtain ⟨rfl, h⟩ := h
  rcases h with ⟨a1, rfl, rfl⟩ | ⟨a1, rfl, rfl⟩
  · (repeat rw [px_u_ne (by omega)])
  · rfl

theorem eb_table_62_r {c v x : Int32} {I I2 : px_I} {L L2 : px_L} (h : pb_table c v I L x I2 L2) : I2 62 = I 62 := by
  unfold pb_table at h
  obtain ⟨rfl, h⟩ := h
  rcases h with ⟨a1, rfl, rfl⟩ | ⟨a1, rfl, rfl⟩
  · (repeat rw [px_u_ne (by omega)])
  · rfl

theorem eb_table_63_r {c v x : Int32} {I I2 : px_I} {L L2 : px_L} (h : pb_table c v I L x I2 L2) : I2 63 = I 63 := by
  unfold pb_table at h
  obtain ⟨rfl, h⟩ := h
  rcases h with ⟨a1, rfl, rfl⟩ | ⟨a1, rfl, rfl⟩
  · (repeat rw [px_u_ne (by omega)])
  · rfl

theorem ek_table_117_r {c v x : Int32} {I I2 : px_I} {L L2 : px_L} (h : pk_table c v I L x I2 L2) : I2 117 = I 117 := by
  unfold pk_table at h
  obtain ⟨rfl, h⟩ := h
  rcases h with ⟨a1, rfl, rfl⟩ | ⟨a1, rfl, rfl⟩
  · (repeat rw [px_u_ne (by omega)])
  · rfl

theorem ek_table_118_r {c v x : Int32} {I I2 : px_I} {L L2 : px_L} (h : pk_table c v I L x I2 L2) : I2 118 = I 118 := by
  unfold pk_table at h
  obtain ⟨rfl, h⟩ := h
  rcases h with ⟨a1, rfl, rfl⟩ | ⟨a1, rfl, rfl⟩
  · (repeat rw [px_u_ne (by omega)])
  · rfl

theorem ek_table_119_r {c v x : Int32} {I I2 : px_I} {L L2 : px_L} (h : pk_table c v I L x I2 L2) : I2 119 = I 119 := by
  unfold pk_table at h
  obtain ⟨rfl, h⟩ := h
  rcases h with ⟨a1, rfl, rfl⟩ | ⟨a1, rfl, rfl⟩
  · (repeat rw [px_u_ne (by omega)])
  · rfl

theorem ek_table_120_r {c v x : Int32} {I I2 : px_I} {L L2 : px_L} (h : pk_table c v I L x I2 L2) : I2 120 = I 120 := by
  unfold pk_table at h
  obtain ⟨rfl, h⟩ := h
  rcases h with ⟨a1, rfl, rfl⟩ | ⟨a1, rfl, rfl⟩
  · (repeat rw [px_u_ne (by omega)])
  · rfl

theorem eb_repair_48_r {g p y x : Int32} {I I2 : px_I} {L L2 : px_L} (h : pb_repair g p y I L x I2 L2) : I2 48 = I 48 := by
  unfold pb_repair at h
  obtain ⟨rfl, h⟩ := h
  rcases h with ⟨G, g1, rfl, rfl⟩ | ⟨a1, rfl, rfl⟩
  · have g2 := g1.1
    have gG : G = 41 ∨ G = 55 := by unfold bG at g2; omega
    unfold cRep; (repeat rw [px_u_ne (by omega)])
  · rfl

theorem eb_repair_49_r {g p y x : Int32} {I I2 : px_I} {L L2 : px_L} (h : pb_repair g p y I L x I2 L2) : I2 49 = I 49 := by
  unfold pb_repair at h
  obtain ⟨rfl, h⟩ := h
  rcases h with ⟨G, g1, rfl, rfl⟩ | ⟨a1, rfl, rfl⟩
  · have g2 := g1.1
    have gG : G = 41 ∨ G = 55 := by unfold bG at g2; omega
    unfold cRep; (repeat rw [px_u_ne (by omega)])
  · rfl

theorem eb_repair_62_r {g p y x : Int32} {I I2 : px_I} {L L2 : px_L} (h : pb_repair g p y I L x I2 L2) : I2 62 = I 62 := by
  unfold pb_repair at h
  obtain ⟨rfl, h⟩ := h
  rcases h with ⟨G, g1, rfl, rfl⟩ | ⟨a1, rfl, rfl⟩
  · have g2 := g1.1
    have gG : G = 41 ∨ G = 55 := by unfold bG at g2; omega
    unfold cRep; (repeat rw [px_u_ne (by omega)])
  · rfl

theorem eb_repair_63_r {g p y x : Int32} {I I2 : px_I} {L L2 : px_L} (h : pb_repair g p y I L x I2 L2) : I2 63 = I 63 := by
  unfold pb_repair at h
  obtain ⟨rfl, h⟩ := h
  rcases h with ⟨G, g1, rfl, rfl⟩ | ⟨a1, rfl, rfl⟩
  · have g2 := g1.1
    have gG : G = 41 ∨ G = 55 := by unfold bG at g2; omega
    unfold cRep; (repeat rw [px_u_ne (by omega)])
  · rfl

theorem ek_repair_117_r {g p y x : Int32} {I I2 : px_I} {L L2 : px_L} (h : pk_repair g p y I L x I2 L2) : I2 117 = I 117 := by
  unfold pk_repair at h
  obtain ⟨rfl, h⟩ := h
  rcases h with ⟨a1, rfl, rfl⟩ | ⟨a1, rfl, rfl⟩
  · (repeat rw [px_u_ne (by omega)])
  · rfl

theorem ek_repair_118_r {g p y x : Int32} {I I2 : px_I} {L L2 : px_L} (h : pk_repair g p y I L x I2 L2) : I2 118 = I 118 := by
  unfold pk_repair at h
  obtain ⟨rfl, h⟩ := h
  rcases h with ⟨a1, rfl, rfl⟩ | ⟨a1, rfl, rfl⟩
  · (repeat rw [px_u_ne (by omega)])
  · rfl

theorem ek_repair_119_r {g p y x : Int32} {I I2 : px_I} {L L2 : px_L} (h : pk_repair g p y I L x I2 L2) : I2 119 = I 119 := by
  unfold pk_repair at h
  obtain ⟨rfl, h⟩ := h
  rcases h with ⟨a1, rfl, rfl⟩ | ⟨a1, rfl, rfl⟩
  · (repeat rw [px_u_ne (by omega)])
  · rfl

theorem ek_repair_120_r {g p y x : Int32} {I I2 : px_I} {L L2 : px_L} (h : pk_repair g p y I L x I2 L2) : I2 120 = I 120 := by
  unfold pk_repair at h
  obtain ⟨rfl, h⟩ := h
  rcases h with ⟨a1, rfl, rfl⟩ | ⟨a1, rfl, rfl⟩
  · (repeat rw [px_u_ne (by omega)])
  · rfl

theorem eb_lime_48_r {v x : Int32} {I I2 : px_I} {L L2 : px_L} (h : pb_lime v I L x I2 L2) : I2 48 = I 48 := by
  unfold pb_lime at h
  obtain ⟨rfl, h⟩ := h
  rcases h with ⟨a1, rfl, rfl⟩ | ⟨a1, rfl, rfl⟩
  · (repeat rw [px_u_ne (by omega)])
  · rfl

theorem eb_lime_49_r {v x : Int32} {I I2 : px_I} {L L2 : px_L} (h : pb_lime v I L x I2 L2) : I2 49 = I 49 := by
  unfold pb_lime at h
  obtain ⟨rfl, h⟩ := h
  rcases h with ⟨a1, rfl, rfl⟩ | ⟨a1, rfl, rfl⟩
  · (repeat rw [px_u_ne (by omega)])
  · rfl

theorem eb_lime_62_r {v x : Int32} {I I2 : px_I} {L L2 : px_L} (h : pb_lime v I L x I2 L2) : I2 62 = I 62 := by
  unfold pb_lime at h
  obtain ⟨rfl, h⟩ := h
  rcases h with ⟨a1, rfl, rfl⟩ | ⟨a1, rfl, rfl⟩
  · (repeat rw [px_u_ne (by omega)])
  · rfl

theorem eb_lime_63_r {v x : Int32} {I I2 : px_I} {L L2 : px_L} (h : pb_lime v I L x I2 L2) : I2 63 = I 63 := by
  unfold pb_lime at h
  obtain ⟨rfl, h⟩ := h
  rcases h with ⟨a1, rfl, rfl⟩ | ⟨a1, rfl, rfl⟩
  · (repeat rw [px_u_ne (by omega)])
  · rfl

theorem ek_lime_117_r {v x : Int32} {I I2 : px_I} {L L2 : px_L} (h : pk_lime v I L x I2 L2) : I2 117 = I 117 := by
  unfold pk_lime at h
  obtain ⟨rfl, h⟩ := h
  rcases h with ⟨a1, a2, rfl, rfl⟩ | ⟨a1, rfl, rfl⟩
  · (repeat rw [px_u_ne (by omega)])
  · rfl

theorem ek_lime_118_r {v x : Int32} {I I2 : px_I} {L L2 : px_L} (h : pk_lime v I L x I2 L2) : I2 118 = I 118 := by
  unfold pk_lime at h
  obtain ⟨rfl, h⟩ := h
  rcases h with ⟨a1, a2, rfl, rfl⟩ | ⟨a1, rfl, rfl⟩
  · (repeat rw [px_u_ne (by omega)])
  · rfl

theorem ek_lime_119_r {v x : Int32} {I I2 : px_I} {L L2 : px_L} (h : pk_lime v I L x I2 L2) : I2 119 = I 119 := by
  unfold pk_lime at h
  obtain ⟨rfl, h⟩ := h
  rcases h with ⟨a1, a2, rfl, rfl⟩ | ⟨a1, rfl, rfl⟩
  · (repeat rw [px_u_ne (by omega)])
  · rfl

theorem ek_lime_120_r {v x : Int32} {I I2 : px_I} {L L2 : px_L} (h : pk_lime v I L x I2 L2) : I2 120 = I 120 := by
  unfold pk_lime at h
  obtain ⟨rfl, h⟩ := h
  rcases h with ⟨a1, a2, rfl, rfl⟩ | ⟨a1, rfl, rfl⟩
  · (repeat rw [px_u_ne (by omega)])
  · rfl

theorem eb_flow_48_r {g y k h x : Int32} {I I2 : px_I} {L L2 : px_L} (h : pb_flow g y k h I L x I2 L2) : I2 48 = I 48 := by
  unfold pb_flow at h
  exact funext fun j => h.1 48 j (by omega)

theorem eb_flow_49_r {g y k h x : Int32} {I I2 : px_I} {L L2 : px_L} (h : pb_flow g y k h I L x I2 L2) : I2 49 = I 49 := by
  unfold pb_flow at h
  exact funext fun j => h.1 49 j (by omega)

theorem eb_flow_62_r {g y k h x : Int32} {I I2 : px_I} {L L2 : px_L} (h : pb_flow g y k h I L x I2 L2) : I2 62 = I 62 := by
  unfold pb_flow at h
  exact funext fun j => h.1 62 j (by omega)

theorem eb_flow_63_r {g y k h x : Int32} {I I2 : px_I} {L L2 : px_L} (h : pb_flow g y k h I L x I2 L2) : I2 63 = I 63 := by
  unfold pb_flow at h
  exact funext fun j => h.1 63 j (by omega)

theorem ek_flow_117_r {g y k h x : Int32} {I I2 : px_I} {L L2 : px_L} (h : pk_flow g y k h I L x I2 L2) : I2 117 = I 117 := by
  unfold pk_flow at h
  exact funext fun j => h.1 117 j (by omega)

theorem ek_flow_118_r {g y k h x : Int32} {I I2 : px_I} {L L2 : px_L} (h : pk_flow g y k h I L x I2 L2) : I2 118 = I 118 := by
  unfold pk_flow at h
  exact funext fun j => h.1 118 j (by omega)

theorem ek_flow_119_r {g y k h x : Int32} {I I2 : px_I} {L L2 : px_L} (h : pk_flow g y k h I L x I2 L2) : I2 119 = I 119 := by
  unfold pk_flow at h
  exact funext fun j => h.1 119 j (by omega)

theorem ek_flow_120_r {g y k h x : Int32} {I I2 : px_I} {L L2 : px_L} (h : pk_flow g y k h I L x I2 L2) : I2 120 = I 120 := by
  unfold pk_flow at h
  exact funext fun j => h.1 120 j (by omega)

theorem eb_narrow_48_r {g y k x : Int32} {I I2 : px_I} {L L2 : px_L} (h : pb_narrow g y k I L x I2 L2) : I2 48 = I 48 := by
  unfold pb_narrow at h
  exact funext fun j => h.1 48 j (by omega)

theorem eb_narrow_49_r {g y k x : Int32} {I I2 : px_I} {L L2 : px_L} (h : pb_narrow g y k I L x I2 L2) : I2 49 = I 49 := by
  unfold pb_narrow at h
  exact funext fun j => h.1 49 j (by omega)

theorem eb_narrow_62_r {g y k x : Int32} {I I2 : px_I} {L L2 : px_L} (h : pb_narrow g y k I L x I2 L2) : I2 62 = I 62 := by
  unfold pb_narrow at h
  exact funext fun j => h.1 62 j (by omega)

theorem eb_narrow_63_r {g y k x : Int32} {I I2 : px_I} {L L2 : px_L} (h : pb_narrow g y k I L x I2 L2) : I2 63 = I 63 := by
  unfold pb_narrow at h
  exact funext fun j => h.1 63 j (by omega)

theorem ek_narrow_117_r {g y k x : Int32} {I I2 : px_I} {L L2 : px_L} (h : pk_narrow g y k I L x I2 L2) : I2 117 = I 117 := by
  unfold pk_narrow at h
  exact funext fun j => h.1 117 j (by omega)

theorem ek_narrow_118_r {g y k x : Int32} {I I2 : px_I} {L L2 : px_L} (h : pk_narrow g y k I L x I2 L2) : I2 118 = I 118 := by
  unfold pk_narrow at h
  exact funext fun j => h.1 118 j (by omega)

theorem ek_narrow_119_r {g y k x : Int32} {I I2 : px_I} {L L2 : px_L} (h : pk_narrow g y k I L x I2 L2) : I2 119 = I 119 := by
  unfold pk_narrow at h
  exact funext fun j => h.1 119 j (by omega)

theorem ek_narrow_120_r {g y k x : Int32} {I I2 : px_I} {L L2 : px_L} (h : pk_narrow g y k I L x I2 L2) : I2 120 = I 120 := by
  unfold pk_narrow at h
  exact funext fun j => h.1 120 j (by omega)

theorem eb_about_48_r {w x : Int32} {I I2 : px_I} {L L2 : px_L} (h : pb_about w I L x I2 L2) : I2 48 = I 48 := by
  unfold pb_about at h
  rw [h.1]

theorem eb_about_49_r {w x : Int32} {I I2 : px_I} {L L2 : px_L} (h : pb_about w I L x I2 L2) : I2 49 = I 49 := by
  unfold pb_about at h
  rw [h.1]

theorem eb_about_62_r {w x : Int32} {I I2 : px_I} {L L2 : px_L} (h : pb_about w I L x I2 L2) : I2 62 = I 62 := by
  unfold pb_about at h
  rw [h.1]

theorem eb_about_63_r {w x : Int32} {I I2 : px_I} {L L2 : px_L} (h : pb_about w I L x I2 L2) : I2 63 = I 63 := by
  unfold pb_about at h
  rw [h.1]

theorem ek_about_117_r {w x : Int32} {I I2 : px_I} {L L2 : px_L} (h : pk_about w I L x I2 L2) : I2 117 = I 117 := by
  unfold pk_about at h
  rw [h.1]

theorem ek_about_118_r {w x : Int32} {I I2 : px_I} {L L2 : px_L} (h : pk_about w I L x I2 L2) : I2 118 = I 118 := by
  unfold pk_about at h
  rw [h.1]

theorem ek_about_119_r {w x : Int32} {I I2 : px_I} {L L2 : px_L} (h : pk_about w I L x I2 L2) : I2 119 = I 119 := by
  unfold pk_about at h
  rw [h.1]

theorem ek_about_120_r {w x : Int32} {I I2 : px_I} {L L2 : px_L} (h : pk_about w I L x I2 L2) : I2 120 = I 120 := by
  unfold pk_about at h
  rw [h.1]

def rel (I : px_I) (L : px_L) : Prop := (I 33 7 = I 103 1) ∧ (I 41 13 = I 110 0) ∧ (I 55 13 = I 110 1) ∧ (I 41 14 + I 55 14 = I 103 16) ∧ (dgOk I 41 0 ∧ dgOk I 55 1) ∧ ((mqOk I 41 0 ∧ mqOk I 55 1) ∧ mrOk I)

theorem rel_hx {n : Nat} {I : px_I} {L : px_L} {R : px_R} (hj : jJ n I R) (hr : rel I L) : gSm I 41 ∧ gSm I 55 := (by have hl := hj.l; unfold cGal at hl; exact ⟨dug_sm hl.1.1 (hr.2.2.2.2.1).1 (hr.2.2.2.2.2).1.1, dug_sm hl.2.1 (hr.2.2.2.2.1).2 (hr.2.2.2.2.2).1.2⟩)

theorem rel.days {v0 : Int32} {x y : Int32} {n : Nat} {I I2 I3 : px_I} {L L2 L3 : px_L} {R : px_R} (hj : jJ n I R) (hr : rel I L) (f1 : frB I I2 L L2) (p1 : pb_days v0 I L x I2 L2) (f2 : frK I2 I3 L2 L3) (p2 : pk_days v0 I2 L2 y I3 L3) : rel I3 L3 := by
  have f_33_7 : I3 33 7 = I 33 7 := by rw [f2.1 33 (by omega), eb_days_33_7 p1]
  have f_103_1 : I3 103 1 = I 103 1 := by rw [ek_days_103_1 p2, f1.1 103 (by omega) (by omega)]
  have f_41_13 : I3 41 13 = I 41 13 := by rw [f2.1 41 (by omega), eb_days_41_13 p1]
  have f_110_0 : I3 110 0 = I 110 0 := by rw [ek_days_110_0 p2, f1.1 110 (by omega) (by omega)]
  have f_55_13 : I3 55 13 = I 55 13 := by rw [f2.1 55 (by omega), eb_days_55_13 p1]
  have f_110_1 : I3 110 1 = I 110 1 := by rw [ek_days_110_1 p2, f1.1 110 (by omega) (by omega)]
  have f_41_14 : I3 41 14 = I 41 14 := by rw [f2.1 41 (by omega), eb_days_41_14 p1]
  have f_55_14 : I3 55 14 = I 55 14 := by rw [f2.1 55 (by omega), eb_days_55_14 p1]
  have f_103_16 : I3 103 16 = I 103 16 := by rw [ek_days_103_16 p2, f1.1 103 (by omega) (by omega)]
  have f_45_r : I3 45 = I 45 := by rw [f2.1 45 (by omega), eb_days_45_r p1]
  have f_46_r : I3 46 = I 46 := by rw [f2.1 46 (by omega), eb_days_46_r p1]
  have f_59_r : I3 59 = I 59 := by rw [f2.1 59 (by omega), eb_days_59_r p1]
  have f_60_r : I3 60 = I 60 := by rw [f2.1 60 (by omega), eb_days_60_r p1]
  have f_111_r : I3 111 = I 111 := by rw [ek_days_111_r p2, f1.1 111 (by omega) (by omega)]
  have f_112_r : I3 112 = I 112 := by rw [ek_days_112_r p2, f1.1 112 (by omega) (by omega)]
  have f_113_r : I3 113 = I 113 := by rw [ek_days_113_r p2, f1.1 113 (by omega) (by omega)]
  have f_114_r : I3 114 = I 114 := by rw [ek_days_114_r p2, f1.1 114 (by omega) (by omega)]
  have f_48_r : I3 48 = I 48 := by rw [f2.1 48 (by omega), eb_days_48_r p1]
  have f_49_r : I3 49 = I 49 := by rw [f2.1 49 (by omega), eb_days_49_r p1]
  have f_62_r : I3 62 = I 62 := by rw [f2.1 62 (by omega), eb_days_62_r p1]
  have f_63_r : I3 63 = I 63 := by rw [f2.1 63 (by omega), eb_days_63_r p1]
  have f_117_r : I3 117 = I 117 := by rw [ek_days_117_r p2, f1.1 117 (by omega) (by omega)]
  have f_118_r : I3 118 = I 118 := by rw [ek_days_118_r p2, f1.1 118 (by omega) (by omega)]
  have f_119_r : I3 119 = I 119 := by rw [ek_days_119_r p2, f1.1 119 (by omega) (by omega)]
  have f_120_r : I3 120 = I 120 := by rw [ek_days_120_r p2, f1.1 120 (by omega) (by omega)]
  exact ⟨(by rw [f_33_7, f_103_1]; exact hr.1), (by rw [f_41_13, f_110_0]; exact hr.2.1), (by rw [f_55_13, f_110_1]; exact hr.2.2.1), (by rw [f_41_14, f_55_14, f_103_16]; exact hr.2.2.2.1), (dg_eq f_41_13 f_55_13 f_45_r f_46_r f_59_r f_60_r f_111_r f_112_r f_113_r f_114_r hr.2.2.2.2.1), (mq_eq f_41_13 f_55_13 f_48_r f_49_r f_62_r f_63_r f_103_16 f_117_r f_118_r f_119_r f_120_r hr.2.2.2.2.2)⟩

theorem relq_station {x y : Int32} {n : Nat} {I I2 I3 : px_I} {L L2 L3 : px_L} {R : px_R} (hj : jJ n I R) (hr : rel I L) (f1 : frB I I2 L L2) (p1 : pb_station  I L x I2 L2) (f2 : frK I2 I3 L2 L3) (p2 : pk_station  I2 L2 y I3 L3) : x = y ∧ (I3 33 7 = I3 103 1) := by
  have h_st : I 33 7 = I 103 1 := hr.1
  have h_pA : I 41 13 = I 110 0 := hr.2.1
  have h_pB : I 55 13 = I 110 1 := hr.2.2.1
  have h_mk : I 41 14 + I 55 14 = I 103 16 := hr.2.2.2.1
  have h_dg : dgOk I 41 0 ∧ dgOk I 55 1 := hr.2.2.2.2.1
  have h_mq : (mqOk I 41 0 ∧ mqOk I 55 1) ∧ mrOk I := hr.2.2.2.2.2
  unfold pb_station at p1
  unfold pk_station at p2
  have s := hj.s
  unfold cSt at s
  have e : I2 103 1 = I 103 1 := by rw [f1.1 103 (by omega) (by omega)]
  have e3 : I3 33 7 = I2 33 7 := by rw [f2.1 33 (by omega)]
  rcases p1.2 with ⟨a1, a2, a3⟩ | ⟨a1, a2, a3⟩
  · rcases p2.2 with ⟨b1, b2, b3⟩ | ⟨b1, b2, b3⟩
    · exact ⟨by rw [a2, b2, e]; exact h_st, by rw [e3, b3, a3, px_u_at, px_u_at, ← a3, e, h_st]⟩
    · exact absurd (b1.symm.trans (e.trans h_st.symm)) (by grind)
  · rcases p2.2 with ⟨b1, b2, b3⟩ | ⟨b1, b2, b3⟩
    · exact absurd (e.trans h_st.symm) (by grind)
    · exact ⟨by rw [a2, b2], by rw [e3, b3, e, a3]; exact h_st⟩

theorem rel.station {x y : Int32} {n : Nat} {I I2 I3 : px_I} {L L2 L3 : px_L} {R : px_R} (hj : jJ n I R) (hr : rel I L) (f1 : frB I I2 L L2) (p1 : pb_station  I L x I2 L2) (f2 : frK I2 I3 L2 L3) (p2 : pk_station  I2 L2 y I3 L3) : rel I3 L3 := by
  have hq0 := (relq_station hj hr f1 p1 f2 p2).2
  have f_41_13 : I3 41 13 = I 41 13 := by rw [f2.1 41 (by omega), eb_station_41_13 p1]
  have f_110_0 : I3 110 0 = I 110 0 := by rw [ek_station_110_0 p2, f1.1 110 (by omega) (by omega)]
  have f_55_13 : I3 55 13 = I 55 13 := by rw [f2.1 55 (by omega), eb_station_55_13 p1]
  have f_110_1 : I3 110 1 = I 110 1 := by rw [ek_station_110_1 p2, f1.1 110 (by omega) (by omega)]
  have f_41_14 : I3 41 14 = I 41 14 := by rw [f2.1 41 (by omega), eb_station_41_14 p1]
  have f_55_14 : I3 55 14 = I 55 14 := by rw [f2.1 55 (by omega), eb_station_55_14 p1]
  have f_103_16 : I3 103 16 = I 103 16 := by rw [ek_station_103_16 p2, f1.1 103 (by omega) (by omega)]
  have f_45_r : I3 45 = I 45 := by rw [f2.1 45 (by omega), eb_station_45_r p1]
  have f_46_r : I3 46 = I 46 := by rw [f2.1 46 (by omega), eb_station_46_r p1]
  have f_59_r : I3 59 = I 59 := by rw [f2.1 59 (by omega), eb_station_59_r p1]
  have f_60_r : I3 60 = I 60 := by rw [f2.1 60 (by omega), eb_station_60_r p1]
  have f_111_r : I3 111 = I 111 := by rw [ek_station_111_r p2, f1.1 111 (by omega) (by omega)]
  have f_112_r : I3 112 = I 112 := by rw [ek_station_112_r p2, f1.1 112 (by omega) (by omega)]
  have f_113_r : I3 113 = I 113 := by rw [ek_station_113_r p2, f1.1 113 (by omega) (by omega)]
  have f_114_r : I3 114 = I 114 := by rw [ek_station_114_r p2, f1.1 114 (by omega) (by omega)]
  have f_48_r : I3 48 = I 48 := by rw [f2.1 48 (by omega), eb_station_48_r p1]
  have f_49_r : I3 49 = I 49 := by rw [f2.1 49 (by omega), eb_station_49_r p1]
  have f_62_r : I3 62 = I 62 := by rw [f2.1 62 (by omega), eb_station_62_r p1]
  have f_63_r : I3 63 = I 63 := by rw [f2.1 63 (by omega), eb_station_63_r p1]
  have f_117_r : I3 117 = I 117 := by rw [ek_station_117_r p2, f1.1 117 (by omega) (by omega)]
  have f_118_r : I3 118 = I 118 := by rw [ek_station_118_r p2, f1.1 118 (by omega) (by omega)]
  have f_119_r : I3 119 = I 119 := by rw [ek_station_119_r p2, f1.1 119 (by omega) (by omega)]
  have f_120_r : I3 120 = I 120 := by rw [ek_station_120_r p2, f1.1 120 (by omega) (by omega)]
  exact ⟨hq0, (by rw [f_41_13, f_110_0]; exact hr.2.1), (by rw [f_55_13, f_110_1]; exact hr.2.2.1), (by rw [f_41_14, f_55_14, f_103_16]; exact hr.2.2.2.1), (dg_eq f_41_13 f_55_13 f_45_r f_46_r f_59_r f_60_r f_111_r f_112_r f_113_r f_114_r hr.2.2.2.2.1), (mq_eq f_41_13 f_55_13 f_48_r f_49_r f_62_r f_63_r f_103_16 f_117_r f_118_r f_119_r f_120_r hr.2.2.2.2.2)⟩

theorem rel.sight {v0 v1 v2 v3 v4 : Int32} {x y : Int32} {n : Nat} {I I2 I3 : px_I} {L L2 L3 : px_L} {R : px_R} (hj : jJ n I R) (hr : rel I L) (f1 : frB I I2 L L2) (p1 : pb_sight v0 v1 v2 v3 v4 I L x I2 L2) (f2 : frK I2 I3 L2 L3) (p2 : pk_sight v0 v1 v2 v3 v4 I2 L2 y I3 L3) : rel I3 L3 := by
  have f_33_7 : I3 33 7 = I 33 7 := by rw [f2.1 33 (by omega), eb_sight_33_7 p1]
  have f_103_1 : I3 103 1 = I 103 1 := by rw [ek_sight_103_1 p2, f1.1 103 (by omega) (by omega)]
  have f_41_13 : I3 41 13 = I 41 13 := by rw [f2.1 41 (by omega), eb_sight_41_13 p1]
  have f_110_0 : I3 110 0 = I 110 0 := by rw [ek_sight_110_0 p2, f1.1 110 (by omega) (by omega)]
  have f_55_13 : I3 55 13 = I 55 13 := by rw [f2.1 55 (by omega), eb_sight_55_13 p1]
  have f_110_1 : I3 110 1 = I 110 1 := by rw [ek_sight_110_1 p2, f1.1 110 (by omega) (by omega)]
  have f_41_14 : I3 41 14 = I 41 14 := by rw [f2.1 41 (by omega), eb_sight_41_14 p1]
  have f_55_14 : I3 55 14 = I 55 14 := by rw [f2.1 55 (by omega), eb_sight_55_14 p1]
  have f_103_16 : I3 103 16 = I 103 16 := by rw [ek_sight_103_16 p2, f1.1 103 (by omega) (by omega)]
  have f_45_r : I3 45 = I 45 := by rw [f2.1 45 (by omega), eb_sight_45_r p1]
  have f_46_r : I3 46 = I 46 := by rw [f2.1 46 (by omega), eb_sight_46_r p1]
  have f_59_r : I3 59 = I 59 := by rw [f2.1 59 (by omega), eb_sight_59_r p1]
  have f_60_r : I3 60 = I 60 := by rw [f2.1 60 (by omega), eb_sight_60_r p1]
  have f_111_r : I3 111 = I 111 := by rw [ek_sight_111_r p2, f1.1 111 (by omega) (by omega)]
  have f_112_r : I3 112 = I 112 := by rw [ek_sight_112_r p2, f1.1 112 (by omega) (by omega)]
  have f_113_r : I3 113 = I 113 := by rw [ek_sight_113_r p2, f1.1 113 (by omega) (by omega)]
  have f_114_r : I3 114 = I 114 := by rw [ek_sight_114_r p2, f1.1 114 (by omega) (by omega)]
  have f_48_r : I3 48 = I 48 := by rw [f2.1 48 (by omega), eb_sight_48_r p1]
  have f_49_r : I3 49 = I 49 := by rw [f2.1 49 (by omega), eb_sight_49_r p1]
  have f_62_r : I3 62 = I 62 := by rw [f2.1 62 (by omega), eb_sight_62_r p1]
  have f_63_r : I3 63 = I 63 := by rw [f2.1 63 (by omega), eb_sight_63_r p1]
  have f_117_r : I3 117 = I 117 := by rw [ek_sight_117_r p2, f1.1 117 (by omega) (by omega)]
  have f_118_r : I3 118 = I 118 := by rw [ek_sight_118_r p2, f1.1 118 (by omega) (by omega)]
  have f_119_r : I3 119 = I 119 := by rw [ek_sight_119_r p2, f1.1 119 (by omega) (by omega)]
  have f_120_r : I3 120 = I 120 := by rw [ek_sight_120_r p2, f1.1 120 (by omega) (by omega)]
  exact ⟨(by rw [f_33_7, f_103_1]; exact hr.1), (by rw [f_41_13, f_110_0]; exact hr.2.1), (by rw [f_55_13, f_110_1]; exact hr.2.2.1), (by rw [f_41_14, f_55_14, f_103_16]; exact hr.2.2.2.1), (dg_eq f_41_13 f_55_13 f_45_r f_46_r f_59_r f_60_r f_111_r f_112_r f_113_r f_114_r hr.2.2.2.2.1), (mq_eq f_41_13 f_55_13 f_48_r f_49_r f_62_r f_63_r f_103_16 f_117_r f_118_r f_119_r f_120_r hr.2.2.2.2.2)⟩

theorem rel.closed {v0 v1 : Int32} {x y : Int32} {n : Nat} {I I2 I3 : px_I} {L L2 L3 : px_L} {R : px_R} (hj : jJ n I R) (hr : rel I L) (f1 : frB I I2 L L2) (p1 : pb_closed v0 v1 I L x I2 L2) (f2 : frK I2 I3 L2 L3) (p2 : pk_closed v0 v1 I2 L2 y I3 L3) : rel I3 L3 := by
  have f_33_7 : I3 33 7 = I 33 7 := by rw [f2.1 33 (by omega), eb_closed_33_7 p1]
  have f_103_1 : I3 103 1 = I 103 1 := by rw [ek_closed_103_1 p2, f1.1 103 (by omega) (by omega)]
  have f_41_13 : I3 41 13 = I 41 13 := by rw [f2.1 41 (by omega), eb_closed_41_13 p1]
  have f_110_0 : I3 110 0 = I 110 0 := by rw [ek_closed_110_0 p2, f1.1 110 (by omega) (by omega)]
  have f_55_13 : I3 55 13 = I 55 13 := by rw [f2.1 55 (by omega), eb_closed_55_13 p1]
  have f_110_1 : I3 110 1 = I 110 1 := by rw [ek_closed_110_1 p2, f1.1 110 (by omega) (by omega)]
  have f_41_14 : I3 41 14 = I 41 14 := by rw [f2.1 41 (by omega), eb_closed_41_14 p1]
  have f_55_14 : I3 55 14 = I 55 14 := by rw [f2.1 55 (by omega), eb_closed_55_14 p1]
  have f_103_16 : I3 103 16 = I 103 16 := by rw [ek_closed_103_16 p2, f1.1 103 (by omega) (by omega)]
  have f_45_r : I3 45 = I 45 := by rw [f2.1 45 (by omega), eb_closed_45_r p1]
  have f_46_r : I3 46 = I 46 := by rw [f2.1 46 (by omega), eb_closed_46_r p1]
  have f_59_r : I3 59 = I 59 := by rw [f2.1 59 (by omega), eb_closed_59_r p1]
  have f_60_r : I3 60 = I 60 := by rw [f2.1 60 (by omega), eb_closed_60_r p1]
  have f_111_r : I3 111 = I 111 := by rw [ek_closed_111_r p2, f1.1 111 (by omega) (by omega)]
  have f_112_r : I3 112 = I 112 := by rw [ek_closed_112_r p2, f1.1 112 (by omega) (by omega)]
  have f_113_r : I3 113 = I 113 := by rw [ek_closed_113_r p2, f1.1 113 (by omega) (by omega)]
  have f_114_r : I3 114 = I 114 := by rw [ek_closed_114_r p2, f1.1 114 (by omega) (by omega)]
  have f_48_r : I3 48 = I 48 := by rw [f2.1 48 (by omega), eb_closed_48_r p1]
  have f_49_r : I3 49 = I 49 := by rw [f2.1 49 (by omega), eb_closed_49_r p1]
  have f_62_r : I3 62 = I 62 := by rw [f2.1 62 (by omega), eb_closed_62_r p1]
  have f_63_r : I3 63 = I 63 := by rw [f2.1 63 (by omega), eb_closed_63_r p1]
  have f_117_r : I3 117 = I 117 := by rw [ek_closed_117_r p2, f1.1 117 (by omega) (by omega)]
  have f_118_r : I3 118 = I 118 := by rw [ek_closed_118_r p2, f1.1 118 (by omega) (by omega)]
  have f_119_r : I3 119 = I 119 := by rw [ek_closed_119_r p2, f1.1 119 (by omega) (by omega)]
  have f_120_r : I3 120 = I 120 := by rw [ek_closed_120_r p2, f1.1 120 (by omega) (by omega)]
  exact ⟨(by rw [f_33_7, f_103_1]; exact hr.1), (by rw [f_41_13, f_110_0]; exact hr.2.1), (by rw [f_55_13, f_110_1]; exact hr.2.2.1), (by rw [f_41_14, f_55_14, f_103_16]; exact hr.2.2.2.1), (dg_eq f_41_13 f_55_13 f_45_r f_46_r f_59_r f_60_r f_111_r f_112_r f_113_r f_114_r hr.2.2.2.2.1), (mq_eq f_41_13 f_55_13 f_48_r f_49_r f_62_r f_63_r f_103_16 f_117_r f_118_r f_119_r f_120_r hr.2.2.2.2.2)⟩

theorem rel.span {v0 v1 v2 v3 : Int32} {x y : Int32} {n : Nat} {I I2 I3 : px_I} {L L2 L3 : px_L} {R : px_R} (hj : jJ n I R) (hr : rel I L) (f1 : frB I I2 L L2) (p1 : pb_span v0 v1 v2 v3 I L x I2 L2) (f2 : frK I2 I3 L2 L3) (p2 : pk_span v0 v1 v2 v3 I2 L2 y I3 L3) : rel I3 L3 := by
  have f_33_7 : I3 33 7 = I 33 7 := by rw [f2.1 33 (by omega), eb_span_33_7 p1]
  have f_103_1 : I3 103 1 = I 103 1 := by rw [ek_span_103_1 p2, f1.1 103 (by omega) (by omega)]
  have f_41_13 : I3 41 13 = I 41 13 := by rw [f2.1 41 (by omega), eb_span_41_13 p1]
  have f_110_0 : I3 110 0 = I 110 0 := by rw [ek_span_110_0 p2, f1.1 110 (by omega) (by omega)]
  have f_55_13 : I3 55 13 = I 55 13 := by rw [f2.1 55 (by omega), eb_span_55_13 p1]
  have f_110_1 : I3 110 1 = I 110 1 := by rw [ek_span_110_1 p2, f1.1 110 (by omega) (by omega)]
  have f_41_14 : I3 41 14 = I 41 14 := by rw [f2.1 41 (by omega), eb_span_41_14 p1]
  have f_55_14 : I3 55 14 = I 55 14 := by rw [f2.1 55 (by omega), eb_span_55_14 p1]
  have f_103_16 : I3 103 16 = I 103 16 := by rw [ek_span_103_16 p2, f1.1 103 (by omega) (by omega)]
  have f_45_r : I3 45 = I 45 := by rw [f2.1 45 (by omega), eb_span_45_r p1]
  have f_46_r : I3 46 = I 46 := by rw [f2.1 46 (by omega), eb_span_46_r p1]
  have f_59_r : I3 59 = I 59 := by rw [f2.1 59 (by omega), eb_span_59_r p1]
  have f_60_r : I3 60 = I 60 := by rw [f2.1 60 (by omega), eb_span_60_r p1]
  have f_111_r : I3 111 = I 111 := by rw [ek_span_111_r p2, f1.1 111 (by omega) (by omega)]
  have f_112_r : I3 112 = I 112 := by rw [ek_span_112_r p2, f1.1 112 (by omega) (by omega)]
  have f_113_r : I3 113 = I 113 := by rw [ek_span_113_r p2, f1.1 113 (by omega) (by omega)]
  have f_114_r : I3 114 = I 114 := by rw [ek_span_114_r p2, f1.1 114 (by omega) (by omega)]
  have f_48_r : I3 48 = I 48 := by rw [f2.1 48 (by omega), eb_span_48_r p1]
  have f_49_r : I3 49 = I 49 := by rw [f2.1 49 (by omega), eb_span_49_r p1]
  have f_62_r : I3 62 = I 62 := by rw [f2.1 62 (by omega), eb_span_62_r p1]
  have f_63_r : I3 63 = I 63 := by rw [f2.1 63 (by omega), eb_span_63_r p1]
  have f_117_r : I3 117 = I 117 := by rw [ek_span_117_r p2, f1.1 117 (by omega) (by omega)]
  have f_118_r : I3 118 = I 118 := by rw [ek_span_118_r p2, f1.1 118 (by omega) (by omega)]
  have f_119_r : I3 119 = I 119 := by rw [ek_span_119_r p2, f1.1 119 (by omega) (by omega)]
  have f_120_r : I3 120 = I 120 := by rw [ek_span_120_r p2, f1.1 120 (by omega) (by omega)]
  exact ⟨(by rw [f_33_7, f_103_1]; exact hr.1), (by rw [f_41_13, f_110_0]; exact hr.2.1), (by rw [f_55_13, f_110_1]; exact hr.2.2.1), (by rw [f_41_14, f_55_14, f_103_16]; exact hr.2.2.2.1), (dg_eq f_41_13 f_55_13 f_45_r f_46_r f_59_r f_60_r f_111_r f_112_r f_113_r f_114_r hr.2.2.2.2.1), (mq_eq f_41_13 f_55_13 f_48_r f_49_r f_62_r f_63_r f_103_16 f_117_r f_118_r f_119_r f_120_r hr.2.2.2.2.2)⟩

theorem rel.gap {v0 v1 v2 v3 v4 : Int32} {x y : Int32} {n : Nat} {I I2 I3 : px_I} {L L2 L3 : px_L} {R : px_R} (hj : jJ n I R) (hr : rel I L) (f1 : frB I I2 L L2) (p1 : pb_gap v0 v1 v2 v3 v4 I L x I2 L2) (f2 : frK I2 I3 L2 L3) (p2 : pk_gap v0 v1 v2 v3 v4 I2 L2 y I3 L3) : rel I3 L3 := by
  have f_33_7 : I3 33 7 = I 33 7 := by rw [f2.1 33 (by omega), eb_gap_33_7 p1]
  have f_103_1 : I3 103 1 = I 103 1 := by rw [ek_gap_103_1 p2, f1.1 103 (by omega) (by omega)]
  have f_41_13 : I3 41 13 = I 41 13 := by rw [f2.1 41 (by omega), eb_gap_41_13 p1]
  have f_110_0 : I3 110 0 = I 110 0 := by rw [ek_gap_110_0 p2, f1.1 110 (by omega) (by omega)]
  have f_55_13 : I3 55 13 = I 55 13 := by rw [f2.1 55 (by omega), eb_gap_55_13 p1]
  have f_110_1 : I3 110 1 = I 110 1 := by rw [ek_gap_110_1 p2, f1.1 110 (by omega) (by omega)]
  have f_41_14 : I3 41 14 = I 41 14 := by rw [f2.1 41 (by omega), eb_gap_41_14 p1]
  have f_55_14 : I3 55 14 = I 55 14 := by rw [f2.1 55 (by omega), eb_gap_55_14 p1]
  have f_103_16 : I3 103 16 = I 103 16 := by rw [ek_gap_103_16 p2, f1.1 103 (by omega) (by omega)]
  have f_45_r : I3 45 = I 45 := by rw [f2.1 45 (by omega), eb_gap_45_r p1]
  have f_46_r : I3 46 = I 46 := by rw [f2.1 46 (by omega), eb_gap_46_r p1]
  have f_59_r : I3 59 = I 59 := by rw [f2.1 59 (by omega), eb_gap_59_r p1]
  have f_60_r : I3 60 = I 60 := by rw [f2.1 60 (by omega), eb_gap_60_r p1]
  have f_111_r : I3 111 = I 111 := by rw [ek_gap_111_r p2, f1.1 111 (by omega) (by omega)]
  have f_112_r : I3 112 = I 112 := by rw [ek_gap_112_r p2, f1.1 112 (by omega) (by omega)]
  have f_113_r : I3 113 = I 113 := by rw [ek_gap_113_r p2, f1.1 113 (by omega) (by omega)]
  have f_114_r : I3 114 = I 114 := by rw [ek_gap_114_r p2, f1.1 114 (by omega) (by omega)]
  have f_48_r : I3 48 = I 48 := by rw [f2.1 48 (by omega), eb_gap_48_r p1]
  have f_49_r : I3 49 = I 49 := by rw [f2.1 49 (by omega), eb_gap_49_r p1]
  have f_62_r : I3 62 = I 62 := by rw [f2.1 62 (by omega), eb_gap_62_r p1]
  have f_63_r : I3 63 = I 63 := by rw [f2.1 63 (by omega), eb_gap_63_r p1]
  have f_117_r : I3 117 = I 117 := by rw [ek_gap_117_r p2, f1.1 117 (by omega) (by omega)]
  have f_118_r : I3 118 = I 118 := by rw [ek_gap_118_r p2, f1.1 118 (by omega) (by omega)]
  have f_119_r : I3 119 = I 119 := by rw [ek_gap_119_r p2, f1.1 119 (by omega) (by omega)]
  have f_120_r : I3 120 = I 120 := by rw [ek_gap_120_r p2, f1.1 120 (by omega) (by omega)]
  exact ⟨(by rw [f_33_7, f_103_1]; exact hr.1), (by rw [f_41_13, f_110_0]; exact hr.2.1), (by rw [f_55_13, f_110_1]; exact hr.2.2.1), (by rw [f_41_14, f_55_14, f_103_16]; exact hr.2.2.2.1), (dg_eq f_41_13 f_55_13 f_45_r f_46_r f_59_r f_60_r f_111_r f_112_r f_113_r f_114_r hr.2.2.2.2.1), (mq_eq f_41_13 f_55_13 f_48_r f_49_r f_62_r f_63_r f_103_16 f_117_r f_118_r f_119_r f_120_r hr.2.2.2.2.2)⟩

theorem rel.blamed {v0 v1 v2 : Int32} {x y : Int32} {n : Nat} {I I2 I3 : px_I} {L L2 L3 : px_L} {R : px_R} (hj : jJ n I R) (hr : rel I L) (f1 : frB I I2 L L2) (p1 : pb_blamed v0 v1 v2 I L x I2 L2) (f2 : frK I2 I3 L2 L3) (p2 : pk_blamed v0 v1 v2 I2 L2 y I3 L3) : rel I3 L3 := by
  have f_33_7 : I3 33 7 = I 33 7 := by rw [f2.1 33 (by omega), eb_blamed_33_7 p1]
  have f_103_1 : I3 103 1 = I 103 1 := by rw [ek_blamed_103_1 p2, f1.1 103 (by omega) (by omega)]
  have f_41_13 : I3 41 13 = I 41 13 := by rw [f2.1 41 (by omega), eb_blamed_41_13 p1]
  have f_110_0 : I3 110 0 = I 110 0 := by rw [ek_blamed_110_0 p2, f1.1 110 (by omega) (by omega)]
  have f_55_13 : I3 55 13 = I 55 13 := by rw [f2.1 55 (by omega), eb_blamed_55_13 p1]
  have f_110_1 : I3 110 1 = I 110 1 := by rw [ek_blamed_110_1 p2, f1.1 110 (by omega) (by omega)]
  have f_41_14 : I3 41 14 = I 41 14 := by rw [f2.1 41 (by omega), eb_blamed_41_14 p1]
  have f_55_14 : I3 55 14 = I 55 14 := by rw [f2.1 55 (by omega), eb_blamed_55_14 p1]
  have f_103_16 : I3 103 16 = I 103 16 := by rw [ek_blamed_103_16 p2, f1.1 103 (by omega) (by omega)]
  have f_45_r : I3 45 = I 45 := by rw [f2.1 45 (by omega), eb_blamed_45_r p1]
  have f_46_r : I3 46 = I 46 := by rw [f2.1 46 (by omega), eb_blamed_46_r p1]
  have f_59_r : I3 59 = I 59 := by rw [f2.1 59 (by omega), eb_blamed_59_r p1]
  have f_60_r : I3 60 = I 60 := by rw [f2.1 60 (by omega), eb_blamed_60_r p1]
  have f_111_r : I3 111 = I 111 := by rw [ek_blamed_111_r p2, f1.1 111 (by omega) (by omega)]
  have f_112_r : I3 112 = I 112 := by rw [ek_blamed_112_r p2, f1.1 112 (by omega) (by omega)]
  have f_113_r : I3 113 = I 113 := by rw [ek_blamed_113_r p2, f1.1 113 (by omega) (by omega)]
  have f_114_r : I3 114 = I 114 := by rw [ek_blamed_114_r p2, f1.1 114 (by omega) (by omega)]
  have f_48_r : I3 48 = I 48 := by rw [f2.1 48 (by omega), eb_blamed_48_r p1]
  have f_49_r : I3 49 = I 49 := by rw [f2.1 49 (by omega), eb_blamed_49_r p1]
  have f_62_r : I3 62 = I 62 := by rw [f2.1 62 (by omega), eb_blamed_62_r p1]
  have f_63_r : I3 63 = I 63 := by rw [f2.1 63 (by omega), eb_blamed_63_r p1]
  have f_117_r : I3 117 = I 117 := by rw [ek_blamed_117_r p2, f1.1 117 (by omega) (by omega)]
  have f_118_r : I3 118 = I 118 := by rw [ek_blamed_118_r p2, f1.1 118 (by omega) (by omega)]
  have f_119_r : I3 119 = I 119 := by rw [ek_blamed_119_r p2, f1.1 119 (by omega) (by omega)]
  have f_120_r : I3 120 = I 120 := by rw [ek_blamed_120_r p2, f1.1 120 (by omega) (by omega)]
  exact ⟨(by rw [f_33_7, f_103_1]; exact hr.1), (by rw [f_41_13, f_110_0]; exact hr.2.1), (by rw [f_55_13, f_110_1]; exact hr.2.2.1), (by rw [f_41_14, f_55_14, f_103_16]; exact hr.2.2.2.1), (dg_eq f_41_13 f_55_13 f_45_r f_46_r f_59_r f_60_r f_111_r f_112_r f_113_r f_114_r hr.2.2.2.2.1), (mq_eq f_41_13 f_55_13 f_48_r f_49_r f_62_r f_63_r f_103_16 f_117_r f_118_r f_119_r f_120_r hr.2.2.2.2.2)⟩

theorem relq_reach {v0 v1 v2 v3 v4 v5 v6 : Int32} {x y : Int32} {n : Nat} {I I2 I3 : px_I} {L L2 L3 : px_L} {R : px_R} (hj : jJ n I R) (hr : rel I L) (f1 : frB I I2 L L2) (p1 : pb_reach v0 v1 v2 v3 v4 v5 v6 I L x I2 L2) (f2 : frK I2 I3 L2 L3) (p2 : pk_reach v0 v1 v2 v3 v4 v5 v6 I2 L2 y I3 L3) : x = y ∧ (I3 41 13 = I3 110 0) ∧ (I3 55 13 = I3 110 1) := by
  have h_st : I 33 7 = I 103 1 := hr.1
  have h_pA : I 41 13 = I 110 0 := hr.2.1
  have h_pB : I 55 13 = I 110 1 := hr.2.2.1
  have h_mk : I 41 14 + I 55 14 = I 103 16 := hr.2.2.2.1
  have h_dg : dgOk I 41 0 ∧ dgOk I 55 1 := hr.2.2.2.2.1
  have h_mq : (mqOk I 41 0 ∧ mqOk I 55 1) ∧ mrOk I := hr.2.2.2.2.2
  unfold pb_reach at p1
  unfold pk_reach at p2
  have hl := hj.l
  unfold cGal at hl
  have e0 : I2 110 = I 110 := f1.1 110 (by omega) (by omega)
  have e1 : I2 103 = I 103 := f1.1 103 (by omega) (by omega)
  have hc : ∀ G, bG v0 G → I G 13 = I 110 v0.toNatClampNeg := by
    rintro G (⟨q1, q2⟩ | ⟨q1, q2⟩)
    · rw [q1, q2, px_n0]; exact h_pA
    · rw [q1, q2, px_n1]; exact h_pB
  have e5 : I3 41 = I2 41 := f2.1 41 (by omega)
  have e6 : I3 55 = I2 55 := f2.1 55 (by omega)
  rcases p1.2 with ⟨G, ⟨g1, g2, g3⟩, a2, a3⟩ | ⟨a1, a2, a3⟩
  · have c := hc G g1
    have m : mP0 I2 v0 = if I G 13 = 0 then 1 else I G 13 := by unfold mP0; rw [e0, c]
    rcases p2.2 with ⟨b1, b2, b3⟩ | ⟨b1, b2, b3⟩
    · refine ⟨by rw [a2, b2, m], ?_⟩
      rw [e5, e6, b3]
      rcases g1 with ⟨q1, q2⟩ | ⟨q1, q2⟩
      · subst q1; subst q2
        have k1 := @mReach_p I2 0 v1 v2 v3 v4 v5 v6
        rw [px_n0] at k1
        rw [k1, mReach_q (by decide), e0, m, a3, cReach_p, cReach_o (by omega)]
        exact ⟨rfl, h_pB⟩
      · subst q1; subst q2
        have k1 := @mReach_p I2 1 v1 v2 v3 v4 v5 v6
        rw [px_n1] at k1
        rw [k1, mReach_q (by decide), e0, m, a3, cReach_p, cReach_o (by omega)]
        exact ⟨h_pA, rfl⟩
    · refine absurd ?_ b1
      obtain ⟨r1, r2, r3, r4⟩ := g3
      refine ⟨bG_le g1, ⟨r1.1, by grind⟩, r1.2, ⟨r2.1, by grind⟩, r2.2, r3, ?_, ?_⟩
      · rw [e1, ← h_st]
        rcases g2 with h | h
        · exact Or.inl h
        · exact Or.inr ⟨h.1, by have s := hj.s; unfold cSt at s; grind⟩
      · rw [e0, ← c]; intro h; rw [h] at r4; exact absurd r4 (by decide)
  · rcases p2.2 with ⟨b1, b2, b3⟩ | ⟨b1, b2, b3⟩
    · refine absurd ?_ a1
      obtain ⟨r0, r1, r2, r3, r4, r5, r6, r7⟩ := b1
      obtain ⟨G, g1⟩ := bG_01 r0.1 r0.2
      have c := hc G g1
      rw [e0, ← c] at r7
      refine ⟨G, g1, ?_, ⟨r1.1, r2⟩, ⟨r3.1, r4⟩, r5, ?_⟩
      · rw [e1, ← h_st] at r6
        rcases r6 with h | h
        · exact Or.inl h
        · exact Or.inr ⟨h.1, by have s := hj.s; unfold cSt at s; grind⟩
      · have : I G 13 ≤ 20 := by rcases g1 with ⟨q1, q2⟩ | ⟨q1, q2⟩ <;> rw [q2] <;> first | exact hl.1.1.2 | exact hl.2.1.2
        grind
    · refine ⟨by rw [a2, b2], ?_⟩
      rw [e5, e6, b3, e0, a3]
      exact ⟨h_pA, h_pB⟩

theorem relq_reach_1 {v0 v1 v2 v3 v4 v5 v6 : Int32} {x y : Int32} {n : Nat} {I I2 I3 : px_I} {L L2 L3 : px_L} {R : px_R} (hj : jJ n I R) (hr : rel I L) (f1 : frB I I2 L L2) (p1 : pb_reach v0 v1 v2 v3 v4 v5 v6 I L x I2 L2) (f2 : frK I2 I3 L2 L3) (p2 : pk_reach v0 v1 v2 v3 v4 v5 v6 I2 L2 y I3 L3) : (dgOk I3 41 0 ∧ dgOk I3 55 1) := by
  have h_st : I 33 7 = I 103 1 := hr.1
  have h_pA : I 41 13 = I 110 0 := hr.2.1
  have h_pB : I 55 13 = I 110 1 := hr.2.2.1
  have h_mk : I 41 14 + I 55 14 = I 103 16 := hr.2.2.2.1
  have h_dg : dgOk I 41 0 ∧ dgOk I 55 1 := hr.2.2.2.2.1
  have h_mq : (mqOk I 41 0 ∧ mqOk I 55 1) ∧ mrOk I := hr.2.2.2.2.2
  have hxy := (relq_reach hj hr f1 p1 f2 p2).1
  unfold pb_reach at p1
  unfold pk_reach at p2
  have hl := hj.l
  unfold cGal at hl
  have cb : ∀ b, b < 103 → I3 b = I2 b := fun b hb => f2.1 b (Or.inl hb)
  have cr : ∀ b, 103 ≤ b → b < 147 → I2 b = I b := f1.1
  have e0 : I2 110 = I 110 := cr 110 (by omega) (by omega)
  have e11 : I2 111 = I 111 := cr 111 (by omega) (by omega)
  have e12 : I2 112 = I 112 := cr 112 (by omega) (by omega)
  have e13 : I2 113 = I 113 := cr 113 (by omega) (by omega)
  have e14 : I2 114 = I 114 := cr 114 (by omega) (by omega)
  rcases p1.2 with ⟨G, ⟨g1, g2, g3⟩, a2, a3⟩ | ⟨a1, a2, a3⟩
  · rcases p2.2 with ⟨b1, b2, b3⟩ | ⟨b1, b2, b3⟩
    · obtain ⟨r1, r2, r3, r4⟩ := g3
      rcases g1 with ⟨q1, q2⟩ | ⟨q1, q2⟩
      · subst q1; subst q2
        have m : mP0 I2 0 = if I 41 13 = 0 then 1 else I 41 13 := by unfold mP0; rw [e0, px_n0, ← h_pA]
        have c : I3 41 13 = (if I 41 13 = 0 then 1 else I 41 13) + 1 := by rw [cb 41 (by omega), a3]; exact cReach_p
        have c2 : I3 55 13 = I 55 13 := by rw [cb 55 (by omega), a3, cReach_o (b := 55) (by omega)]
        obtain ⟨hP, hP2⟩ := px_P hl.1.1.1
        show dgF (I3 45) (I3 46) (I3 111) (I3 112) (I3 113) (I3 114) (20 * 0) (I3 41 13) ∧ dgF (I3 59) (I3 60) (I3 111) (I3 112) (I3 113) (I3 114) (20 * 1) (I3 55 13)
        rw [c, c2, cb 59 (by omega), cb 60 (by omega), cb 45 (by omega), cb 46 (by omega), a3, cReach_o (b := 59) (by omega), cReach_o (b := 60) (by omega), ← a3]
        exact ⟨dg_new (off := 20 * 0) h_dg.1 (Or.inl (by decide)) hP ⟨hl.1.1.1, r4⟩ r1 r2 (fun k => by rw [a3]; exact cReach_4) (fun k => by rw [a3]; exact cReach_5) (fun k => by rw [b3, mReach_1, m, e11]) (fun k => by rw [b3, mReach_2, m, e12]) (fun k => by rw [b3, mReach_3, m, e13]) (fun k => by rw [b3, mReach_4, m, e14]), dg_old (off := 20 * 1) (o2 := 20 * 0) h_dg.2 (Or.inr ⟨by decide, by decide⟩) (hP2 r4) hl.2.1 (fun k => by rw [b3, mReach_1, m, e11]) (fun k => by rw [b3, mReach_2, m, e12]) (fun k => by rw [b3, mReach_3, m, e13]) (fun k => by rw [b3, mReach_4, m, e14])⟩
      · subst q1; subst q2
        have m : mP0 I2 1 = if I 55 13 = 0 then 1 else I 55 13 := by unfold mP0; rw [e0, px_n1, ← h_pB]
        have c : I3 55 13 = (if I 55 13 = 0 then 1 else I 55 13) + 1 := by rw [cb 55 (by omega), a3]; exact cReach_p
        have c2 : I3 41 13 = I 41 13 := by rw [cb 41 (by omega), a3, cReach_o (b := 41) (by omega)]
        obtain ⟨hP, hP2⟩ := px_P hl.2.1.1
        show dgF (I3 45) (I3 46) (I3 111) (I3 112) (I3 113) (I3 114) (20 * 0) (I3 41 13) ∧ dgF (I3 59) (I3 60) (I3 111) (I3 112) (I3 113) (I3 114) (20 * 1) (I3 55 13)
        rw [c, c2, cb 59 (by omega), cb 60 (by omega), cb 45 (by omega), cb 46 (by omega), a3, cReach_o (b := 45) (by omega), cReach_o (b := 46) (by omega), ← a3]
        exact ⟨dg_old (off := 20 * 0) (o2 := 20 * 1) h_dg.1 (Or.inl ⟨by decide, by decide⟩) (hP2 r4) hl.1.1 (fun k => by rw [b3, mReach_1, m, e11]) (fun k => by rw [b3, mReach_2, m, e12]) (fun k => by rw [b3, mReach_3, m, e13]) (fun k => by rw [b3, mReach_4, m, e14]), dg_new (off := 20 * 1) h_dg.2 (Or.inr (by decide)) hP ⟨hl.2.1.1, r4⟩ r1 r2 (fun k => by rw [a3]; exact cReach_4) (fun k => by rw [a3]; exact cReach_5) (fun k => by rw [b3, mReach_1, m, e11]) (fun k => by rw [b3, mReach_2, m, e12]) (fun k => by rw [b3, mReach_3, m, e13]) (fun k => by rw [b3, mReach_4, m, e14])⟩
    · exfalso
      rw [hxy, b2] at a2
      have : 0 ≤ I G 13 := by rcases g1 with ⟨q1, q2⟩ | ⟨q1, q2⟩ <;> rw [q2] <;> first | exact hl.1.1.1 | exact hl.2.1.1
      by_cases z : I G 13 = 0
      · rw [if_pos z] at a2; exact absurd a2 (by decide)
      · rw [if_neg z] at a2; rw [← a2] at this; exact absurd this (by decide)
  · rcases p2.2 with ⟨b1, b2, b3⟩ | ⟨b1, b2, b3⟩
    · exfalso
      rw [← hxy, a2] at b2
      obtain ⟨r0, r1, r2, r3, r4, r5, r6, r7⟩ := b1
      unfold mP0 at b2
      obtain ⟨G, g1⟩ := bG_01 r0.1 r0.2
      have c : I G 13 = I 110 v0.toNatClampNeg := by
        rcases g1 with ⟨q1, q2⟩ | ⟨q1, q2⟩
        · rw [q1, q2, px_n0]; exact h_pA
        · rw [q1, q2, px_n1]; exact h_pB
      rw [e0, ← c] at b2
      have : 0 ≤ I G 13 := by rcases g1 with ⟨q1, q2⟩ | ⟨q1, q2⟩ <;> rw [q2] <;> first | exact hl.1.1.1 | exact hl.2.1.1
      by_cases z : I G 13 = 0
      · rw [if_pos z] at b2; exact absurd b2 (by decide)
      · rw [if_neg z] at b2; rw [← b2] at this; exact absurd this (by decide)
    · have e : ∀ b, I3 b = I b := fun b => by rw [b3, a3]
      exact dg_eq (by rw [e 41]) (by rw [e 55]) (e 45) (e 46) (e 59) (e 60) (e 111) (e 112) (e 113) (e 114) h_dg

theorem relq_reach_2 {v0 v1 v2 v3 v4 v5 v6 : Int32} {x y : Int32} {n : Nat} {I I2 I3 : px_I} {L L2 L3 : px_L} {R : px_R} (hj : jJ n I R) (hr : rel I L) (f1 : frB I I2 L L2) (p1 : pb_reach v0 v1 v2 v3 v4 v5 v6 I L x I2 L2) (f2 : frK I2 I3 L2 L3) (p2 : pk_reach v0 v1 v2 v3 v4 v5 v6 I2 L2 y I3 L3) : ((mqOk I3 41 0 ∧ mqOk I3 55 1) ∧ mrOk I3) := by
  have h_st : I 33 7 = I 103 1 := hr.1
  have h_pA : I 41 13 = I 110 0 := hr.2.1
  have h_pB : I 55 13 = I 110 1 := hr.2.2.1
  have h_mk : I 41 14 + I 55 14 = I 103 16 := hr.2.2.2.1
  have h_dg : dgOk I 41 0 ∧ dgOk I 55 1 := hr.2.2.2.2.1
  have h_mq : (mqOk I 41 0 ∧ mqOk I 55 1) ∧ mrOk I := hr.2.2.2.2.2
  have hxy := (relq_reach hj hr f1 p1 f2 p2).1
  unfold pb_reach at p1
  unfold pk_reach at p2
  have hl := hj.l
  unfold cGal at hl
  have cb : ∀ b, b < 103 → I3 b = I2 b := fun b hb => f2.1 b (Or.inl hb)
  have cr : ∀ b, 103 ≤ b → b < 147 → I2 b = I b := f1.1
  have e0 : I2 110 = I 110 := cr 110 (by omega) (by omega)
  have e11 : I2 111 = I 111 := cr 111 (by omega) (by omega)
  have e12 : I2 112 = I 112 := cr 112 (by omega) (by omega)
  have e13 : I2 113 = I 113 := cr 113 (by omega) (by omega)
  have e14 : I2 114 = I 114 := cr 114 (by omega) (by omega)
  rcases p1.2 with ⟨G, ⟨g1, g2, g3⟩, a2, a3⟩ | ⟨a1, a2, a3⟩
  · rcases p2.2 with ⟨b1, b2, b3⟩ | ⟨b1, b2, b3⟩
    · obtain ⟨r1, r2, r3, r4⟩ := g3
      rcases g1 with ⟨q1, q2⟩ | ⟨q1, q2⟩
      · subst q1; subst q2
        have m : mP0 I2 0 = if I 41 13 = 0 then 1 else I 41 13 := by unfold mP0; rw [e0, px_n0, ← h_pA]
        have c : I3 41 13 = (if I 41 13 = 0 then 1 else I 41 13) + 1 := by rw [cb 41 (by omega), a3]; exact cReach_p
        have c2 : I3 55 13 = I 55 13 := by rw [cb 55 (by omega), a3, cReach_o (b := 55) (by omega)]
        obtain ⟨hP, hP2⟩ := px_P hl.1.1.1
        have km : ∀ b, 117 ≤ b ∧ b ≤ 120 ∨ b = 103 → I3 b = I b := fun b hb => by rw [b3, mReach_o (by omega), cr b (by omega) (by omega)]
        have hM := hj.m.2.2.2.1
        have pg : ∀ k, k < (I 103 16).toNatClampNeg → ∀ gg, I 117 k = gg → I 118 k < I 110 gg.toNatClampNeg := fun k hk gg h1 => by
          obtain ⟨o1, o2, o3, -⟩ := px_on ⟨hM.1.1, hM.1.2⟩ hk
          have mm := hM.2 (Int32.ofNat k) o2 o3
          rw [o1, h1] at mm
          exact mm.2.2
        show (mqF (I3 48) (I3 49) (I3 117) (I3 118) (I3 119) (I3 120) 0 (I3 103 16).toNatClampNeg (I3 41 13) ∧ mqF (I3 62) (I3 63) (I3 117) (I3 118) (I3 119) (I3 120) 1 (I3 103 16).toNatClampNeg (I3 55 13)) ∧ (∀ k, k < (I3 103 16).toNatClampNeg → (0 ≤ (I3 119 k).toInt ∧ (I3 119 k).toInt ≤ 20000) ∧ (0 ≤ (I3 120 k).toInt ∧ (I3 120 k).toInt ≤ 20000))
        rw [c, c2, km 103 (by omega), km 117 (by omega), km 118 (by omega), km 119 (by omega), km 120 (by omega), cb 62 (by omega), cb 63 (by omega), cb 48 (by omega), cb 49 (by omega), a3, cReach_o (b := 62) (by omega), cReach_o (b := 63) (by omega), ← a3]
        exact ⟨⟨mq_new h_mq.1.1 hP ⟨hl.1.1.1, r4⟩ (fun k hk h1 => by have z := pg k hk 0 h1; rw [px_n0, ← h_pA] at z; exact z) (fun k => by rw [a3]; exact cReach_7) (fun k => by rw [a3]; exact cReach_8), h_mq.1.2⟩, h_mq.2⟩
      · subst q1; subst q2
        have m : mP0 I2 1 = if I 55 13 = 0 then 1 else I 55 13 := by unfold mP0; rw [e0, px_n1, ← h_pB]
        have c : I3 55 13 = (if I 55 13 = 0 then 1 else I 55 13) + 1 := by rw [cb 55 (by omega), a3]; exact cReach_p
        have c2 : I3 41 13 = I 41 13 := by rw [cb 41 (by omega), a3, cReach_o (b := 41) (by omega)]
        obtain ⟨hP, hP2⟩ := px_P hl.2.1.1
        have km : ∀ b, 117 ≤ b ∧ b ≤ 120 ∨ b = 103 → I3 b = I b := fun b hb => by rw [b3, mReach_o (by omega), cr b (by omega) (by omega)]
        have hM := hj.m.2.2.2.1
        have pg : ∀ k, k < (I 103 16).toNatClampNeg → ∀ gg, I 117 k = gg → I 118 k < I 110 gg.toNatClampNeg := fun k hk gg h1 => by
          obtain ⟨o1, o2, o3, -⟩ := px_on ⟨hM.1.1, hM.1.2⟩ hk
          have mm := hM.2 (Int32.ofNat k) o2 o3
          rw [o1, h1] at mm
          exact mm.2.2
        show (mqF (I3 48) (I3 49) (I3 117) (I3 118) (I3 119) (I3 120) 0 (I3 103 16).toNatClampNeg (I3 41 13) ∧ mqF (I3 62) (I3 63) (I3 117) (I3 118) (I3 119) (I3 120) 1 (I3 103 16).toNatClampNeg (I3 55 13)) ∧ (∀ k, k < (I3 103 16).toNatClampNeg → (0 ≤ (I3 119 k).toInt ∧ (I3 119 k).toInt ≤ 20000) ∧ (0 ≤ (I3 120 k).toInt ∧ (I3 120 k).toInt ≤ 20000))
        rw [c, c2, km 103 (by omega), km 117 (by omega), km 118 (by omega), km 119 (by omega), km 120 (by omega), cb 62 (by omega), cb 63 (by omega), cb 48 (by omega), cb 49 (by omega), a3, cReach_o (b := 48) (by omega), cReach_o (b := 49) (by omega), ← a3]
        exact ⟨⟨h_mq.1.1, mq_new h_mq.1.2 hP ⟨hl.2.1.1, r4⟩ (fun k hk h1 => by have z := pg k hk 1 h1; rw [px_n1, ← h_pB] at z; exact z) (fun k => by rw [a3]; exact cReach_7) (fun k => by rw [a3]; exact cReach_8)⟩, h_mq.2⟩
    · exfalso
      rw [hxy, b2] at a2
      have : 0 ≤ I G 13 := by rcases g1 with ⟨q1, q2⟩ | ⟨q1, q2⟩ <;> rw [q2] <;> first | exact hl.1.1.1 | exact hl.2.1.1
      by_cases z : I G 13 = 0
      · rw [if_pos z] at a2; exact absurd a2 (by decide)
      · rw [if_neg z] at a2; rw [← a2] at this; exact absurd this (by decide)
  · rcases p2.2 with ⟨b1, b2, b3⟩ | ⟨b1, b2, b3⟩
    · exfalso
      rw [← hxy, a2] at b2
      obtain ⟨r0, r1, r2, r3, r4, r5, r6, r7⟩ := b1
      unfold mP0 at b2
      obtain ⟨G, g1⟩ := bG_01 r0.1 r0.2
      have c : I G 13 = I 110 v0.toNatClampNeg := by
        rcases g1 with ⟨q1, q2⟩ | ⟨q1, q2⟩
        · rw [q1, q2, px_n0]; exact h_pA
        · rw [q1, q2, px_n1]; exact h_pB
      rw [e0, ← c] at b2
      have : 0 ≤ I G 13 := by rcases g1 with ⟨q1, q2⟩ | ⟨q1, q2⟩ <;> rw [q2] <;> first | exact hl.1.1.1 | exact hl.2.1.1
      by_cases z : I G 13 = 0
      · rw [if_pos z] at b2; exact absurd b2 (by decide)
      · rw [if_neg z] at b2; rw [← b2] at this; exact absurd this (by decide)
    · have e : ∀ b, I3 b = I b := fun b => by rw [b3, a3]
      exact mq_eq (by rw [e 41]) (by rw [e 55]) (e 48) (e 49) (e 62) (e 63) (by rw [e 103]) (e 117) (e 118) (e 119) (e 120) h_mq

theorem rel.reach {v0 v1 v2 v3 v4 v5 v6 : Int32} {x y : Int32} {n : Nat} {I I2 I3 : px_I} {L L2 L3 : px_L} {R : px_R} (hj : jJ n I R) (hr : rel I L) (f1 : frB I I2 L L2) (p1 : pb_reach v0 v1 v2 v3 v4 v5 v6 I L x I2 L2) (f2 : frK I2 I3 L2 L3) (p2 : pk_reach v0 v1 v2 v3 v4 v5 v6 I2 L2 y I3 L3) : rel I3 L3 := by
  have hq0 := (relq_reach hj hr f1 p1 f2 p2).2
  have hq1 := relq_reach_1 hj hr f1 p1 f2 p2
  have hq2 := relq_reach_2 hj hr f1 p1 f2 p2
  have f_33_7 : I3 33 7 = I 33 7 := by rw [f2.1 33 (by omega), eb_reach_33_7 p1]
  have f_103_1 : I3 103 1 = I 103 1 := by rw [ek_reach_103_1 p2, f1.1 103 (by omega) (by omega)]
  have f_41_14 : I3 41 14 = I 41 14 := by rw [f2.1 41 (by omega), eb_reach_41_14 p1]
  have f_55_14 : I3 55 14 = I 55 14 := by rw [f2.1 55 (by omega), eb_reach_55_14 p1]
  have f_103_16 : I3 103 16 = I 103 16 := by rw [ek_reach_103_16 p2, f1.1 103 (by omega) (by omega)]
  exact ⟨(by rw [f_33_7, f_103_1]; exact hr.1), hq0.1, hq0.2, (by rw [f_41_14, f_55_14, f_103_16]; exact hr.2.2.2.1), hq1, hq2⟩

theorem rel.mouth {v0 v1 : Int32} {x y : Int32} {n : Nat} {I I2 I3 : px_I} {L L2 L3 : px_L} {R : px_R} (hj : jJ n I R) (hr : rel I L) (f1 : frB I I2 L L2) (p1 : pb_mouth v0 v1 I L x I2 L2) (f2 : frK I2 I3 L2 L3) (p2 : pk_mouth v0 v1 I2 L2 y I3 L3) : rel I3 L3 := by
  have f_33_7 : I3 33 7 = I 33 7 := by rw [f2.1 33 (by omega), eb_mouth_33_7 p1]
  have f_103_1 : I3 103 1 = I 103 1 := by rw [ek_mouth_103_1 p2, f1.1 103 (by omega) (by omega)]
  have f_41_13 : I3 41 13 = I 41 13 := by rw [f2.1 41 (by omega), eb_mouth_41_13 p1]
  have f_110_0 : I3 110 0 = I 110 0 := by rw [ek_mouth_110_0 p2, f1.1 110 (by omega) (by omega)]
  have f_55_13 : I3 55 13 = I 55 13 := by rw [f2.1 55 (by omega), eb_mouth_55_13 p1]
  have f_110_1 : I3 110 1 = I 110 1 := by rw [ek_mouth_110_1 p2, f1.1 110 (by omega) (by omega)]
  have f_41_14 : I3 41 14 = I 41 14 := by rw [f2.1 41 (by omega), eb_mouth_41_14 p1]
  have f_55_14 : I3 55 14 = I 55 14 := by rw [f2.1 55 (by omega), eb_mouth_55_14 p1]
  have f_103_16 : I3 103 16 = I 103 16 := by rw [ek_mouth_103_16 p2, f1.1 103 (by omega) (by omega)]
  have f_45_r : I3 45 = I 45 := by rw [f2.1 45 (by omega), eb_mouth_45_r p1]
  have f_46_r : I3 46 = I 46 := by rw [f2.1 46 (by omega), eb_mouth_46_r p1]
  have f_59_r : I3 59 = I 59 := by rw [f2.1 59 (by omega), eb_mouth_59_r p1]
  have f_60_r : I3 60 = I 60 := by rw [f2.1 60 (by omega), eb_mouth_60_r p1]
  have f_111_r : I3 111 = I 111 := by rw [ek_mouth_111_r p2, f1.1 111 (by omega) (by omega)]
  have f_112_r : I3 112 = I 112 := by rw [ek_mouth_112_r p2, f1.1 112 (by omega) (by omega)]
  have f_113_r : I3 113 = I 113 := by rw [ek_mouth_113_r p2, f1.1 113 (by omega) (by omega)]
  have f_114_r : I3 114 = I 114 := by rw [ek_mouth_114_r p2, f1.1 114 (by omega) (by omega)]
  have f_48_r : I3 48 = I 48 := by rw [f2.1 48 (by omega), eb_mouth_48_r p1]
  have f_49_r : I3 49 = I 49 := by rw [f2.1 49 (by omega), eb_mouth_49_r p1]
  have f_62_r : I3 62 = I 62 := by rw [f2.1 62 (by omega), eb_mouth_62_r p1]
  have f_63_r : I3 63 = I 63 := by rw [f2.1 63 (by omega), eb_mouth_63_r p1]
  have f_117_r : I3 117 = I 117 := by rw [ek_mouth_117_r p2, f1.1 117 (by omega) (by omega)]
  have f_118_r : I3 118 = I 118 := by rw [ek_mouth_118_r p2, f1.1 118 (by omega) (by omega)]
  have f_119_r : I3 119 = I 119 := by rw [ek_mouth_119_r p2, f1.1 119 (by omega) (by omega)]
  have f_120_r : I3 120 = I 120 := by rw [ek_mouth_120_r p2, f1.1 120 (by omega) (by omega)]
  exact ⟨(by rw [f_33_7, f_103_1]; exact hr.1), (by rw [f_41_13, f_110_0]; exact hr.2.1), (by rw [f_55_13, f_110_1]; exact hr.2.2.1), (by rw [f_41_14, f_55_14, f_103_16]; exact hr.2.2.2.1), (dg_eq f_41_13 f_55_13 f_45_r f_46_r f_59_r f_60_r f_111_r f_112_r f_113_r f_114_r hr.2.2.2.2.1), (mq_eq f_41_13 f_55_13 f_48_r f_49_r f_62_r f_63_r f_103_16 f_117_r f_118_r f_119_r f_120_r hr.2.2.2.2.2)⟩

theorem relq_mark {v0 v1 v2 v3 : Int32} {x y : Int32} {n : Nat} {I I2 I3 : px_I} {L L2 L3 : px_L} {R : px_R} (hj : jJ n I R) (hr : rel I L) (f1 : frB I I2 L L2) (p1 : pb_mark v0 v1 v2 v3 I L x I2 L2) (f2 : frK I2 I3 L2 L3) (p2 : pk_mark v0 v1 v2 v3 I2 L2 y I3 L3) : x = y ∧ (I3 41 14 + I3 55 14 = I3 103 16) := by
  have h_st : I 33 7 = I 103 1 := hr.1
  have h_pA : I 41 13 = I 110 0 := hr.2.1
  have h_pB : I 55 13 = I 110 1 := hr.2.2.1
  have h_mk : I 41 14 + I 55 14 = I 103 16 := hr.2.2.2.1
  have h_dg : dgOk I 41 0 ∧ dgOk I 55 1 := hr.2.2.2.2.1
  have h_mq : (mqOk I 41 0 ∧ mqOk I 55 1) ∧ mrOk I := hr.2.2.2.2.2
  unfold pb_mark at p1
  unfold pk_mark at p2
  have hl := hj.l
  unfold cGal at hl
  have e0 : I2 110 = I 110 := f1.1 110 (by omega) (by omega)
  have e1 : I2 103 = I 103 := f1.1 103 (by omega) (by omega)
  have hc : ∀ G, bG v0 G → I G 13 = I 110 v0.toNatClampNeg := by
    rintro G (⟨q1, q2⟩ | ⟨q1, q2⟩)
    · rw [q1, q2, px_n0]; exact h_pA
    · rw [q1, q2, px_n1]; exact h_pB
  have hm := hj.m.2.2.2.1.1
  have e5 : I3 41 = I2 41 := f2.1 41 (by omega)
  have e6 : I3 55 = I2 55 := f2.1 55 (by omega)
  rcases p1.2 with ⟨G, ⟨g1, g2, g3, g4⟩, a2, a3⟩ | ⟨a1, a2, a3⟩
  · have c := hc G g1
    rcases p2.2 with ⟨b1, b2, b3⟩ | ⟨b1, b2, b3⟩
    · refine ⟨by rw [a2, b2, e1, ← h_mk], ?_⟩
      have k : I3 103 16 = I 103 16 + 1 := by rw [b3]; unfold mMark; rw [px_u_at, e1]
      rw [k, e5, e6, ← h_mk, a3]
      rcases g1 with ⟨q1, q2⟩ | ⟨q1, q2⟩
      · rw [q2]; unfold cMark; rw [px_u_at, px_u_ne (by omega), px_u_ne (by omega), px_u_ne (by omega)]; grind
      · rw [q2]; unfold cMark; rw [px_u_at, px_u_ne (by omega), px_u_ne (by omega), px_u_ne (by omega)]; grind
    · refine absurd ?_ b1
      unfold mPegOk
      rw [e0, e1, ← c, ← h_mk]
      exact ⟨⟨(bG_le g1).1, (bG_le g1).2, g3.1, by grind⟩, ⟨g4.1, by grind⟩, g4.2, by grind⟩
  · rcases p2.2 with ⟨b1, b2, b3⟩ | ⟨b1, b2, b3⟩
    · refine absurd ?_ a1
      obtain ⟨r0, r1, r2, r3⟩ := b1
      unfold mPegOk at r0
      obtain ⟨G, g1⟩ := bG_01 r0.1 r0.2.1
      have c := hc G g1
      rw [e0, ← c] at r0
      rw [e1] at r3
      have : 0 ≤ I G 13 := by rcases g1 with ⟨q1, q2⟩ | ⟨q1, q2⟩ <;> rw [q2] <;> first | exact hl.1.1.1 | exact hl.2.1.1
      exact ⟨G, g1, by grind, ⟨r0.2.2.1, by grind⟩, ⟨r1.1, r2⟩⟩
    · refine ⟨by rw [a2, b2], ?_⟩
      rw [e5, e6, b3, e1, a3]
      exact h_mk

theorem relq_mark_1 {v0 v1 v2 v3 : Int32} {x y : Int32} {n : Nat} {I I2 I3 : px_I} {L L2 L3 : px_L} {R : px_R} (hj : jJ n I R) (hr : rel I L) (f1 : frB I I2 L L2) (p1 : pb_mark v0 v1 v2 v3 I L x I2 L2) (f2 : frK I2 I3 L2 L3) (p2 : pk_mark v0 v1 v2 v3 I2 L2 y I3 L3) : ((mqOk I3 41 0 ∧ mqOk I3 55 1) ∧ mrOk I3) := by
  have h_st : I 33 7 = I 103 1 := hr.1
  have h_pA : I 41 13 = I 110 0 := hr.2.1
  have h_pB : I 55 13 = I 110 1 := hr.2.2.1
  have h_mk : I 41 14 + I 55 14 = I 103 16 := hr.2.2.2.1
  have h_dg : dgOk I 41 0 ∧ dgOk I 55 1 := hr.2.2.2.2.1
  have h_mq : (mqOk I 41 0 ∧ mqOk I 55 1) ∧ mrOk I := hr.2.2.2.2.2
  have hxy := (relq_mark hj hr f1 p1 f2 p2).1
  unfold pb_mark at p1
  unfold pk_mark at p2
  have hl := hj.l
  unfold cGal at hl
  have cb : ∀ b, b < 103 → I3 b = I2 b := fun b hb => f2.1 b (Or.inl hb)
  have cr : ∀ b, 103 ≤ b → b < 147 → I2 b = I b := f1.1
  have hM := hj.m.2.2.2.1
  rcases p1.2 with ⟨G, ⟨g1, g2, g3, g4⟩, a2, a3⟩ | ⟨a1, a2, a3⟩
  · rcases p2.2 with ⟨b1, b2, b3⟩ | ⟨b1, b2, b3⟩
    · have e16 : I2 103 16 = I 103 16 := by rw [cr 103 (by omega) (by omega)]
      have nM : (I 103 16 + 1).toNatClampNeg = (I 103 16).toNatClampNeg + 1 := (px_tnS hM.1.1 (by grind)).1
      have k16 : I3 103 16 = I 103 16 + 1 := by rw [b3]; unfold mMark; rw [px_u_at, e16]
      have k117 : ∀ k, I3 117 k = if k = (I 103 16).toNatClampNeg then v0 else I 117 k := fun k => by rw [b3]; unfold mMark; rw [e16, ← cr 117 (by omega) (by omega)]; simp [px_ur]
      have k118 : ∀ k, I3 118 k = if k = (I 103 16).toNatClampNeg then v1 else I 118 k := fun k => by rw [b3]; unfold mMark; rw [e16, ← cr 118 (by omega) (by omega)]; simp [px_ur]
      have k119 : ∀ k, I3 119 k = if k = (I 103 16).toNatClampNeg then v2 else I 119 k := fun k => by rw [b3]; unfold mMark; rw [e16, ← cr 119 (by omega) (by omega)]; simp [px_ur]
      have k120 : ∀ k, I3 120 k = if k = (I 103 16).toNatClampNeg then v3 else I 120 k := fun k => by rw [b3]; unfold mMark; rw [e16, ← cr 120 (by omega) (by omega)]; simp [px_ur]
      have f1 := Int32.le_iff_toInt_le.mp g4.1
      have f2 := Int32.le_iff_toInt_le.mp g4.2.1
      have f3 := Int32.le_iff_toInt_le.mp g4.2.2
      rw [show (0 : Int32).toInt = 0 by decide] at f1
      rw [show (20000 : Int32).toInt = 20000 by decide] at f3
      have mr : ∀ k, k < (I 103 16).toNatClampNeg + 1 → (0 ≤ (I3 119 k).toInt ∧ (I3 119 k).toInt ≤ 20000) ∧ (0 ≤ (I3 120 k).toInt ∧ (I3 120 k).toInt ≤ 20000) := fun k hk => by
        rw [k119, k120]
        by_cases c : k = (I 103 16).toNatClampNeg
        · rw [if_pos c, if_pos c]; omega
        · rw [if_neg c, if_neg c]; exact h_mq.2 k (by omega)
      rcases g1 with ⟨q1, q2⟩ | ⟨q1, q2⟩
      · subst q1; subst q2
        have c : I3 41 13 = I 41 13 := by rw [cb 41 (by omega), a3]; unfold cMark; rw [px_u_at_ne (by decide), px_u_ne (by omega), px_u_ne (by omega)]
        have c2 : I3 55 13 = I 55 13 := by rw [cb 55 (by omega), a3]; unfold cMark; rw [px_u_ne (by omega), px_u_ne (by omega), px_u_ne (by omega)]
        have r1 : ∀ k, I3 48 k = if (0 : Int32) = 0 ∧ k = v1.toNatClampNeg then cMx (I 48 k) v2 else I 48 k := fun k => by rw [cb 48 (by omega), a3]; unfold cMark; by_cases e : k = v1.toNatClampNeg <;> simp [px_ur, e]
        have r2 : ∀ k, I3 49 k = if (0 : Int32) = 0 ∧ k = v1.toNatClampNeg then cMn (I 49 k) v3 else I 49 k := fun k => by rw [cb 49 (by omega), a3]; unfold cMark; by_cases e : k = v1.toNatClampNeg <;> simp [px_ur, e]
        have r3 : ∀ k, I3 62 k = if (1 : Int32) = 0 ∧ k = v1.toNatClampNeg then cMx (I 62 k) v2 else I 62 k := fun k => by rw [if_neg (fun q => absurd q.1 (by decide)), cb 62 (by omega), a3]; unfold cMark; simp [px_ur]
        have r4 : ∀ k, I3 63 k = if (1 : Int32) = 0 ∧ k = v1.toNatClampNeg then cMn (I 63 k) v3 else I 63 k := fun k => by rw [if_neg (fun q => absurd q.1 (by decide)), cb 63 (by omega), a3]; unfold cMark; simp [px_ur]
        show (mqF (I3 48) (I3 49) (I3 117) (I3 118) (I3 119) (I3 120) 0 (I3 103 16).toNatClampNeg (I3 41 13) ∧ mqF (I3 62) (I3 63) (I3 117) (I3 118) (I3 119) (I3 120) 1 (I3 103 16).toNatClampNeg (I3 55 13)) ∧ (∀ k, k < (I3 103 16).toNatClampNeg → (0 ≤ (I3 119 k).toInt ∧ (I3 119 k).toInt ≤ 20000) ∧ (0 ≤ (I3 120 k).toInt ∧ (I3 120 k).toInt ≤ 20000))
        rw [c, c2, k16, nM]
        exact ⟨⟨mq_mark h_mq.1.1 g3.1 ⟨by omega, by omega⟩ ⟨by omega, by omega⟩ k117 k118 k119 k120 r1 r2, mq_mark h_mq.1.2 g3.1 ⟨by omega, by omega⟩ ⟨by omega, by omega⟩ k117 k118 k119 k120 r3 r4⟩, mr⟩
      · subst q1; subst q2
        have c : I3 41 13 = I 41 13 := by rw [cb 41 (by omega), a3]; unfold cMark; rw [px_u_ne (by omega), px_u_ne (by omega), px_u_ne (by omega)]
        have c2 : I3 55 13 = I 55 13 := by rw [cb 55 (by omega), a3]; unfold cMark; rw [px_u_at_ne (by decide), px_u_ne (by omega), px_u_ne (by omega)]
        have r1 : ∀ k, I3 48 k = if (0 : Int32) = 1 ∧ k = v1.toNatClampNeg then cMx (I 48 k) v2 else I 48 k := fun k => by rw [if_neg (fun q => absurd q.1 (by decide)), cb 48 (by omega), a3]; unfold cMark; simp [px_ur]
        have r2 : ∀ k, I3 49 k = if (0 : Int32) = 1 ∧ k = v1.toNatClampNeg then cMn (I 49 k) v3 else I 49 k := fun k => by rw [if_neg (fun q => absurd q.1 (by decide)), cb 49 (by omega), a3]; unfold cMark; simp [px_ur]
        have r3 : ∀ k, I3 62 k = if (1 : Int32) = 1 ∧ k = v1.toNatClampNeg then cMx (I 62 k) v2 else I 62 k := fun k => by rw [cb 62 (by omega), a3]; unfold cMark; by_cases e : k = v1.toNatClampNeg <;> simp [px_ur, e]
        have r4 : ∀ k, I3 63 k = if (1 : Int32) = 1 ∧ k = v1.toNatClampNeg then cMn (I 63 k) v3 else I 63 k := fun k => by rw [cb 63 (by omega), a3]; unfold cMark; by_cases e : k = v1.toNatClampNeg <;> simp [px_ur, e]
        show (mqF (I3 48) (I3 49) (I3 117) (I3 118) (I3 119) (I3 120) 0 (I3 103 16).toNatClampNeg (I3 41 13) ∧ mqF (I3 62) (I3 63) (I3 117) (I3 118) (I3 119) (I3 120) 1 (I3 103 16).toNatClampNeg (I3 55 13)) ∧ (∀ k, k < (I3 103 16).toNatClampNeg → (0 ≤ (I3 119 k).toInt ∧ (I3 119 k).toInt ≤ 20000) ∧ (0 ≤ (I3 120 k).toInt ∧ (I3 120 k).toInt ≤ 20000))
        rw [c, c2, k16, nM]
        exact ⟨⟨mq_mark h_mq.1.1 g3.1 ⟨by omega, by omega⟩ ⟨by omega, by omega⟩ k117 k118 k119 k120 r1 r2, mq_mark h_mq.1.2 g3.1 ⟨by omega, by omega⟩ ⟨by omega, by omega⟩ k117 k118 k119 k120 r3 r4⟩, mr⟩
    · exfalso
      rw [hxy, b2, h_mk] at a2
      have := hM.1.1
      grind
  · rcases p2.2 with ⟨b1, b2, b3⟩ | ⟨b1, b2, b3⟩
    · exfalso
      have e16 : I2 103 16 = I 103 16 := by rw [cr 103 (by omega) (by omega)]
      rw [← hxy, a2, e16] at b2
      have := hM.1.1
      grind
    · have e : ∀ b, I3 b = I b := fun b => by rw [b3, a3]
      exact mq_eq (by rw [e 41]) (by rw [e 55]) (e 48) (e 49) (e 62) (e 63) (by rw [e 103]) (e 117) (e 118) (e 119) (e 120) h_mq

theorem rel.mark {v0 v1 v2 v3 : Int32} {x y : Int32} {n : Nat} {I I2 I3 : px_I} {L L2 L3 : px_L} {R : px_R} (hj : jJ n I R) (hr : rel I L) (f1 : frB I I2 L L2) (p1 : pb_mark v0 v1 v2 v3 I L x I2 L2) (f2 : frK I2 I3 L2 L3) (p2 : pk_mark v0 v1 v2 v3 I2 L2 y I3 L3) : rel I3 L3 := by
  have hq0 := (relq_mark hj hr f1 p1 f2 p2).2
  have hq1 := relq_mark_1 hj hr f1 p1 f2 p2
  have f_33_7 : I3 33 7 = I 33 7 := by rw [f2.1 33 (by omega), eb_mark_33_7 p1]
  have f_103_1 : I3 103 1 = I 103 1 := by rw [ek_mark_103_1 p2, f1.1 103 (by omega) (by omega)]
  have f_41_13 : I3 41 13 = I 41 13 := by rw [f2.1 41 (by omega), eb_mark_41_13 p1]
  have f_110_0 : I3 110 0 = I 110 0 := by rw [ek_mark_110_0 p2, f1.1 110 (by omega) (by omega)]
  have f_55_13 : I3 55 13 = I 55 13 := by rw [f2.1 55 (by omega), eb_mark_55_13 p1]
  have f_110_1 : I3 110 1 = I 110 1 := by rw [ek_mark_110_1 p2, f1.1 110 (by omega) (by omega)]
  have f_45_r : I3 45 = I 45 := by rw [f2.1 45 (by omega), eb_mark_45_r p1]
  have f_46_r : I3 46 = I 46 := by rw [f2.1 46 (by omega), eb_mark_46_r p1]
  have f_59_r : I3 59 = I 59 := by rw [f2.1 59 (by omega), eb_mark_59_r p1]
  have f_60_r : I3 60 = I 60 := by rw [f2.1 60 (by omega), eb_mark_60_r p1]
  have f_111_r : I3 111 = I 111 := by rw [ek_mark_111_r p2, f1.1 111 (by omega) (by omega)]
  have f_112_r : I3 112 = I 112 := by rw [ek_mark_112_r p2, f1.1 112 (by omega) (by omega)]
  have f_113_r : I3 113 = I 113 := by rw [ek_mark_113_r p2, f1.1 113 (by omega) (by omega)]
  have f_114_r : I3 114 = I 114 := by rw [ek_mark_114_r p2, f1.1 114 (by omega) (by omega)]
  exact ⟨(by rw [f_33_7, f_103_1]; exact hr.1), (by rw [f_41_13, f_110_0]; exact hr.2.1), (by rw [f_55_13, f_110_1]; exact hr.2.2.1), hq0, (dg_eq f_41_13 f_55_13 f_45_r f_46_r f_59_r f_60_r f_111_r f_112_r f_113_r f_114_r hr.2.2.2.2.1), hq1⟩

theorem rel.when {v0 v1 v2 : Int32} {x y : Int32} {n : Nat} {I I2 I3 : px_I} {L L2 L3 : px_L} {R : px_R} (hj : jJ n I R) (hr : rel I L) (f1 : frB I I2 L L2) (p1 : pb_when v0 v1 v2 I L x I2 L2) (f2 : frK I2 I3 L2 L3) (p2 : pk_when v0 v1 v2 I2 L2 y I3 L3) : rel I3 L3 := by
  have f_33_7 : I3 33 7 = I 33 7 := by rw [f2.1 33 (by omega), eb_when_33_7 p1]
  have f_103_1 : I3 103 1 = I 103 1 := by rw [ek_when_103_1 p2, f1.1 103 (by omega) (by omega)]
  have f_41_13 : I3 41 13 = I 41 13 := by rw [f2.1 41 (by omega), eb_when_41_13 p1]
  have f_110_0 : I3 110 0 = I 110 0 := by rw [ek_when_110_0 p2, f1.1 110 (by omega) (by omega)]
  have f_55_13 : I3 55 13 = I 55 13 := by rw [f2.1 55 (by omega), eb_when_55_13 p1]
  have f_110_1 : I3 110 1 = I 110 1 := by rw [ek_when_110_1 p2, f1.1 110 (by omega) (by omega)]
  have f_41_14 : I3 41 14 = I 41 14 := by rw [f2.1 41 (by omega), eb_when_41_14 p1]
  have f_55_14 : I3 55 14 = I 55 14 := by rw [f2.1 55 (by omega), eb_when_55_14 p1]
  have f_103_16 : I3 103 16 = I 103 16 := by rw [ek_when_103_16 p2, f1.1 103 (by omega) (by omega)]
  have f_45_r : I3 45 = I 45 := by rw [f2.1 45 (by omega), eb_when_45_r p1]
  have f_46_r : I3 46 = I 46 := by rw [f2.1 46 (by omega), eb_when_46_r p1]
  have f_59_r : I3 59 = I 59 := by rw [f2.1 59 (by omega), eb_when_59_r p1]
  have f_60_r : I3 60 = I 60 := by rw [f2.1 60 (by omega), eb_when_60_r p1]
  have f_111_r : I3 111 = I 111 := by rw [ek_when_111_r p2, f1.1 111 (by omega) (by omega)]
  have f_112_r : I3 112 = I 112 := by rw [ek_when_112_r p2, f1.1 112 (by omega) (by omega)]
  have f_113_r : I3 113 = I 113 := by rw [ek_when_113_r p2, f1.1 113 (by omega) (by omega)]
  have f_114_r : I3 114 = I 114 := by rw [ek_when_114_r p2, f1.1 114 (by omega) (by omega)]
  have f_48_r : I3 48 = I 48 := by rw [f2.1 48 (by omega), eb_when_48_r p1]
  have f_49_r : I3 49 = I 49 := by rw [f2.1 49 (by omega), eb_when_49_r p1]
  have f_62_r : I3 62 = I 62 := by rw [f2.1 62 (by omega), eb_when_62_r p1]
  have f_63_r : I3 63 = I 63 := by rw [f2.1 63 (by omega), eb_when_63_r p1]
  have f_117_r : I3 117 = I 117 := by rw [ek_when_117_r p2, f1.1 117 (by omega) (by omega)]
  have f_118_r : I3 118 = I 118 := by rw [ek_when_118_r p2, f1.1 118 (by omega) (by omega)]
  have f_119_r : I3 119 = I 119 := by rw [ek_when_119_r p2, f1.1 119 (by omega) (by omega)]
  have f_120_r : I3 120 = I 120 := by rw [ek_when_120_r p2, f1.1 120 (by omega) (by omega)]
  exact ⟨(by rw [f_33_7, f_103_1]; exact hr.1), (by rw [f_41_13, f_110_0]; exact hr.2.1), (by rw [f_55_13, f_110_1]; exact hr.2.2.1), (by rw [f_41_14, f_55_14, f_103_16]; exact hr.2.2.2.1), (dg_eq f_41_13 f_55_13 f_45_r f_46_r f_59_r f_60_r f_111_r f_112_r f_113_r f_114_r hr.2.2.2.2.1), (mq_eq f_41_13 f_55_13 f_48_r f_49_r f_62_r f_63_r f_103_16 f_117_r f_118_r f_119_r f_120_r hr.2.2.2.2.2)⟩

theorem relq_between {v0 v1 v2 v3 : Int32} {x y : Int32} {n : Nat} {I I2 I3 : px_I} {L L2 L3 : px_L} {R : px_R} (hj : jJ n I R) (hr : rel I L) (f1 : frB I I2 L L2) (p1 : pbs_between v0 v1 v2 v3 I L x I2 L2) (f2 : frK I2 I3 L2 L3) (p2 : pks_between v0 v1 v2 v3 I2 L2 y I3 L3) : x = y := by
  have h_st : I 33 7 = I 103 1 := hr.1
  have h_pA : I 41 13 = I 110 0 := hr.2.1
  have h_pB : I 55 13 = I 110 1 := hr.2.2.1
  have h_mk : I 41 14 + I 55 14 = I 103 16 := hr.2.2.2.1
  have h_dg : dgOk I 41 0 ∧ dgOk I 55 1 := hr.2.2.2.2.1
  have h_mq : (mqOk I 41 0 ∧ mqOk I 55 1) ∧ mrOk I := hr.2.2.2.2.2
  unfold pbs_between at p1
  unfold pks_between at p2
  have hl := hj.l
  unfold cGal at hl
  have jx := jx_eq (I := I) (J := I2) f1.1 v0
  have p1 := p1.2.2
  have p2 := p2.2
  unfold qB2 at p1
  have hM := hj.m.2.2.2.1
  have p2 : qB3 I v0 v1 v2 v3 y := by
    unfold qB3 at p2 ⊢
    simp only [jx.1, jx.2.1, jx.2.2.1, jx.2.2.2] at p2
    exact p2
  rcases p1 with ⟨G, g1, p1⟩ | ⟨g1, e1⟩
  · rcases g1 with ⟨q1, q2⟩ | ⟨q1, q2⟩
    · subst q1; subst q2
      exact btw_eq hl.1.1 (by rw [px_n0]; exact h_pA) (by decide) h_dg.1 h_mq.1.1 h_mq.2 hM p1 p2
    · subst q1; subst q2
      exact btw_eq hl.2.1 (by rw [px_n1]; exact h_pB) (by decide) h_dg.2 h_mq.1.2 h_mq.2 hM p1 p2
  · unfold qB3 mPegOk at p2
    rw [e1]
    grind

theorem rel.between {v0 v1 v2 v3 : Int32} {x y : Int32} {n : Nat} {I I2 I3 : px_I} {L L2 L3 : px_L} {R : px_R} (hj : jJ n I R) (hr : rel I L) (f1 : frB I I2 L L2) (p1 : pbs_between v0 v1 v2 v3 I L x I2 L2) (f2 : frK I2 I3 L2 L3) (p2 : pks_between v0 v1 v2 v3 I2 L2 y I3 L3) : x = y ∧ rel I3 L3 := by
  have f_33_7 : I3 33 7 = I 33 7 := by rw [f2.1 33 (by omega), eb_between_33_7 (pbs_between.old p1)]
  have f_103_1 : I3 103 1 = I 103 1 := by rw [ek_between_103_1 (pks_between.old p2), f1.1 103 (by omega) (by omega)]
  have f_41_13 : I3 41 13 = I 41 13 := by rw [f2.1 41 (by omega), eb_between_41_13 (pbs_between.old p1)]
  have f_110_0 : I3 110 0 = I 110 0 := by rw [ek_between_110_0 (pks_between.old p2), f1.1 110 (by omega) (by omega)]
  have f_55_13 : I3 55 13 = I 55 13 := by rw [f2.1 55 (by omega), eb_between_55_13 (pbs_between.old p1)]
  have f_110_1 : I3 110 1 = I 110 1 := by rw [ek_between_110_1 (pks_between.old p2), f1.1 110 (by omega) (by omega)]
  have f_41_14 : I3 41 14 = I 41 14 := by rw [f2.1 41 (by omega), eb_between_41_14 (pbs_between.old p1)]
  have f_55_14 : I3 55 14 = I 55 14 := by rw [f2.1 55 (by omega), eb_between_55_14 (pbs_between.old p1)]
  have f_103_16 : I3 103 16 = I 103 16 := by rw [ek_between_103_16 (pks_between.old p2), f1.1 103 (by omega) (by omega)]
  have f_45_r : I3 45 = I 45 := by rw [f2.1 45 (by omega), eb_between_45_r (pbs_between.old p1)]
  have f_46_r : I3 46 = I 46 := by rw [f2.1 46 (by omega), eb_between_46_r (pbs_between.old p1)]
  have f_59_r : I3 59 = I 59 := by rw [f2.1 59 (by omega), eb_between_59_r (pbs_between.old p1)]
  have f_60_r : I3 60 = I 60 := by rw [f2.1 60 (by omega), eb_between_60_r (pbs_between.old p1)]
  have f_111_r : I3 111 = I 111 := by rw [ek_between_111_r (pks_between.old p2), f1.1 111 (by omega) (by omega)]
  have f_112_r : I3 112 = I 112 := by rw [ek_between_112_r (pks_between.old p2), f1.1 112 (by omega) (by omega)]
  have f_113_r : I3 113 = I 113 := by rw [ek_between_113_r (pks_between.old p2), f1.1 113 (by omega) (by omega)]
  have f_114_r : I3 114 = I 114 := by rw [ek_between_114_r (pks_between.old p2), f1.1 114 (by omega) (by omega)]
  have f_48_r : I3 48 = I 48 := by rw [f2.1 48 (by omega), eb_between_48_r (pbs_between.old p1)]
  have f_49_r : I3 49 = I 49 := by rw [f2.1 49 (by omega), eb_between_49_r (pbs_between.old p1)]
  have f_62_r : I3 62 = I 62 := by rw [f2.1 62 (by omega), eb_between_62_r (pbs_between.old p1)]
  have f_63_r : I3 63 = I 63 := by rw [f2.1 63 (by omega), eb_between_63_r (pbs_between.old p1)]
  have f_117_r : I3 117 = I 117 := by rw [ek_between_117_r (pks_between.old p2), f1.1 117 (by omega) (by omega)]
  have f_118_r : I3 118 = I 118 := by rw [ek_between_118_r (pks_between.old p2), f1.1 118 (by omega) (by omega)]
  have f_119_r : I3 119 = I 119 := by rw [ek_between_119_r (pks_between.old p2), f1.1 119 (by omega) (by omega)]
  have f_120_r : I3 120 = I 120 := by rw [ek_between_120_r (pks_between.old p2), f1.1 120 (by omega) (by omega)]
  exact ⟨(relq_between hj hr f1 p1 f2 p2), ⟨(by rw [f_33_7, f_103_1]; exact hr.1), (by rw [f_41_13, f_110_0]; exact hr.2.1), (by rw [f_55_13, f_110_1]; exact hr.2.2.1), (by rw [f_41_14, f_55_14, f_103_16]; exact hr.2.2.2.1), (dg_eq f_41_13 f_55_13 f_45_r f_46_r f_59_r f_60_r f_111_r f_112_r f_113_r f_114_r hr.2.2.2.2.1), (mq_eq f_41_13 f_55_13 f_48_r f_49_r f_62_r f_63_r f_103_16 f_117_r f_118_r f_119_r f_120_r hr.2.2.2.2.2)⟩⟩

theorem rel.lamps {v0 v1 v2 v3 v4 : Int32} {x y : Int32} {n : Nat} {I I2 I3 : px_I} {L L2 L3 : px_L} {R : px_R} (hj : jJ n I R) (hr : rel I L) (f1 : frB I I2 L L2) (p1 : pb_lamps v0 v1 v2 v3 v4 I L x I2 L2) (f2 : frK I2 I3 L2 L3) (p2 : pk_lamps v0 v1 v2 v3 v4 I2 L2 y I3 L3) : rel I3 L3 := by
  have f_33_7 : I3 33 7 = I 33 7 := by rw [f2.1 33 (by omega), eb_lamps_33_7 p1]
  have f_103_1 : I3 103 1 = I 103 1 := by rw [ek_lamps_103_1 p2, f1.1 103 (by omega) (by omega)]
  have f_41_13 : I3 41 13 = I 41 13 := by rw [f2.1 41 (by omega), eb_lamps_41_13 p1]
  have f_110_0 : I3 110 0 = I 110 0 := by rw [ek_lamps_110_0 p2, f1.1 110 (by omega) (by omega)]
  have f_55_13 : I3 55 13 = I 55 13 := by rw [f2.1 55 (by omega), eb_lamps_55_13 p1]
  have f_110_1 : I3 110 1 = I 110 1 := by rw [ek_lamps_110_1 p2, f1.1 110 (by omega) (by omega)]
  have f_41_14 : I3 41 14 = I 41 14 := by rw [f2.1 41 (by omega), eb_lamps_41_14 p1]
  have f_55_14 : I3 55 14 = I 55 14 := by rw [f2.1 55 (by omega), eb_lamps_55_14 p1]
  have f_103_16 : I3 103 16 = I 103 16 := by rw [ek_lamps_103_16 p2, f1.1 103 (by omega) (by omega)]
  have f_45_r : I3 45 = I 45 := by rw [f2.1 45 (by omega), eb_lamps_45_r p1]
  have f_46_r : I3 46 = I 46 := by rw [f2.1 46 (by omega), eb_lamps_46_r p1]
  have f_59_r : I3 59 = I 59 := by rw [f2.1 59 (by omega), eb_lamps_59_r p1]
  have f_60_r : I3 60 = I 60 := by rw [f2.1 60 (by omega), eb_lamps_60_r p1]
  have f_111_r : I3 111 = I 111 := by rw [ek_lamps_111_r p2, f1.1 111 (by omega) (by omega)]
  have f_112_r : I3 112 = I 112 := by rw [ek_lamps_112_r p2, f1.1 112 (by omega) (by omega)]
  have f_113_r : I3 113 = I 113 := by rw [ek_lamps_113_r p2, f1.1 113 (by omega) (by omega)]
  have f_114_r : I3 114 = I 114 := by rw [ek_lamps_114_r p2, f1.1 114 (by omega) (by omega)]
  have f_48_r : I3 48 = I 48 := by rw [f2.1 48 (by omega), eb_lamps_48_r p1]
  have f_49_r : I3 49 = I 49 := by rw [f2.1 49 (by omega), eb_lamps_49_r p1]
  have f_62_r : I3 62 = I 62 := by rw [f2.1 62 (by omega), eb_lamps_62_r p1]
  have f_63_r : I3 63 = I 63 := by rw [f2.1 63 (by omega), eb_lamps_63_r p1]
  have f_117_r : I3 117 = I 117 := by rw [ek_lamps_117_r p2, f1.1 117 (by omega) (by omega)]
  have f_118_r : I3 118 = I 118 := by rw [ek_lamps_118_r p2, f1.1 118 (by omega) (by omega)]
  have f_119_r : I3 119 = I 119 := by rw [ek_lamps_119_r p2, f1.1 119 (by omega) (by omega)]
  have f_120_r : I3 120 = I 120 := by rw [ek_lamps_120_r p2, f1.1 120 (by omega) (by omega)]
  exact ⟨(by rw [f_33_7, f_103_1]; exact hr.1), (by rw [f_41_13, f_110_0]; exact hr.2.1), (by rw [f_55_13, f_110_1]; exact hr.2.2.1), (by rw [f_41_14, f_55_14, f_103_16]; exact hr.2.2.2.1), (dg_eq f_41_13 f_55_13 f_45_r f_46_r f_59_r f_60_r f_111_r f_112_r f_113_r f_114_r hr.2.2.2.2.1), (mq_eq f_41_13 f_55_13 f_48_r f_49_r f_62_r f_63_r f_103_16 f_117_r f_118_r f_119_r f_120_r hr.2.2.2.2.2)⟩

theorem rel.count {v0 v1 v2 : Int32} {x y : Int32} {n : Nat} {I I2 I3 : px_I} {L L2 L3 : px_L} {R : px_R} (hj : jJ n I R) (hr : rel I L) (f1 : frB I I2 L L2) (p1 : pb_count v0 v1 v2 I L x I2 L2) (f2 : frK I2 I3 L2 L3) (p2 : pk_count v0 v1 v2 I2 L2 y I3 L3) : rel I3 L3 := by
  have f_33_7 : I3 33 7 = I 33 7 := by rw [f2.1 33 (by omega), eb_count_33_7 p1]
  have f_103_1 : I3 103 1 = I 103 1 := by rw [ek_count_103_1 p2, f1.1 103 (by omega) (by omega)]
  have f_41_13 : I3 41 13 = I 41 13 := by rw [f2.1 41 (by omega), eb_count_41_13 p1]
  have f_110_0 : I3 110 0 = I 110 0 := by rw [ek_count_110_0 p2, f1.1 110 (by omega) (by omega)]
  have f_55_13 : I3 55 13 = I 55 13 := by rw [f2.1 55 (by omega), eb_count_55_13 p1]
  have f_110_1 : I3 110 1 = I 110 1 := by rw [ek_count_110_1 p2, f1.1 110 (by omega) (by omega)]
  have f_41_14 : I3 41 14 = I 41 14 := by rw [f2.1 41 (by omega), eb_count_41_14 p1]
  have f_55_14 : I3 55 14 = I 55 14 := by rw [f2.1 55 (by omega), eb_count_55_14 p1]
  have f_103_16 : I3 103 16 = I 103 16 := by rw [ek_count_103_16 p2, f1.1 103 (by omega) (by omega)]
  have f_45_r : I3 45 = I 45 := by rw [f2.1 45 (by omega), eb_count_45_r p1]
  have f_46_r : I3 46 = I 46 := by rw [f2.1 46 (by omega), eb_count_46_r p1]
  have f_59_r : I3 59 = I 59 := by rw [f2.1 59 (by omega), eb_count_59_r p1]
  have f_60_r : I3 60 = I 60 := by rw [f2.1 60 (by omega), eb_count_60_r p1]
  have f_111_r : I3 111 = I 111 := by rw [ek_count_111_r p2, f1.1 111 (by omega) (by omega)]
  have f_112_r : I3 112 = I 112 := by rw [ek_count_112_r p2, f1.1 112 (by omega) (by omega)]
  have f_113_r : I3 113 = I 113 := by rw [ek_count_113_r p2, f1.1 113 (by omega) (by omega)]
  have f_114_r : I3 114 = I 114 := by rw [ek_count_114_r p2, f1.1 114 (by omega) (by omega)]
  have f_48_r : I3 48 = I 48 := by rw [f2.1 48 (by omega), eb_count_48_r p1]
  have f_49_r : I3 49 = I 49 := by rw [f2.1 49 (by omega), eb_count_49_r p1]
  have f_62_r : I3 62 = I 62 := by rw [f2.1 62 (by omega), eb_count_62_r p1]
  have f_63_r : I3 63 = I 63 := by rw [f2.1 63 (by omega), eb_count_63_r p1]
  have f_117_r : I3 117 = I 117 := by rw [ek_count_117_r p2, f1.1 117 (by omega) (by omega)]
  have f_118_r : I3 118 = I 118 := by rw [ek_count_118_r p2, f1.1 118 (by omega) (by omega)]
  have f_119_r : I3 119 = I 119 := by rw [ek_count_119_r p2, f1.1 119 (by omega) (by omega)]
  have f_120_r : I3 120 = I 120 := by rw [ek_count_120_r p2, f1.1 120 (by omega) (by omega)]
  exact ⟨(by rw [f_33_7, f_103_1]; exact hr.1), (by rw [f_41_13, f_110_0]; exact hr.2.1), (by rw [f_55_13, f_110_1]; exact hr.2.2.1), (by rw [f_41_14, f_55_14, f_103_16]; exact hr.2.2.2.1), (dg_eq f_41_13 f_55_13 f_45_r f_46_r f_59_r f_60_r f_111_r f_112_r f_113_r f_114_r hr.2.2.2.2.1), (mq_eq f_41_13 f_55_13 f_48_r f_49_r f_62_r f_63_r f_103_16 f_117_r f_118_r f_119_r f_120_r hr.2.2.2.2.2)⟩

theorem rel.unit {v0 : Int32} {x y : Int32} {n : Nat} {I I2 I3 : px_I} {L L2 L3 : px_L} {R : px_R} (hj : jJ n I R) (hr : rel I L) (f1 : frB I I2 L L2) (p1 : pb_unit v0 I L x I2 L2) (f2 : frK I2 I3 L2 L3) (p2 : pk_unit v0 I2 L2 y I3 L3) : rel I3 L3 := by
  have f_33_7 : I3 33 7 = I 33 7 := by rw [f2.1 33 (by omega), eb_unit_33_7 p1]
  have f_103_1 : I3 103 1 = I 103 1 := by rw [ek_unit_103_1 p2, f1.1 103 (by omega) (by omega)]
  have f_41_13 : I3 41 13 = I 41 13 := by rw [f2.1 41 (by omega), eb_unit_41_13 p1]
  have f_110_0 : I3 110 0 = I 110 0 := by rw [ek_unit_110_0 p2, f1.1 110 (by omega) (by omega)]
  have f_55_13 : I3 55 13 = I 55 13 := by rw [f2.1 55 (by omega), eb_unit_55_13 p1]
  have f_110_1 : I3 110 1 = I 110 1 := by rw [ek_unit_110_1 p2, f1.1 110 (by omega) (by omega)]
  have f_41_14 : I3 41 14 = I 41 14 := by rw [f2.1 41 (by omega), eb_unit_41_14 p1]
  have f_55_14 : I3 55 14 = I 55 14 := by rw [f2.1 55 (by omega), eb_unit_55_14 p1]
  have f_103_16 : I3 103 16 = I 103 16 := by rw [ek_unit_103_16 p2, f1.1 103 (by omega) (by omega)]
  have f_45_r : I3 45 = I 45 := by rw [f2.1 45 (by omega), eb_unit_45_r p1]
  have f_46_r : I3 46 = I 46 := by rw [f2.1 46 (by omega), eb_unit_46_r p1]
  have f_59_r : I3 59 = I 59 := by rw [f2.1 59 (by omega), eb_unit_59_r p1]
  have f_60_r : I3 60 = I 60 := by rw [f2.1 60 (by omega), eb_unit_60_r p1]
  have f_111_r : I3 111 = I 111 := by rw [ek_unit_111_r p2, f1.1 111 (by omega) (by omega)]
  have f_112_r : I3 112 = I 112 := by rw [ek_unit_112_r p2, f1.1 112 (by omega) (by omega)]
  have f_113_r : I3 113 = I 113 := by rw [ek_unit_113_r p2, f1.1 113 (by omega) (by omega)]
  have f_114_r : I3 114 = I 114 := by rw [ek_unit_114_r p2, f1.1 114 (by omega) (by omega)]
  have f_48_r : I3 48 = I 48 := by rw [f2.1 48 (by omega), eb_unit_48_r p1]
  have f_49_r : I3 49 = I 49 := by rw [f2.1 49 (by omega), eb_unit_49_r p1]
  have f_62_r : I3 62 = I 62 := by rw [f2.1 62 (by omega), eb_unit_62_r p1]
  have f_63_r : I3 63 = I 63 := by rw [f2.1 63 (by omega), eb_unit_63_r p1]
  have f_117_r : I3 117 = I 117 := by rw [ek_unit_117_r p2, f1.1 117 (by omega) (by omega)]
  have f_118_r : I3 118 = I 118 := by rw [ek_unit_118_r p2, f1.1 118 (by omega) (by omega)]
  have f_119_r : I3 119 = I 119 := by rw [ek_unit_119_r p2, f1.1 119 (by omega) (by omega)]
  have f_120_r : I3 120 = I 120 := by rw [ek_unit_120_r p2, f1.1 120 (by omega) (by omega)]
  exact ⟨(by rw [f_33_7, f_103_1]; exact hr.1), (by rw [f_41_13, f_110_0]; exact hr.2.1), (by rw [f_55_13, f_110_1]; exact hr.2.2.1), (by rw [f_41_14, f_55_14, f_103_16]; exact hr.2.2.2.1), (dg_eq f_41_13 f_55_13 f_45_r f_46_r f_59_r f_60_r f_111_r f_112_r f_113_r f_114_r hr.2.2.2.2.1), (mq_eq f_41_13 f_55_13 f_48_r f_49_r f_62_r f_63_r f_103_16 f_117_r f_118_r f_119_r f_120_r hr.2.2.2.2.2)⟩

theorem rel.feed {v0 v1 v2 v3 v4 : Int32} {x y : Int32} {n : Nat} {I I2 I3 : px_I} {L L2 L3 : px_L} {R : px_R} (hj : jJ n I R) (hr : rel I L) (f1 : frB I I2 L L2) (p1 : pb_feed v0 v1 v2 v3 v4 I L x I2 L2) (f2 : frK I2 I3 L2 L3) (p2 : pk_feed v0 v1 v2 v3 v4 I2 L2 y I3 L3) : rel I3 L3 := by
  have f_33_7 : I3 33 7 = I 33 7 := by rw [f2.1 33 (by omega), eb_feed_33_7 p1]
  have f_103_1 : I3 103 1 = I 103 1 := by rw [ek_feed_103_1 p2, f1.1 103 (by omega) (by omega)]
  have f_41_13 : I3 41 13 = I 41 13 := by rw [f2.1 41 (by omega), eb_feed_41_13 p1]
  have f_110_0 : I3 110 0 = I 110 0 := by rw [ek_feed_110_0 p2, f1.1 110 (by omega) (by omega)]
  have f_55_13 : I3 55 13 = I 55 13 := by rw [f2.1 55 (by omega), eb_feed_55_13 p1]
  have f_110_1 : I3 110 1 = I 110 1 := by rw [ek_feed_110_1 p2, f1.1 110 (by omega) (by omega)]
  have f_41_14 : I3 41 14 = I 41 14 := by rw [f2.1 41 (by omega), eb_feed_41_14 p1]
  have f_55_14 : I3 55 14 = I 55 14 := by rw [f2.1 55 (by omega), eb_feed_55_14 p1]
  have f_103_16 : I3 103 16 = I 103 16 := by rw [ek_feed_103_16 p2, f1.1 103 (by omega) (by omega)]
  have f_45_r : I3 45 = I 45 := by rw [f2.1 45 (by omega), eb_feed_45_r p1]
  have f_46_r : I3 46 = I 46 := by rw [f2.1 46 (by omega), eb_feed_46_r p1]
  have f_59_r : I3 59 = I 59 := by rw [f2.1 59 (by omega), eb_feed_59_r p1]
  have f_60_r : I3 60 = I 60 := by rw [f2.1 60 (by omega), eb_feed_60_r p1]
  have f_111_r : I3 111 = I 111 := by rw [ek_feed_111_r p2, f1.1 111 (by omega) (by omega)]
  have f_112_r : I3 112 = I 112 := by rw [ek_feed_112_r p2, f1.1 112 (by omega) (by omega)]
  have f_113_r : I3 113 = I 113 := by rw [ek_feed_113_r p2, f1.1 113 (by omega) (by omega)]
  have f_114_r : I3 114 = I 114 := by rw [ek_feed_114_r p2, f1.1 114 (by omega) (by omega)]
  have f_48_r : I3 48 = I 48 := by rw [f2.1 48 (by omega), eb_feed_48_r p1]
  have f_49_r : I3 49 = I 49 := by rw [f2.1 49 (by omega), eb_feed_49_r p1]
  have f_62_r : I3 62 = I 62 := by rw [f2.1 62 (by omega), eb_feed_62_r p1]
  have f_63_r : I3 63 = I 63 := by rw [f2.1 63 (by omega), eb_feed_63_r p1]
  have f_117_r : I3 117 = I 117 := by rw [ek_feed_117_r p2, f1.1 117 (by omega) (by omega)]
  have f_118_r : I3 118 = I 118 := by rw [ek_feed_118_r p2, f1.1 118 (by omega) (by omega)]
  have f_119_r : I3 119 = I 119 := by rw [ek_feed_119_r p2, f1.1 119 (by omega) (by omega)]
  have f_120_r : I3 120 = I 120 := by rw [ek_feed_120_r p2, f1.1 120 (by omega) (by omega)]
  exact ⟨(by rw [f_33_7, f_103_1]; exact hr.1), (by rw [f_41_13, f_110_0]; exact hr.2.1), (by rw [f_55_13, f_110_1]; exact hr.2.2.1), (by rw [f_41_14, f_55_14, f_103_16]; exact hr.2.2.2.1), (dg_eq f_41_13 f_55_13 f_45_r f_46_r f_59_r f_60_r f_111_r f_112_r f_113_r f_114_r hr.2.2.2.2.1), (mq_eq f_41_13 f_55_13 f_48_r f_49_r f_62_r f_63_r f_103_16 f_117_r f_118_r f_119_r f_120_r hr.2.2.2.2.2)⟩

theorem rel.end {v0 : Int32} {x y : Int32} {n : Nat} {I I2 I3 : px_I} {L L2 L3 : px_L} {R : px_R} (hj : jJ n I R) (hr : rel I L) (f1 : frB I I2 L L2) (p1 : pb_end v0 I L x I2 L2) (f2 : frK I2 I3 L2 L3) (p2 : pk_end v0 I2 L2 y I3 L3) : rel I3 L3 := by
  have f_33_7 : I3 33 7 = I 33 7 := by rw [f2.1 33 (by omega), eb_end_33_7 p1]
  have f_103_1 : I3 103 1 = I 103 1 := by rw [ek_end_103_1 p2, f1.1 103 (by omega) (by omega)]
  have f_41_13 : I3 41 13 = I 41 13 := by rw [f2.1 41 (by omega), eb_end_41_13 p1]
  have f_110_0 : I3 110 0 = I 110 0 := by rw [ek_end_110_0 p2, f1.1 110 (by omega) (by omega)]
  have f_55_13 : I3 55 13 = I 55 13 := by rw [f2.1 55 (by omega), eb_end_55_13 p1]
  have f_110_1 : I3 110 1 = I 110 1 := by rw [ek_end_110_1 p2, f1.1 110 (by omega) (by omega)]
  have f_41_14 : I3 41 14 = I 41 14 := by rw [f2.1 41 (by omega), eb_end_41_14 p1]
  have f_55_14 : I3 55 14 = I 55 14 := by rw [f2.1 55 (by omega), eb_end_55_14 p1]
  have f_103_16 : I3 103 16 = I 103 16 := by rw [ek_end_103_16 p2, f1.1 103 (by omega) (by omega)]
  have f_45_r : I3 45 = I 45 := by rw [f2.1 45 (by omega), eb_end_45_r p1]
  have f_46_r : I3 46 = I 46 := by rw [f2.1 46 (by omega), eb_end_46_r p1]
  have f_59_r : I3 59 = I 59 := by rw [f2.1 59 (by omega), eb_end_59_r p1]
  have f_60_r : I3 60 = I 60 := by rw [f2.1 60 (by omega), eb_end_60_r p1]
  have f_111_r : I3 111 = I 111 := by rw [ek_end_111_r p2, f1.1 111 (by omega) (by omega)]
  have f_112_r : I3 112 = I 112 := by rw [ek_end_112_r p2, f1.1 112 (by omega) (by omega)]
  have f_113_r : I3 113 = I 113 := by rw [ek_end_113_r p2, f1.1 113 (by omega) (by omega)]
  have f_114_r : I3 114 = I 114 := by rw [ek_end_114_r p2, f1.1 114 (by omega) (by omega)]
  have f_48_r : I3 48 = I 48 := by rw [f2.1 48 (by omega), eb_end_48_r p1]
  have f_49_r : I3 49 = I 49 := by rw [f2.1 49 (by omega), eb_end_49_r p1]
  have f_62_r : I3 62 = I 62 := by rw [f2.1 62 (by omega), eb_end_62_r p1]
  have f_63_r : I3 63 = I 63 := by rw [f2.1 63 (by omega), eb_end_63_r p1]
  have f_117_r : I3 117 = I 117 := by rw [ek_end_117_r p2, f1.1 117 (by omega) (by omega)]
  have f_118_r : I3 118 = I 118 := by rw [ek_end_118_r p2, f1.1 118 (by omega) (by omega)]
  have f_119_r : I3 119 = I 119 := by rw [ek_end_119_r p2, f1.1 119 (by omega) (by omega)]
  have f_120_r : I3 120 = I 120 := by rw [ek_end_120_r p2, f1.1 120 (by omega) (by omega)]
  exact ⟨(by rw [f_33_7, f_103_1]; exact hr.1), (by rw [f_41_13, f_110_0]; exact hr.2.1), (by rw [f_55_13, f_110_1]; exact hr.2.2.1), (by rw [f_41_14, f_55_14, f_103_16]; exact hr.2.2.2.1), (dg_eq f_41_13 f_55_13 f_45_r f_46_r f_59_r f_60_r f_111_r f_112_r f_113_r f_114_r hr.2.2.2.2.1), (mq_eq f_41_13 f_55_13 f_48_r f_49_r f_62_r f_63_r f_103_16 f_117_r f_118_r f_119_r f_120_r hr.2.2.2.2.2)⟩

theorem rel.way {v0 : Int32} {x y : Int32} {n : Nat} {I I2 I3 : px_I} {L L2 L3 : px_L} {R : px_R} (hj : jJ n I R) (hr : rel I L) (f1 : frB I I2 L L2) (p1 : pb_way v0 I L x I2 L2) (f2 : frK I2 I3 L2 L3) (p2 : pk_way v0 I2 L2 y I3 L3) : rel I3 L3 := by
  have f_33_7 : I3 33 7 = I 33 7 := by rw [f2.1 33 (by omega), eb_way_33_7 p1]
  have f_103_1 : I3 103 1 = I 103 1 := by rw [ek_way_103_1 p2, f1.1 103 (by omega) (by omega)]
  have f_41_13 : I3 41 13 = I 41 13 := by rw [f2.1 41 (by omega), eb_way_41_13 p1]
  have f_110_0 : I3 110 0 = I 110 0 := by rw [ek_way_110_0 p2, f1.1 110 (by omega) (by omega)]
  have f_55_13 : I3 55 13 = I 55 13 := by rw [f2.1 55 (by omega), eb_way_55_13 p1]
  have f_110_1 : I3 110 1 = I 110 1 := by rw [ek_way_110_1 p2, f1.1 110 (by omega) (by omega)]
  have f_41_14 : I3 41 14 = I 41 14 := by rw [f2.1 41 (by omega), eb_way_41_14 p1]
  have f_55_14 : I3 55 14 = I 55 14 := by rw [f2.1 55 (by omega), eb_way_55_14 p1]
  have f_103_16 : I3 103 16 = I 103 16 := by rw [ek_way_103_16 p2, f1.1 103 (by omega) (by omega)]
  have f_45_r : I3 45 = I 45 := by rw [f2.1 45 (by omega), eb_way_45_r p1]
  have f_46_r : I3 46 = I 46 := by rw [f2.1 46 (by omega), eb_way_46_r p1]
  have f_59_r : I3 59 = I 59 := by rw [f2.1 59 (by omega), eb_way_59_r p1]
  have f_60_r : I3 60 = I 60 := by rw [f2.1 60 (by omega), eb_way_60_r p1]
  have f_111_r : I3 111 = I 111 := by rw [ek_way_111_r p2, f1.1 111 (by omega) (by omega)]
  have f_112_r : I3 112 = I 112 := by rw [ek_way_112_r p2, f1.1 112 (by omega) (by omega)]
  have f_113_r : I3 113 = I 113 := by rw [ek_way_113_r p2, f1.1 113 (by omega) (by omega)]
  have f_114_r : I3 114 = I 114 := by rw [ek_way_114_r p2, f1.1 114 (by omega) (by omega)]
  have f_48_r : I3 48 = I 48 := by rw [f2.1 48 (by omega), eb_way_48_r p1]
  have f_49_r : I3 49 = I 49 := by rw [f2.1 49 (by omega), eb_way_49_r p1]
  have f_62_r : I3 62 = I 62 := by rw [f2.1 62 (by omega), eb_way_62_r p1]
  have f_63_r : I3 63 = I 63 := by rw [f2.1 63 (by omega), eb_way_63_r p1]
  have f_117_r : I3 117 = I 117 := by rw [ek_way_117_r p2, f1.1 117 (by omega) (by omega)]
  have f_118_r : I3 118 = I 118 := by rw [ek_way_118_r p2, f1.1 118 (by omega) (by omega)]
  have f_119_r : I3 119 = I 119 := by rw [ek_way_119_r p2, f1.1 119 (by omega) (by omega)]
  have f_120_r : I3 120 = I 120 := by rw [ek_way_120_r p2, f1.1 120 (by omega) (by omega)]
  exact ⟨(by rw [f_33_7, f_103_1]; exact hr.1), (by rw [f_41_13, f_110_0]; exact hr.2.1), (by rw [f_55_13, f_110_1]; exact hr.2.2.1), (by rw [f_41_14, f_55_14, f_103_16]; exact hr.2.2.2.1), (dg_eq f_41_13 f_55_13 f_45_r f_46_r f_59_r f_60_r f_111_r f_112_r f_113_r f_114_r hr.2.2.2.2.1), (mq_eq f_41_13 f_55_13 f_48_r f_49_r f_62_r f_63_r f_103_16 f_117_r f_118_r f_119_r f_120_r hr.2.2.2.2.2)⟩

theorem rel.fault {v0 : Int32} {x y : Int32} {n : Nat} {I I2 I3 : px_I} {L L2 L3 : px_L} {R : px_R} (hj : jJ n I R) (hr : rel I L) (f1 : frB I I2 L L2) (p1 : pb_fault v0 I L x I2 L2) (f2 : frK I2 I3 L2 L3) (p2 : pk_fault v0 I2 L2 y I3 L3) : rel I3 L3 := by
  have f_33_7 : I3 33 7 = I 33 7 := by rw [f2.1 33 (by omega), eb_fault_33_7 p1]
  have f_103_1 : I3 103 1 = I 103 1 := by rw [ek_fault_103_1 p2, f1.1 103 (by omega) (by omega)]
  have f_41_13 : I3 41 13 = I 41 13 := by rw [f2.1 41 (by omega), eb_fault_41_13 p1]
  have f_110_0 : I3 110 0 = I 110 0 := by rw [ek_fault_110_0 p2, f1.1 110 (by omega) (by omega)]
  have f_55_13 : I3 55 13 = I 55 13 := by rw [f2.1 55 (by omega), eb_fault_55_13 p1]
  have f_110_1 : I3 110 1 = I 110 1 := by rw [ek_fault_110_1 p2, f1.1 110 (by omega) (by omega)]
  have f_41_14 : I3 41 14 = I 41 14 := by rw [f2.1 41 (by omega), eb_fault_41_14 p1]
  have f_55_14 : I3 55 14 = I 55 14 := by rw [f2.1 55 (by omega), eb_fault_55_14 p1]
  have f_103_16 : I3 103 16 = I 103 16 := by rw [ek_fault_103_16 p2, f1.1 103 (by omega) (by omega)]
  have f_45_r : I3 45 = I 45 := by rw [f2.1 45 (by omega), eb_fault_45_r p1]
  have f_46_r : I3 46 = I 46 := by rw [f2.1 46 (by omega), eb_fault_46_r p1]
  have f_59_r : I3 59 = I 59 := by rw [f2.1 59 (by omega), eb_fault_59_r p1]
  have f_60_r : I3 60 = I 60 := by rw [f2.1 60 (by omega), eb_fault_60_r p1]
  have f_111_r : I3 111 = I 111 := by rw [ek_fault_111_r p2, f1.1 111 (by omega) (by omega)]
  have f_112_r : I3 112 = I 112 := by rw [ek_fault_112_r p2, f1.1 112 (by omega) (by omega)]
  have f_113_r : I3 113 = I 113 := by rw [ek_fault_113_r p2, f1.1 113 (by omega) (by omega)]
  have f_114_r : I3 114 = I 114 := by rw [ek_fault_114_r p2, f1.1 114 (by omega) (by omega)]
  have f_48_r : I3 48 = I 48 := by rw [f2.1 48 (by omega), eb_fault_48_r p1]
  have f_49_r : I3 49 = I 49 := by rw [f2.1 49 (by omega), eb_fault_49_r p1]
  have f_62_r : I3 62 = I 62 := by rw [f2.1 62 (by omega), eb_fault_62_r p1]
  have f_63_r : I3 63 = I 63 := by rw [f2.1 63 (by omega), eb_fault_63_r p1]
  have f_117_r : I3 117 = I 117 := by rw [ek_fault_117_r p2, f1.1 117 (by omega) (by omega)]
  have f_118_r : I3 118 = I 118 := by rw [ek_fault_118_r p2, f1.1 118 (by omega) (by omega)]
  have f_119_r : I3 119 = I 119 := by rw [ek_fault_119_r p2, f1.1 119 (by omega) (by omega)]
  have f_120_r : I3 120 = I 120 := by rw [ek_fault_120_r p2, f1.1 120 (by omega) (by omega)]
  exact ⟨(by rw [f_33_7, f_103_1]; exact hr.1), (by rw [f_41_13, f_110_0]; exact hr.2.1), (by rw [f_55_13, f_110_1]; exact hr.2.2.1), (by rw [f_41_14, f_55_14, f_103_16]; exact hr.2.2.2.1), (dg_eq f_41_13 f_55_13 f_45_r f_46_r f_59_r f_60_r f_111_r f_112_r f_113_r f_114_r hr.2.2.2.2.1), (mq_eq f_41_13 f_55_13 f_48_r f_49_r f_62_r f_63_r f_103_16 f_117_r f_118_r f_119_r f_120_r hr.2.2.2.2.2)⟩

theorem rel.tools {v0 v1 v2 v3 v4 : Int32} {x y : Int32} {n : Nat} {I I2 I3 : px_I} {L L2 L3 : px_L} {R : px_R} (hj : jJ n I R) (hr : rel I L) (f1 : frB I I2 L L2) (p1 : pb_tools v0 v1 v2 v3 v4 I L x I2 L2) (f2 : frK I2 I3 L2 L3) (p2 : pk_tools v0 v1 v2 v3 v4 I2 L2 y I3 L3) : rel I3 L3 := by
  have f_33_7 : I3 33 7 = I 33 7 := by rw [f2.1 33 (by omega), eb_tools_33_7 p1]
  have f_103_1 : I3 103 1 = I 103 1 := by rw [ek_tools_103_1 p2, f1.1 103 (by omega) (by omega)]
  have f_41_13 : I3 41 13 = I 41 13 := by rw [f2.1 41 (by omega), eb_tools_41_13 p1]
  have f_110_0 : I3 110 0 = I 110 0 := by rw [ek_tools_110_0 p2, f1.1 110 (by omega) (by omega)]
  have f_55_13 : I3 55 13 = I 55 13 := by rw [f2.1 55 (by omega), eb_tools_55_13 p1]
  have f_110_1 : I3 110 1 = I 110 1 := by rw [ek_tools_110_1 p2, f1.1 110 (by omega) (by omega)]
  have f_41_14 : I3 41 14 = I 41 14 := by rw [f2.1 41 (by omega), eb_tools_41_14 p1]
  have f_55_14 : I3 55 14 = I 55 14 := by rw [f2.1 55 (by omega), eb_tools_55_14 p1]
  have f_103_16 : I3 103 16 = I 103 16 := by rw [ek_tools_103_16 p2, f1.1 103 (by omega) (by omega)]
  have f_45_r : I3 45 = I 45 := by rw [f2.1 45 (by omega), eb_tools_45_r p1]
  have f_46_r : I3 46 = I 46 := by rw [f2.1 46 (by omega), eb_tools_46_r p1]
  have f_59_r : I3 59 = I 59 := by rw [f2.1 59 (by omega), eb_tools_59_r p1]
  have f_60_r : I3 60 = I 60 := by rw [f2.1 60 (by omega), eb_tools_60_r p1]
  have f_111_r : I3 111 = I 111 := by rw [ek_tools_111_r p2, f1.1 111 (by omega) (by omega)]
  have f_112_r : I3 112 = I 112 := by rw [ek_tools_112_r p2, f1.1 112 (by omega) (by omega)]
  have f_113_r : I3 113 = I 113 := by rw [ek_tools_113_r p2, f1.1 113 (by omega) (by omega)]
  have f_114_r : I3 114 = I 114 := by rw [ek_tools_114_r p2, f1.1 114 (by omega) (by omega)]
  have f_48_r : I3 48 = I 48 := by rw [f2.1 48 (by omega), eb_tools_48_r p1]
  have f_49_r : I3 49 = I 49 := by rw [f2.1 49 (by omega), eb_tools_49_r p1]
  have f_62_r : I3 62 = I 62 := by rw [f2.1 62 (by omega), eb_tools_62_r p1]
  have f_63_r : I3 63 = I 63 := by rw [f2.1 63 (by omega), eb_tools_63_r p1]
  have f_117_r : I3 117 = I 117 := by rw [ek_tools_117_r p2, f1.1 117 (by omega) (by omega)]
  have f_118_r : I3 118 = I 118 := by rw [ek_tools_118_r p2, f1.1 118 (by omega) (by omega)]
  have f_119_r : I3 119 = I 119 := by rw [ek_tools_119_r p2, f1.1 119 (by omega) (by omega)]
  have f_120_r : I3 120 = I 120 := by rw [ek_tools_120_r p2, f1.1 120 (by omega) (by omega)]
  exact ⟨(by rw [f_33_7, f_103_1]; exact hr.1), (by rw [f_41_13, f_110_0]; exact hr.2.1), (by rw [f_55_13, f_110_1]; exact hr.2.2.1), (by rw [f_41_14, f_55_14, f_103_16]; exact hr.2.2.2.1), (dg_eq f_41_13 f_55_13 f_45_r f_46_r f_59_r f_60_r f_111_r f_112_r f_113_r f_114_r hr.2.2.2.2.1), (mq_eq f_41_13 f_55_13 f_48_r f_49_r f_62_r f_63_r f_103_16 f_117_r f_118_r f_119_r f_120_r hr.2.2.2.2.2)⟩

theorem rel.run {v0 v1 v2 : Int32} {x y : Int32} {n : Nat} {I I2 I3 : px_I} {L L2 L3 : px_L} {R : px_R} (hj : jJ n I R) (hr : rel I L) (f1 : frB I I2 L L2) (p1 : pb_run v0 v1 v2 I L x I2 L2) (f2 : frK I2 I3 L2 L3) (p2 : pk_run v0 v1 v2 I2 L2 y I3 L3) : rel I3 L3 := by
  have f_33_7 : I3 33 7 = I 33 7 := by rw [f2.1 33 (by omega), eb_run_33_7 p1]
  have f_103_1 : I3 103 1 = I 103 1 := by rw [ek_run_103_1 p2, f1.1 103 (by omega) (by omega)]
  have f_41_13 : I3 41 13 = I 41 13 := by rw [f2.1 41 (by omega), eb_run_41_13 p1]
  have f_110_0 : I3 110 0 = I 110 0 := by rw [ek_run_110_0 p2, f1.1 110 (by omega) (by omega)]
  have f_55_13 : I3 55 13 = I 55 13 := by rw [f2.1 55 (by omega), eb_run_55_13 p1]
  have f_110_1 : I3 110 1 = I 110 1 := by rw [ek_run_110_1 p2, f1.1 110 (by omega) (by omega)]
  have f_41_14 : I3 41 14 = I 41 14 := by rw [f2.1 41 (by omega), eb_run_41_14 p1]
  have f_55_14 : I3 55 14 = I 55 14 := by rw [f2.1 55 (by omega), eb_run_55_14 p1]
  have f_103_16 : I3 103 16 = I 103 16 := by rw [ek_run_103_16 p2, f1.1 103 (by omega) (by omega)]
  have f_45_r : I3 45 = I 45 := by rw [f2.1 45 (by omega), eb_run_45_r p1]
  have f_46_r : I3 46 = I 46 := by rw [f2.1 46 (by omega), eb_run_46_r p1]
  have f_59_r : I3 59 = I 59 := by rw [f2.1 59 (by omega), eb_run_59_r p1]
  have f_60_r : I3 60 = I 60 := by rw [f2.1 60 (by omega), eb_run_60_r p1]
  have f_111_r : I3 111 = I 111 := by rw [ek_run_111_r p2, f1.1 111 (by omega) (by omega)]
  have f_112_r : I3 112 = I 112 := by rw [ek_run_112_r p2, f1.1 112 (by omega) (by omega)]
  have f_113_r : I3 113 = I 113 := by rw [ek_run_113_r p2, f1.1 113 (by omega) (by omega)]
  have f_114_r : I3 114 = I 114 := by rw [ek_run_114_r p2, f1.1 114 (by omega) (by omega)]
  have f_48_r : I3 48 = I 48 := by rw [f2.1 48 (by omega), eb_run_48_r p1]
  have f_49_r : I3 49 = I 49 := by rw [f2.1 49 (by omega), eb_run_49_r p1]
  have f_62_r : I3 62 = I 62 := by rw [f2.1 62 (by omega), eb_run_62_r p1]
  have f_63_r : I3 63 = I 63 := by rw [f2.1 63 (by omega), eb_run_63_r p1]
  have f_117_r : I3 117 = I 117 := by rw [ek_run_117_r p2, f1.1 117 (by omega) (by omega)]
  have f_118_r : I3 118 = I 118 := by rw [ek_run_118_r p2, f1.1 118 (by omega) (by omega)]
  have f_119_r : I3 119 = I 119 := by rw [ek_run_119_r p2, f1.1 119 (by omega) (by omega)]
  have f_120_r : I3 120 = I 120 := by rw [ek_run_120_r p2, f1.1 120 (by omega) (by omega)]
  exact ⟨(by rw [f_33_7, f_103_1]; exact hr.1), (by rw [f_41_13, f_110_0]; exact hr.2.1), (by rw [f_55_13, f_110_1]; exact hr.2.2.1), (by rw [f_41_14, f_55_14, f_103_16]; exact hr.2.2.2.1), (dg_eq f_41_13 f_55_13 f_45_r f_46_r f_59_r f_60_r f_111_r f_112_r f_113_r f_114_r hr.2.2.2.2.1), (mq_eq f_41_13 f_55_13 f_48_r f_49_r f_62_r f_63_r f_103_16 f_117_r f_118_r f_119_r f_120_r hr.2.2.2.2.2)⟩

theorem rel.meeting {v0 v1 v2 v3 v4 v5 : Int32} {x y : Int32} {n : Nat} {I I2 I3 : px_I} {L L2 L3 : px_L} {R : px_R} (hj : jJ n I R) (hr : rel I L) (f1 : frB I I2 L L2) (p1 : pb_meeting v0 v1 v2 v3 v4 v5 I L x I2 L2) (f2 : frK I2 I3 L2 L3) (p2 : pk_meeting v0 v1 v2 v3 v4 v5 I2 L2 y I3 L3) : rel I3 L3 := by
  have f_33_7 : I3 33 7 = I 33 7 := by rw [f2.1 33 (by omega), eb_meeting_33_7 p1]
  have f_103_1 : I3 103 1 = I 103 1 := by rw [ek_meeting_103_1 p2, f1.1 103 (by omega) (by omega)]
  have f_41_13 : I3 41 13 = I 41 13 := by rw [f2.1 41 (by omega), eb_meeting_41_13 p1]
  have f_110_0 : I3 110 0 = I 110 0 := by rw [ek_meeting_110_0 p2, f1.1 110 (by omega) (by omega)]
  have f_55_13 : I3 55 13 = I 55 13 := by rw [f2.1 55 (by omega), eb_meeting_55_13 p1]
  have f_110_1 : I3 110 1 = I 110 1 := by rw [ek_meeting_110_1 p2, f1.1 110 (by omega) (by omega)]
  have f_41_14 : I3 41 14 = I 41 14 := by rw [f2.1 41 (by omega), eb_meeting_41_14 p1]
  have f_55_14 : I3 55 14 = I 55 14 := by rw [f2.1 55 (by omega), eb_meeting_55_14 p1]
  have f_103_16 : I3 103 16 = I 103 16 := by rw [ek_meeting_103_16 p2, f1.1 103 (by omega) (by omega)]
  have f_45_r : I3 45 = I 45 := by rw [f2.1 45 (by omega), eb_meeting_45_r p1]
  have f_46_r : I3 46 = I 46 := by rw [f2.1 46 (by omega), eb_meeting_46_r p1]
  have f_59_r : I3 59 = I 59 := by rw [f2.1 59 (by omega), eb_meeting_59_r p1]
  have f_60_r : I3 60 = I 60 := by rw [f2.1 60 (by omega), eb_meeting_60_r p1]
  have f_111_r : I3 111 = I 111 := by rw [ek_meeting_111_r p2, f1.1 111 (by omega) (by omega)]
  have f_112_r : I3 112 = I 112 := by rw [ek_meeting_112_r p2, f1.1 112 (by omega) (by omega)]
  have f_113_r : I3 113 = I 113 := by rw [ek_meeting_113_r p2, f1.1 113 (by omega) (by omega)]
  have f_114_r : I3 114 = I 114 := by rw [ek_meeting_114_r p2, f1.1 114 (by omega) (by omega)]
  have f_48_r : I3 48 = I 48 := by rw [f2.1 48 (by omega), eb_meeting_48_r p1]
  have f_49_r : I3 49 = I 49 := by rw [f2.1 49 (by omega), eb_meeting_49_r p1]
  have f_62_r : I3 62 = I 62 := by rw [f2.1 62 (by omega), eb_meeting_62_r p1]
  have f_63_r : I3 63 = I 63 := by rw [f2.1 63 (by omega), eb_meeting_63_r p1]
  have f_117_r : I3 117 = I 117 := by rw [ek_meeting_117_r p2, f1.1 117 (by omega) (by omega)]
  have f_118_r : I3 118 = I 118 := by rw [ek_meeting_118_r p2, f1.1 118 (by omega) (by omega)]
  have f_119_r : I3 119 = I 119 := by rw [ek_meeting_119_r p2, f1.1 119 (by omega) (by omega)]
  have f_120_r : I3 120 = I 120 := by rw [ek_meeting_120_r p2, f1.1 120 (by omega) (by omega)]
  exact ⟨(by rw [f_33_7, f_103_1]; exact hr.1), (by rw [f_41_13, f_110_0]; exact hr.2.1), (by rw [f_55_13, f_110_1]; exact hr.2.2.1), (by rw [f_41_14, f_55_14, f_103_16]; exact hr.2.2.2.1), (dg_eq f_41_13 f_55_13 f_45_r f_46_r f_59_r f_60_r f_111_r f_112_r f_113_r f_114_r hr.2.2.2.2.1), (mq_eq f_41_13 f_55_13 f_48_r f_49_r f_62_r f_63_r f_103_16 f_117_r f_118_r f_119_r f_120_r hr.2.2.2.2.2)⟩

theorem rel.there {v0 v1 v2 : Int32} {x y : Int32} {n : Nat} {I I2 I3 : px_I} {L L2 L3 : px_L} {R : px_R} (hj : jJ n I R) (hr : rel I L) (f1 : frB I I2 L L2) (p1 : pb_there v0 v1 v2 I L x I2 L2) (f2 : frK I2 I3 L2 L3) (p2 : pk_there v0 v1 v2 I2 L2 y I3 L3) : rel I3 L3 := by
  have f_33_7 : I3 33 7 = I 33 7 := by rw [f2.1 33 (by omega), eb_there_33_7 p1]
  have f_103_1 : I3 103 1 = I 103 1 := by rw [ek_there_103_1 p2, f1.1 103 (by omega) (by omega)]
  have f_41_13 : I3 41 13 = I 41 13 := by rw [f2.1 41 (by omega), eb_there_41_13 p1]
  have f_110_0 : I3 110 0 = I 110 0 := by rw [ek_there_110_0 p2, f1.1 110 (by omega) (by omega)]
  have f_55_13 : I3 55 13 = I 55 13 := by rw [f2.1 55 (by omega), eb_there_55_13 p1]
  have f_110_1 : I3 110 1 = I 110 1 := by rw [ek_there_110_1 p2, f1.1 110 (by omega) (by omega)]
  have f_41_14 : I3 41 14 = I 41 14 := by rw [f2.1 41 (by omega), eb_there_41_14 p1]
  have f_55_14 : I3 55 14 = I 55 14 := by rw [f2.1 55 (by omega), eb_there_55_14 p1]
  have f_103_16 : I3 103 16 = I 103 16 := by rw [ek_there_103_16 p2, f1.1 103 (by omega) (by omega)]
  have f_45_r : I3 45 = I 45 := by rw [f2.1 45 (by omega), eb_there_45_r p1]
  have f_46_r : I3 46 = I 46 := by rw [f2.1 46 (by omega), eb_there_46_r p1]
  have f_59_r : I3 59 = I 59 := by rw [f2.1 59 (by omega), eb_there_59_r p1]
  have f_60_r : I3 60 = I 60 := by rw [f2.1 60 (by omega), eb_there_60_r p1]
  have f_111_r : I3 111 = I 111 := by rw [ek_there_111_r p2, f1.1 111 (by omega) (by omega)]
  have f_112_r : I3 112 = I 112 := by rw [ek_there_112_r p2, f1.1 112 (by omega) (by omega)]
  have f_113_r : I3 113 = I 113 := by rw [ek_there_113_r p2, f1.1 113 (by omega) (by omega)]
  have f_114_r : I3 114 = I 114 := by rw [ek_there_114_r p2, f1.1 114 (by omega) (by omega)]
  have f_48_r : I3 48 = I 48 := by rw [f2.1 48 (by omega), eb_there_48_r p1]
  have f_49_r : I3 49 = I 49 := by rw [f2.1 49 (by omega), eb_there_49_r p1]
  have f_62_r : I3 62 = I 62 := by rw [f2.1 62 (by omega), eb_there_62_r p1]
  have f_63_r : I3 63 = I 63 := by rw [f2.1 63 (by omega), eb_there_63_r p1]
  have f_117_r : I3 117 = I 117 := by rw [ek_there_117_r p2, f1.1 117 (by omega) (by omega)]
  have f_118_r : I3 118 = I 118 := by rw [ek_there_118_r p2, f1.1 118 (by omega) (by omega)]
  have f_119_r : I3 119 = I 119 := by rw [ek_there_119_r p2, f1.1 119 (by omega) (by omega)]
  have f_120_r : I3 120 = I 120 := by rw [ek_there_120_r p2, f1.1 120 (by omega) (by omega)]
  exact ⟨(by rw [f_33_7, f_103_1]; exact hr.1), (by rw [f_41_13, f_110_0]; exact hr.2.1), (by rw [f_55_13, f_110_1]; exact hr.2.2.1), (by rw [f_41_14, f_55_14, f_103_16]; exact hr.2.2.2.1), (dg_eq f_41_13 f_55_13 f_45_r f_46_r f_59_r f_60_r f_111_r f_112_r f_113_r f_114_r hr.2.2.2.2.1), (mq_eq f_41_13 f_55_13 f_48_r f_49_r f_62_r f_63_r f_103_16 f_117_r f_118_r f_119_r f_120_r hr.2.2.2.2.2)⟩

theorem rel.fits {v0 v1 v2 v3 : Int32} {x y : Int32} {n : Nat} {I I2 I3 : px_I} {L L2 L3 : px_L} {R : px_R} (hj : jJ n I R) (hr : rel I L) (f1 : frB I I2 L L2) (p1 : pb_fits v0 v1 v2 v3 I L x I2 L2) (f2 : frK I2 I3 L2 L3) (p2 : pk_fits v0 v1 v2 v3 I2 L2 y I3 L3) : rel I3 L3 := by
  have f_33_7 : I3 33 7 = I 33 7 := by rw [f2.1 33 (by omega), eb_fits_33_7 p1]
  have f_103_1 : I3 103 1 = I 103 1 := by rw [ek_fits_103_1 p2, f1.1 103 (by omega) (by omega)]
  have f_41_13 : I3 41 13 = I 41 13 := by rw [f2.1 41 (by omega), eb_fits_41_13 p1]
  have f_110_0 : I3 110 0 = I 110 0 := by rw [ek_fits_110_0 p2, f1.1 110 (by omega) (by omega)]
  have f_55_13 : I3 55 13 = I 55 13 := by rw [f2.1 55 (by omega), eb_fits_55_13 p1]
  have f_110_1 : I3 110 1 = I 110 1 := by rw [ek_fits_110_1 p2, f1.1 110 (by omega) (by omega)]
  have f_41_14 : I3 41 14 = I 41 14 := by rw [f2.1 41 (by omega), eb_fits_41_14 p1]
  have f_55_14 : I3 55 14 = I 55 14 := by rw [f2.1 55 (by omega), eb_fits_55_14 p1]
  have f_103_16 : I3 103 16 = I 103 16 := by rw [ek_fits_103_16 p2, f1.1 103 (by omega) (by omega)]
  have f_45_r : I3 45 = I 45 := by rw [f2.1 45 (by omega), eb_fits_45_r p1]
  have f_46_r : I3 46 = I 46 := by rw [f2.1 46 (by omega), eb_fits_46_r p1]
  have f_59_r : I3 59 = I 59 := by rw [f2.1 59 (by omega), eb_fits_59_r p1]
  have f_60_r : I3 60 = I 60 := by rw [f2.1 60 (by omega), eb_fits_60_r p1]
  have f_111_r : I3 111 = I 111 := by rw [ek_fits_111_r p2, f1.1 111 (by omega) (by omega)]
  have f_112_r : I3 112 = I 112 := by rw [ek_fits_112_r p2, f1.1 112 (by omega) (by omega)]
  have f_113_r : I3 113 = I 113 := by rw [ek_fits_113_r p2, f1.1 113 (by omega) (by omega)]
  have f_114_r : I3 114 = I 114 := by rw [ek_fits_114_r p2, f1.1 114 (by omega) (by omega)]
  have f_48_r : I3 48 = I 48 := by rw [f2.1 48 (by omega), eb_fits_48_r p1]
  have f_49_r : I3 49 = I 49 := by rw [f2.1 49 (by omega), eb_fits_49_r p1]
  have f_62_r : I3 62 = I 62 := by rw [f2.1 62 (by omega), eb_fits_62_r p1]
  have f_63_r : I3 63 = I 63 := by rw [f2.1 63 (by omega), eb_fits_63_r p1]
  have f_117_r : I3 117 = I 117 := by rw [ek_fits_117_r p2, f1.1 117 (by omega) (by omega)]
  have f_118_r : I3 118 = I 118 := by rw [ek_fits_118_r p2, f1.1 118 (by omega) (by omega)]
  have f_119_r : I3 119 = I 119 := by rw [ek_fits_119_r p2, f1.1 119 (by omega) (by omega)]
  have f_120_r : I3 120 = I 120 := by rw [ek_fits_120_r p2, f1.1 120 (by omega) (by omega)]
  exact ⟨(by rw [f_33_7, f_103_1]; exact hr.1), (by rw [f_41_13, f_110_0]; exact hr.2.1), (by rw [f_55_13, f_110_1]; exact hr.2.2.1), (by rw [f_41_14, f_55_14, f_103_16]; exact hr.2.2.2.1), (dg_eq f_41_13 f_55_13 f_45_r f_46_r f_59_r f_60_r f_111_r f_112_r f_113_r f_114_r hr.2.2.2.2.1), (mq_eq f_41_13 f_55_13 f_48_r f_49_r f_62_r f_63_r f_103_16 f_117_r f_118_r f_119_r f_120_r hr.2.2.2.2.2)⟩

theorem rel.ways {v0 v1 v2 v3 v4 : Int32} {x y : Int32} {n : Nat} {I I2 I3 : px_I} {L L2 L3 : px_L} {R : px_R} (hj : jJ n I R) (hr : rel I L) (f1 : frB I I2 L L2) (p1 : pb_ways v0 v1 v2 v3 v4 I L x I2 L2) (f2 : frK I2 I3 L2 L3) (p2 : pk_ways v0 v1 v2 v3 v4 I2 L2 y I3 L3) : rel I3 L3 := by
  have f_33_7 : I3 33 7 = I 33 7 := by rw [f2.1 33 (by omega), eb_ways_33_7 p1]
  have f_103_1 : I3 103 1 = I 103 1 := by rw [ek_ways_103_1 p2, f1.1 103 (by omega) (by omega)]
  have f_41_13 : I3 41 13 = I 41 13 := by rw [f2.1 41 (by omega), eb_ways_41_13 p1]
  have f_110_0 : I3 110 0 = I 110 0 := by rw [ek_ways_110_0 p2, f1.1 110 (by omega) (by omega)]
  have f_55_13 : I3 55 13 = I 55 13 := by rw [f2.1 55 (by omega), eb_ways_55_13 p1]
  have f_110_1 : I3 110 1 = I 110 1 := by rw [ek_ways_110_1 p2, f1.1 110 (by omega) (by omega)]
  have f_41_14 : I3 41 14 = I 41 14 := by rw [f2.1 41 (by omega), eb_ways_41_14 p1]
  have f_55_14 : I3 55 14 = I 55 14 := by rw [f2.1 55 (by omega), eb_ways_55_14 p1]
  have f_103_16 : I3 103 16 = I 103 16 := by rw [ek_ways_103_16 p2, f1.1 103 (by omega) (by omega)]
  have f_45_r : I3 45 = I 45 := by rw [f2.1 45 (by omega), eb_ways_45_r p1]
  have f_46_r : I3 46 = I 46 := by rw [f2.1 46 (by omega), eb_ways_46_r p1]
  have f_59_r : I3 59 = I 59 := by rw [f2.1 59 (by omega), eb_ways_59_r p1]
  have f_60_r : I3 60 = I 60 := by rw [f2.1 60 (by omega), eb_ways_60_r p1]
  have f_111_r : I3 111 = I 111 := by rw [ek_ways_111_r p2, f1.1 111 (by omega) (by omega)]
  have f_112_r : I3 112 = I 112 := by rw [ek_ways_112_r p2, f1.1 112 (by omega) (by omega)]
  have f_113_r : I3 113 = I 113 := by rw [ek_ways_113_r p2, f1.1 113 (by omega) (by omega)]
  have f_114_r : I3 114 = I 114 := by rw [ek_ways_114_r p2, f1.1 114 (by omega) (by omega)]
  have f_48_r : I3 48 = I 48 := by rw [f2.1 48 (by omega), eb_ways_48_r p1]
  have f_49_r : I3 49 = I 49 := by rw [f2.1 49 (by omega), eb_ways_49_r p1]
  have f_62_r : I3 62 = I 62 := by rw [f2.1 62 (by omega), eb_ways_62_r p1]
  have f_63_r : I3 63 = I 63 := by rw [f2.1 63 (by omega), eb_ways_63_r p1]
  have f_117_r : I3 117 = I 117 := by rw [ek_ways_117_r p2, f1.1 117 (by omega) (by omega)]
  have f_118_r : I3 118 = I 118 := by rw [ek_ways_118_r p2, f1.1 118 (by omega) (by omega)]
  have f_119_r : I3 119 = I 119 := by rw [ek_ways_119_r p2, f1.1 119 (by omega) (by omega)]
  have f_120_r : I3 120 = I 120 := by rw [ek_ways_120_r p2, f1.1 120 (by omega) (by omega)]
  exact ⟨(by rw [f_33_7, f_103_1]; exact hr.1), (by rw [f_41_13, f_110_0]; exact hr.2.1), (by rw [f_55_13, f_110_1]; exact hr.2.2.1), (by rw [f_41_14, f_55_14, f_103_16]; exact hr.2.2.2.1), (dg_eq f_41_13 f_55_13 f_45_r f_46_r f_59_r f_60_r f_111_r f_112_r f_113_r f_114_r hr.2.2.2.2.1), (mq_eq f_41_13 f_55_13 f_48_r f_49_r f_62_r f_63_r f_103_16 f_117_r f_118_r f_119_r f_120_r hr.2.2.2.2.2)⟩

theorem rel.seek {v0 v1 v2 v3 v4 v5 : Int32} {x y : Int32} {n : Nat} {I I2 I3 : px_I} {L L2 L3 : px_L} {R : px_R} (hj : jJ n I R) (hr : rel I L) (f1 : frB I I2 L L2) (p1 : pb_seek v0 v1 v2 v3 v4 v5 I L x I2 L2) (f2 : frK I2 I3 L2 L3) (p2 : pk_seek v0 v1 v2 v3 v4 v5 I2 L2 y I3 L3) : rel I3 L3 := by
  have f_33_7 : I3 33 7 = I 33 7 := by rw [f2.1 33 (by omega), eb_seek_33_7 p1]
  have f_103_1 : I3 103 1 = I 103 1 := by rw [ek_seek_103_1 p2, f1.1 103 (by omega) (by omega)]
  have f_41_13 : I3 41 13 = I 41 13 := by rw [f2.1 41 (by omega), eb_seek_41_13 p1]
  have f_110_0 : I3 110 0 = I 110 0 := by rw [ek_seek_110_0 p2, f1.1 110 (by omega) (by omega)]
  have f_55_13 : I3 55 13 = I 55 13 := by rw [f2.1 55 (by omega), eb_seek_55_13 p1]
  have f_110_1 : I3 110 1 = I 110 1 := by rw [ek_seek_110_1 p2, f1.1 110 (by omega) (by omega)]
  have f_41_14 : I3 41 14 = I 41 14 := by rw [f2.1 41 (by omega), eb_seek_41_14 p1]
  have f_55_14 : I3 55 14 = I 55 14 := by rw [f2.1 55 (by omega), eb_seek_55_14 p1]
  have f_103_16 : I3 103 16 = I 103 16 := by rw [ek_seek_103_16 p2, f1.1 103 (by omega) (by omega)]
  have f_45_r : I3 45 = I 45 := by rw [f2.1 45 (by omega), eb_seek_45_r p1]
  have f_46_r : I3 46 = I 46 := by rw [f2.1 46 (by omega), eb_seek_46_r p1]
  have f_59_r : I3 59 = I 59 := by rw [f2.1 59 (by omega), eb_seek_59_r p1]
  have f_60_r : I3 60 = I 60 := by rw [f2.1 60 (by omega), eb_seek_60_r p1]
  have f_111_r : I3 111 = I 111 := by rw [ek_seek_111_r p2, f1.1 111 (by omega) (by omega)]
  have f_112_r : I3 112 = I 112 := by rw [ek_seek_112_r p2, f1.1 112 (by omega) (by omega)]
  have f_113_r : I3 113 = I 113 := by rw [ek_seek_113_r p2, f1.1 113 (by omega) (by omega)]
  have f_114_r : I3 114 = I 114 := by rw [ek_seek_114_r p2, f1.1 114 (by omega) (by omega)]
  have f_48_r : I3 48 = I 48 := by rw [f2.1 48 (by omega), eb_seek_48_r p1]
  have f_49_r : I3 49 = I 49 := by rw [f2.1 49 (by omega), eb_seek_49_r p1]
  have f_62_r : I3 62 = I 62 := by rw [f2.1 62 (by omega), eb_seek_62_r p1]
  have f_63_r : I3 63 = I 63 := by rw [f2.1 63 (by omega), eb_seek_63_r p1]
  have f_117_r : I3 117 = I 117 := by rw [ek_seek_117_r p2, f1.1 117 (by omega) (by omega)]
  have f_118_r : I3 118 = I 118 := by rw [ek_seek_118_r p2, f1.1 118 (by omega) (by omega)]
  have f_119_r : I3 119 = I 119 := by rw [ek_seek_119_r p2, f1.1 119 (by omega) (by omega)]
  have f_120_r : I3 120 = I 120 := by rw [ek_seek_120_r p2, f1.1 120 (by omega) (by omega)]
  exact ⟨(by rw [f_33_7, f_103_1]; exact hr.1), (by rw [f_41_13, f_110_0]; exact hr.2.1), (by rw [f_55_13, f_110_1]; exact hr.2.2.1), (by rw [f_41_14, f_55_14, f_103_16]; exact hr.2.2.2.1), (dg_eq f_41_13 f_55_13 f_45_r f_46_r f_59_r f_60_r f_111_r f_112_r f_113_r f_114_r hr.2.2.2.2.1), (mq_eq f_41_13 f_55_13 f_48_r f_49_r f_62_r f_63_r f_103_16 f_117_r f_118_r f_119_r f_120_r hr.2.2.2.2.2)⟩

theorem rel.chance {n : Nat} {I I2 I3 : px_I} {L L2 L3 : px_L} {R : px_R} (hj : jJ n I R) (hr : rel I L) (f1 : frB I I2 L L2) (p1 : I2 = I ∧ cSL L L2) (f2 : frK I2 I3 L2 L3) (p2 : I3 = I2 ∧ mNL L2 L3) : rel I3 L3 := by
  have f_33_7 : I3 33 7 = I 33 7 := by rw [f2.1 33 (by omega), p1.1]
  have f_103_1 : I3 103 1 = I 103 1 := by rw [p2.1, f1.1 103 (by omega) (by omega)]
  have f_41_13 : I3 41 13 = I 41 13 := by rw [f2.1 41 (by omega), p1.1]
  have f_110_0 : I3 110 0 = I 110 0 := by rw [p2.1, f1.1 110 (by omega) (by omega)]
  have f_55_13 : I3 55 13 = I 55 13 := by rw [f2.1 55 (by omega), p1.1]
  have f_110_1 : I3 110 1 = I 110 1 := by rw [p2.1, f1.1 110 (by omega) (by omega)]
  have f_41_14 : I3 41 14 = I 41 14 := by rw [f2.1 41 (by omega), p1.1]
  have f_55_14 : I3 55 14 = I 55 14 := by rw [f2.1 55 (by omega), p1.1]
  have f_103_16 : I3 103 16 = I 103 16 := by rw [p2.1, f1.1 103 (by omega) (by omega)]
  have f_45_r : I3 45 = I 45 := by rw [f2.1 45 (by omega), p1.1]
  have f_46_r : I3 46 = I 46 := by rw [f2.1 46 (by omega), p1.1]
  have f_59_r : I3 59 = I 59 := by rw [f2.1 59 (by omega), p1.1]
  have f_60_r : I3 60 = I 60 := by rw [f2.1 60 (by omega), p1.1]
  have f_111_r : I3 111 = I 111 := by rw [p2.1, f1.1 111 (by omega) (by omega)]
  have f_112_r : I3 112 = I 112 := by rw [p2.1, f1.1 112 (by omega) (by omega)]
  have f_113_r : I3 113 = I 113 := by rw [p2.1, f1.1 113 (by omega) (by omega)]
  have f_114_r : I3 114 = I 114 := by rw [p2.1, f1.1 114 (by omega) (by omega)]
  have f_48_r : I3 48 = I 48 := by rw [f2.1 48 (by omega), p1.1]
  have f_49_r : I3 49 = I 49 := by rw [f2.1 49 (by omega), p1.1]
  have f_62_r : I3 62 = I 62 := by rw [f2.1 62 (by omega), p1.1]
  have f_63_r : I3 63 = I 63 := by rw [f2.1 63 (by omega), p1.1]
  have f_117_r : I3 117 = I 117 := by rw [p2.1, f1.1 117 (by omega) (by omega)]
  have f_118_r : I3 118 = I 118 := by rw [p2.1, f1.1 118 (by omega) (by omega)]
  have f_119_r : I3 119 = I 119 := by rw [p2.1, f1.1 119 (by omega) (by omega)]
  have f_120_r : I3 120 = I 120 := by rw [p2.1, f1.1 120 (by omega) (by omega)]
  exact ⟨(by rw [f_33_7, f_103_1]; exact hr.1), (by rw [f_41_13, f_110_0]; exact hr.2.1), (by rw [f_55_13, f_110_1]; exact hr.2.2.1), (by rw [f_41_14, f_55_14, f_103_16]; exact hr.2.2.2.1), (dg_eq f_41_13 f_55_13 f_45_r f_46_r f_59_r f_60_r f_111_r f_112_r f_113_r f_114_r hr.2.2.2.2.1), (mq_eq f_41_13 f_55_13 f_48_r f_49_r f_62_r f_63_r f_103_16 f_117_r f_118_r f_119_r f_120_r hr.2.2.2.2.2)⟩

theorem rel.detour {v0 v1 v2 : Int32} {x y : Int32} {n : Nat} {I I2 I3 : px_I} {L L2 L3 : px_L} {R : px_R} (hj : jJ n I R) (hr : rel I L) (f1 : frB I I2 L L2) (p1 : pb_detour v0 v1 v2 I L x I2 L2) (f2 : frK I2 I3 L2 L3) (p2 : pk_detour v0 v1 v2 I2 L2 y I3 L3) : rel I3 L3 := by
  have f_33_7 : I3 33 7 = I 33 7 := by rw [f2.1 33 (by omega), eb_detour_33_7 p1]
  have f_103_1 : I3 103 1 = I 103 1 := by rw [ek_detour_103_1 p2, f1.1 103 (by omega) (by omega)]
  have f_41_13 : I3 41 13 = I 41 13 := by rw [f2.1 41 (by omega), eb_detour_41_13 p1]
  have f_110_0 : I3 110 0 = I 110 0 := by rw [ek_detour_110_0 p2, f1.1 110 (by omega) (by omega)]
  have f_55_13 : I3 55 13 = I 55 13 := by rw [f2.1 55 (by omega), eb_detour_55_13 p1]
  have f_110_1 : I3 110 1 = I 110 1 := by rw [ek_detour_110_1 p2, f1.1 110 (by omega) (by omega)]
  have f_41_14 : I3 41 14 = I 41 14 := by rw [f2.1 41 (by omega), eb_detour_41_14 p1]
  have f_55_14 : I3 55 14 = I 55 14 := by rw [f2.1 55 (by omega), eb_detour_55_14 p1]
  have f_103_16 : I3 103 16 = I 103 16 := by rw [ek_detour_103_16 p2, f1.1 103 (by omega) (by omega)]
  have f_45_r : I3 45 = I 45 := by rw [f2.1 45 (by omega), eb_detour_45_r p1]
  have f_46_r : I3 46 = I 46 := by rw [f2.1 46 (by omega), eb_detour_46_r p1]
  have f_59_r : I3 59 = I 59 := by rw [f2.1 59 (by omega), eb_detour_59_r p1]
  have f_60_r : I3 60 = I 60 := by rw [f2.1 60 (by omega), eb_detour_60_r p1]
  have f_111_r : I3 111 = I 111 := by rw [ek_detour_111_r p2, f1.1 111 (by omega) (by omega)]
  have f_112_r : I3 112 = I 112 := by rw [ek_detour_112_r p2, f1.1 112 (by omega) (by omega)]
  have f_113_r : I3 113 = I 113 := by rw [ek_detour_113_r p2, f1.1 113 (by omega) (by omega)]
  have f_114_r : I3 114 = I 114 := by rw [ek_detour_114_r p2, f1.1 114 (by omega) (by omega)]
  have f_48_r : I3 48 = I 48 := by rw [f2.1 48 (by omega), eb_detour_48_r p1]
  have f_49_r : I3 49 = I 49 := by rw [f2.1 49 (by omega), eb_detour_49_r p1]
  have f_62_r : I3 62 = I 62 := by rw [f2.1 62 (by omega), eb_detour_62_r p1]
  have f_63_r : I3 63 = I 63 := by rw [f2.1 63 (by omega), eb_detour_63_r p1]
  have f_117_r : I3 117 = I 117 := by rw [ek_detour_117_r p2, f1.1 117 (by omega) (by omega)]
  have f_118_r : I3 118 = I 118 := by rw [ek_detour_118_r p2, f1.1 118 (by omega) (by omega)]
  have f_119_r : I3 119 = I 119 := by rw [ek_detour_119_r p2, f1.1 119 (by omega) (by omega)]
  have f_120_r : I3 120 = I 120 := by rw [ek_detour_120_r p2, f1.1 120 (by omega) (by omega)]
  exact ⟨(by rw [f_33_7, f_103_1]; exact hr.1), (by rw [f_41_13, f_110_0]; exact hr.2.1), (by rw [f_55_13, f_110_1]; exact hr.2.2.1), (by rw [f_41_14, f_55_14, f_103_16]; exact hr.2.2.2.1), (dg_eq f_41_13 f_55_13 f_45_r f_46_r f_59_r f_60_r f_111_r f_112_r f_113_r f_114_r hr.2.2.2.2.1), (mq_eq f_41_13 f_55_13 f_48_r f_49_r f_62_r f_63_r f_103_16 f_117_r f_118_r f_119_r f_120_r hr.2.2.2.2.2)⟩

theorem rel.table {v0 v1 : Int32} {x y : Int32} {n : Nat} {I I2 I3 : px_I} {L L2 L3 : px_L} {R : px_R} (hj : jJ n I R) (hr : rel I L) (f1 : frB I I2 L L2) (p1 : pb_table v0 v1 I L x I2 L2) (f2 : frK I2 I3 L2 L3) (p2 : pk_table v0 v1 I2 L2 y I3 L3) : rel I3 L3 := by
  have f_33_7 : I3 33 7 = I 33 7 := by rw [f2.1 33 (by omega), eb_table_33_7 p1]
  have f_103_1 : I3 103 1 = I 103 1 := by rw [ek_table_103_1 p2, f1.1 103 (by omega) (by omega)]
  have f_41_13 : I3 41 13 = I 41 13 := by rw [f2.1 41 (by omega), eb_table_41_13 p1]
  have f_110_0 : I3 110 0 = I 110 0 := by rw [ek_table_110_0 p2, f1.1 110 (by omega) (by omega)]
  have f_55_13 : I3 55 13 = I 55 13 := by rw [f2.1 55 (by omega), eb_table_55_13 p1]
  have f_110_1 : I3 110 1 = I 110 1 := by rw [ek_table_110_1 p2, f1.1 110 (by omega) (by omega)]
  have f_41_14 : I3 41 14 = I 41 14 := by rw [f2.1 41 (by omega), eb_table_41_14 p1]
  have f_55_14 : I3 55 14 = I 55 14 := by rw [f2.1 55 (by omega), eb_table_55_14 p1]
  have f_103_16 : I3 103 16 = I 103 16 := by rw [ek_table_103_16 p2, f1.1 103 (by omega) (by omega)]
  have f_45_r : I3 45 = I 45 := by rw [f2.1 45 (by omega), eb_table_45_r p1]
  have f_46_r : I3 46 = I 46 := by rw [f2.1 46 (by omega), eb_table_46_r p1]
  have f_59_r : I3 59 = I 59 := by rw [f2.1 59 (by omega), eb_table_59_r p1]
  have f_60_r : I3 60 = I 60 := by rw [f2.1 60 (by omega), eb_table_60_r p1]
  have f_111_r : I3 111 = I 111 := by rw [ek_table_111_r p2, f1.1 111 (by omega) (by omega)]
  have f_112_r : I3 112 = I 112 := by rw [ek_table_112_r p2, f1.1 112 (by omega) (by omega)]
  have f_113_r : I3 113 = I 113 := by rw [ek_table_113_r p2, f1.1 113 (by omega) (by omega)]
  have f_114_r : I3 114 = I 114 := by rw [ek_table_114_r p2, f1.1 114 (by omega) (by omega)]
  have f_48_r : I3 48 = I 48 := by rw [f2.1 48 (by omega), eb_table_48_r p1]
  have f_49_r : I3 49 = I 49 := by rw [f2.1 49 (by omega), eb_table_49_r p1]
  have f_62_r : I3 62 = I 62 := by rw [f2.1 62 (by omega), eb_table_62_r p1]
  have f_63_r : I3 63 = I 63 := by rw [f2.1 63 (by omega), eb_table_63_r p1]
  have f_117_r : I3 117 = I 117 := by rw [ek_table_117_r p2, f1.1 117 (by omega) (by omega)]
  have f_118_r : I3 118 = I 118 := by rw [ek_table_118_r p2, f1.1 118 (by omega) (by omega)]
  have f_119_r : I3 119 = I 119 := by rw [ek_table_119_r p2, f1.1 119 (by omega) (by omega)]
  have f_120_r : I3 120 = I 120 := by rw [ek_table_120_r p2, f1.1 120 (by omega) (by omega)]
  exact ⟨(by rw [f_33_7, f_103_1]; exact hr.1), (by rw [f_41_13, f_110_0]; exact hr.2.1), (by rw [f_55_13, f_110_1]; exact hr.2.2.1), (by rw [f_41_14, f_55_14, f_103_16]; exact hr.2.2.2.1), (dg_eq f_41_13 f_55_13 f_45_r f_46_r f_59_r f_60_r f_111_r f_112_r f_113_r f_114_r hr.2.2.2.2.1), (mq_eq f_41_13 f_55_13 f_48_r f_49_r f_62_r f_63_r f_103_16 f_117_r f_118_r f_119_r f_120_r hr.2.2.2.2.2)⟩

theorem rel.repair {v0 v1 v2 : Int32} {x y : Int32} {n : Nat} {I I2 I3 : px_I} {L L2 L3 : px_L} {R : px_R} (hj : jJ n I R) (hr : rel I L) (f1 : frB I I2 L L2) (p1 : pb_repair v0 v1 v2 I L x I2 L2) (f2 : frK I2 I3 L2 L3) (p2 : pk_repair v0 v1 v2 I2 L2 y I3 L3) : rel I3 L3 := by
  have f_33_7 : I3 33 7 = I 33 7 := by rw [f2.1 33 (by omega), eb_repair_33_7 p1]
  have f_103_1 : I3 103 1 = I 103 1 := by rw [ek_repair_103_1 p2, f1.1 103 (by omega) (by omega)]
  have f_41_13 : I3 41 13 = I 41 13 := by rw [f2.1 41 (by omega), eb_repair_41_13 p1]
  have f_110_0 : I3 110 0 = I 110 0 := by rw [ek_repair_110_0 p2, f1.1 110 (by omega) (by omega)]
  have f_55_13 : I3 55 13 = I 55 13 := by rw [f2.1 55 (by omega), eb_repair_55_13 p1]
  have f_110_1 : I3 110 1 = I 110 1 := by rw [ek_repair_110_1 p2, f1.1 110 (by omega) (by omega)]
  have f_41_14 : I3 41 14 = I 41 14 := by rw [f2.1 41 (by omega), eb_repair_41_14 p1]
  have f_55_14 : I3 55 14 = I 55 14 := by rw [f2.1 55 (by omega), eb_repair_55_14 p1]
  have f_103_16 : I3 103 16 = I 103 16 := by rw [ek_repair_103_16 p2, f1.1 103 (by omega) (by omega)]
  have f_45_r : I3 45 = I 45 := by rw [f2.1 45 (by omega), eb_repair_45_r p1]
  have f_46_r : I3 46 = I 46 := by rw [f2.1 46 (by omega), eb_repair_46_r p1]
  have f_59_r : I3 59 = I 59 := by rw [f2.1 59 (by omega), eb_repair_59_r p1]
  have f_60_r : I3 60 = I 60 := by rw [f2.1 60 (by omega), eb_repair_60_r p1]
  have f_111_r : I3 111 = I 111 := by rw [ek_repair_111_r p2, f1.1 111 (by omega) (by omega)]
  have f_112_r : I3 112 = I 112 := by rw [ek_repair_112_r p2, f1.1 112 (by omega) (by omega)]
  have f_113_r : I3 113 = I 113 := by rw [ek_repair_113_r p2, f1.1 113 (by omega) (by omega)]
  have f_114_r : I3 114 = I 114 := by rw [ek_repair_114_r p2, f1.1 114 (by omega) (by omega)]
  have f_48_r : I3 48 = I 48 := by rw [f2.1 48 (by omega), eb_repair_48_r p1]
  have f_49_r : I3 49 = I 49 := by rw [f2.1 49 (by omega), eb_repair_49_r p1]
  have f_62_r : I3 62 = I 62 := by rw [f2.1 62 (by omega), eb_repair_62_r p1]
  have f_63_r : I3 63 = I 63 := by rw [f2.1 63 (by omega), eb_repair_63_r p1]
  have f_117_r : I3 117 = I 117 := by rw [ek_repair_117_r p2, f1.1 117 (by omega) (by omega)]
  have f_118_r : I3 118 = I 118 := by rw [ek_repair_118_r p2, f1.1 118 (by omega) (by omega)]
  have f_119_r : I3 119 = I 119 := by rw [ek_repair_119_r p2, f1.1 119 (by omega) (by omega)]
  have f_120_r : I3 120 = I 120 := by rw [ek_repair_120_r p2, f1.1 120 (by omega) (by omega)]
  exact ⟨(by rw [f_33_7, f_103_1]; exact hr.1), (by rw [f_41_13, f_110_0]; exact hr.2.1), (by rw [f_55_13, f_110_1]; exact hr.2.2.1), (by rw [f_41_14, f_55_14, f_103_16]; exact hr.2.2.2.1), (dg_eq f_41_13 f_55_13 f_45_r f_46_r f_59_r f_60_r f_111_r f_112_r f_113_r f_114_r hr.2.2.2.2.1), (mq_eq f_41_13 f_55_13 f_48_r f_49_r f_62_r f_63_r f_103_16 f_117_r f_118_r f_119_r f_120_r hr.2.2.2.2.2)⟩

theorem rel.lime {v0 : Int32} {x y : Int32} {n : Nat} {I I2 I3 : px_I} {L L2 L3 : px_L} {R : px_R} (hj : jJ n I R) (hr : rel I L) (f1 : frB I I2 L L2) (p1 : pb_lime v0 I L x I2 L2) (f2 : frK I2 I3 L2 L3) (p2 : pk_lime v0 I2 L2 y I3 L3) : rel I3 L3 := by
  have f_33_7 : I3 33 7 = I 33 7 := by rw [f2.1 33 (by omega), eb_lime_33_7 p1]
  have f_103_1 : I3 103 1 = I 103 1 := by rw [ek_lime_103_1 p2, f1.1 103 (by omega) (by omega)]
  have f_41_13 : I3 41 13 = I 41 13 := by rw [f2.1 41 (by omega), eb_lime_41_13 p1]
  have f_110_0 : I3 110 0 = I 110 0 := by rw [ek_lime_110_0 p2, f1.1 110 (by omega) (by omega)]
  have f_55_13 : I3 55 13 = I 55 13 := by rw [f2.1 55 (by omega), eb_lime_55_13 p1]
  have f_110_1 : I3 110 1 = I 110 1 := by rw [ek_lime_110_1 p2, f1.1 110 (by omega) (by omega)]
  have f_41_14 : I3 41 14 = I 41 14 := by rw [f2.1 41 (by omega), eb_lime_41_14 p1]
  have f_55_14 : I3 55 14 = I 55 14 := by rw [f2.1 55 (by omega), eb_lime_55_14 p1]
  have f_103_16 : I3 103 16 = I 103 16 := by rw [ek_lime_103_16 p2, f1.1 103 (by omega) (by omega)]
  have f_45_r : I3 45 = I 45 := by rw [f2.1 45 (by omega), eb_lime_45_r p1]
  have f_46_r : I3 46 = I 46 := by rw [f2.1 46 (by omega), eb_lime_46_r p1]
  have f_59_r : I3 59 = I 59 := by rw [f2.1 59 (by omega), eb_lime_59_r p1]
  have f_60_r : I3 60 = I 60 := by rw [f2.1 60 (by omega), eb_lime_60_r p1]
  have f_111_r : I3 111 = I 111 := by rw [ek_lime_111_r p2, f1.1 111 (by omega) (by omega)]
  have f_112_r : I3 112 = I 112 := by rw [ek_lime_112_r p2, f1.1 112 (by omega) (by omega)]
  have f_113_r : I3 113 = I 113 := by rw [ek_lime_113_r p2, f1.1 113 (by omega) (by omega)]
  have f_114_r : I3 114 = I 114 := by rw [ek_lime_114_r p2, f1.1 114 (by omega) (by omega)]
  have f_48_r : I3 48 = I 48 := by rw [f2.1 48 (by omega), eb_lime_48_r p1]
  have f_49_r : I3 49 = I 49 := by rw [f2.1 49 (by omega), eb_lime_49_r p1]
  have f_62_r : I3 62 = I 62 := by rw [f2.1 62 (by omega), eb_lime_62_r p1]
  have f_63_r : I3 63 = I 63 := by rw [f2.1 63 (by omega), eb_lime_63_r p1]
  have f_117_r : I3 117 = I 117 := by rw [ek_lime_117_r p2, f1.1 117 (by omega) (by omega)]
  have f_118_r : I3 118 = I 118 := by rw [ek_lime_118_r p2, f1.1 118 (by omega) (by omega)]
  have f_119_r : I3 119 = I 119 := by rw [ek_lime_119_r p2, f1.1 119 (by omega) (by omega)]
  have f_120_r : I3 120 = I 120 := by rw [ek_lime_120_r p2, f1.1 120 (by omega) (by omega)]
  exact ⟨(by rw [f_33_7, f_103_1]; exact hr.1), (by rw [f_41_13, f_110_0]; exact hr.2.1), (by rw [f_55_13, f_110_1]; exact hr.2.2.1), (by rw [f_41_14, f_55_14, f_103_16]; exact hr.2.2.2.1), (dg_eq f_41_13 f_55_13 f_45_r f_46_r f_59_r f_60_r f_111_r f_112_r f_113_r f_114_r hr.2.2.2.2.1), (mq_eq f_41_13 f_55_13 f_48_r f_49_r f_62_r f_63_r f_103_16 f_117_r f_118_r f_119_r f_120_r hr.2.2.2.2.2)⟩

theorem rel.flow {v0 v1 v2 v3 : Int32} {x y : Int32} {n : Nat} {I I2 I3 : px_I} {L L2 L3 : px_L} {R : px_R} (hj : jJ n I R) (hr : rel I L) (f1 : frB I I2 L L2) (p1 : pb_flow v0 v1 v2 v3 I L x I2 L2) (f2 : frK I2 I3 L2 L3) (p2 : pk_flow v0 v1 v2 v3 I2 L2 y I3 L3) : rel I3 L3 := by
  have f_33_7 : I3 33 7 = I 33 7 := by rw [f2.1 33 (by omega), eb_flow_33_7 p1]
  have f_103_1 : I3 103 1 = I 103 1 := by rw [ek_flow_103_1 p2, f1.1 103 (by omega) (by omega)]
  have f_41_13 : I3 41 13 = I 41 13 := by rw [f2.1 41 (by omega), eb_flow_41_13 p1]
  have f_110_0 : I3 110 0 = I 110 0 := by rw [ek_flow_110_0 p2, f1.1 110 (by omega) (by omega)]
  have f_55_13 : I3 55 13 = I 55 13 := by rw [f2.1 55 (by omega), eb_flow_55_13 p1]
  have f_110_1 : I3 110 1 = I 110 1 := by rw [ek_flow_110_1 p2, f1.1 110 (by omega) (by omega)]
  have f_41_14 : I3 41 14 = I 41 14 := by rw [f2.1 41 (by omega), eb_flow_41_14 p1]
  have f_55_14 : I3 55 14 = I 55 14 := by rw [f2.1 55 (by omega), eb_flow_55_14 p1]
  have f_103_16 : I3 103 16 = I 103 16 := by rw [ek_flow_103_16 p2, f1.1 103 (by omega) (by omega)]
  have f_45_r : I3 45 = I 45 := by rw [f2.1 45 (by omega), eb_flow_45_r p1]
  have f_46_r : I3 46 = I 46 := by rw [f2.1 46 (by omega), eb_flow_46_r p1]
  have f_59_r : I3 59 = I 59 := by rw [f2.1 59 (by omega), eb_flow_59_r p1]
  have f_60_r : I3 60 = I 60 := by rw [f2.1 60 (by omega), eb_flow_60_r p1]
  have f_111_r : I3 111 = I 111 := by rw [ek_flow_111_r p2, f1.1 111 (by omega) (by omega)]
  have f_112_r : I3 112 = I 112 := by rw [ek_flow_112_r p2, f1.1 112 (by omega) (by omega)]
  have f_113_r : I3 113 = I 113 := by rw [ek_flow_113_r p2, f1.1 113 (by omega) (by omega)]
  have f_114_r : I3 114 = I 114 := by rw [ek_flow_114_r p2, f1.1 114 (by omega) (by omega)]
  have f_48_r : I3 48 = I 48 := by rw [f2.1 48 (by omega), eb_flow_48_r p1]
  have f_49_r : I3 49 = I 49 := by rw [f2.1 49 (by omega), eb_flow_49_r p1]
  have f_62_r : I3 62 = I 62 := by rw [f2.1 62 (by omega), eb_flow_62_r p1]
  have f_63_r : I3 63 = I 63 := by rw [f2.1 63 (by omega), eb_flow_63_r p1]
  have f_117_r : I3 117 = I 117 := by rw [ek_flow_117_r p2, f1.1 117 (by omega) (by omega)]
  have f_118_r : I3 118 = I 118 := by rw [ek_flow_118_r p2, f1.1 118 (by omega) (by omega)]
  have f_119_r : I3 119 = I 119 := by rw [ek_flow_119_r p2, f1.1 119 (by omega) (by omega)]
  have f_120_r : I3 120 = I 120 := by rw [ek_flow_120_r p2, f1.1 120 (by omega) (by omega)]
  exact ⟨(by rw [f_33_7, f_103_1]; exact hr.1), (by rw [f_41_13, f_110_0]; exact hr.2.1), (by rw [f_55_13, f_110_1]; exact hr.2.2.1), (by rw [f_41_14, f_55_14, f_103_16]; exact hr.2.2.2.1), (dg_eq f_41_13 f_55_13 f_45_r f_46_r f_59_r f_60_r f_111_r f_112_r f_113_r f_114_r hr.2.2.2.2.1), (mq_eq f_41_13 f_55_13 f_48_r f_49_r f_62_r f_63_r f_103_16 f_117_r f_118_r f_119_r f_120_r hr.2.2.2.2.2)⟩

theorem rel.narrow {v0 v1 v2 : Int32} {x y : Int32} {n : Nat} {I I2 I3 : px_I} {L L2 L3 : px_L} {R : px_R} (hj : jJ n I R) (hr : rel I L) (f1 : frB I I2 L L2) (p1 : pb_narrow v0 v1 v2 I L x I2 L2) (f2 : frK I2 I3 L2 L3) (p2 : pk_narrow v0 v1 v2 I2 L2 y I3 L3) : rel I3 L3 := by
  have f_33_7 : I3 33 7 = I 33 7 := by rw [f2.1 33 (by omega), eb_narrow_33_7 p1]
  have f_103_1 : I3 103 1 = I 103 1 := by rw [ek_narrow_103_1 p2, f1.1 103 (by omega) (by omega)]
  have f_41_13 : I3 41 13 = I 41 13 := by rw [f2.1 41 (by omega), eb_narrow_41_13 p1]
  have f_110_0 : I3 110 0 = I 110 0 := by rw [ek_narrow_110_0 p2, f1.1 110 (by omega) (by omega)]
  have f_55_13 : I3 55 13 = I 55 13 := by rw [f2.1 55 (by omega), eb_narrow_55_13 p1]
  have f_110_1 : I3 110 1 = I 110 1 := by rw [ek_narrow_110_1 p2, f1.1 110 (by omega) (by omega)]
  have f_41_14 : I3 41 14 = I 41 14 := by rw [f2.1 41 (by omega), eb_narrow_41_14 p1]
  have f_55_14 : I3 55 14 = I 55 14 := by rw [f2.1 55 (by omega), eb_narrow_55_14 p1]
  have f_103_16 : I3 103 16 = I 103 16 := by rw [ek_narrow_103_16 p2, f1.1 103 (by omega) (by omega)]
  have f_45_r : I3 45 = I 45 := by rw [f2.1 45 (by omega), eb_narrow_45_r p1]
  have f_46_r : I3 46 = I 46 := by rw [f2.1 46 (by omega), eb_narrow_46_r p1]
  have f_59_r : I3 59 = I 59 := by rw [f2.1 59 (by omega), eb_narrow_59_r p1]
  have f_60_r : I3 60 = I 60 := by rw [f2.1 60 (by omega), eb_narrow_60_r p1]
  have f_111_r : I3 111 = I 111 := by rw [ek_narrow_111_r p2, f1.1 111 (by omega) (by omega)]
  have f_112_r : I3 112 = I 112 := by rw [ek_narrow_112_r p2, f1.1 112 (by omega) (by omega)]
  have f_113_r : I3 113 = I 113 := by rw [ek_narrow_113_r p2, f1.1 113 (by omega) (by omega)]
  have f_114_r : I3 114 = I 114 := by rw [ek_narrow_114_r p2, f1.1 114 (by omega) (by omega)]
  have f_48_r : I3 48 = I 48 := by rw [f2.1 48 (by omega), eb_narrow_48_r p1]
  have f_49_r : I3 49 = I 49 := by rw [f2.1 49 (by omega), eb_narrow_49_r p1]
  have f_62_r : I3 62 = I 62 := by rw [f2.1 62 (by omega), eb_narrow_62_r p1]
  have f_63_r : I3 63 = I 63 := by rw [f2.1 63 (by omega), eb_narrow_63_r p1]
  have f_117_r : I3 117 = I 117 := by rw [ek_narrow_117_r p2, f1.1 117 (by omega) (by omega)]
  have f_118_r : I3 118 = I 118 := by rw [ek_narrow_118_r p2, f1.1 118 (by omega) (by omega)]
  have f_119_r : I3 119 = I 119 := by rw [ek_narrow_119_r p2, f1.1 119 (by omega) (by omega)]
  have f_120_r : I3 120 = I 120 := by rw [ek_narrow_120_r p2, f1.1 120 (by omega) (by omega)]
  exact ⟨(by rw [f_33_7, f_103_1]; exact hr.1), (by rw [f_41_13, f_110_0]; exact hr.2.1), (by rw [f_55_13, f_110_1]; exact hr.2.2.1), (by rw [f_41_14, f_55_14, f_103_16]; exact hr.2.2.2.1), (dg_eq f_41_13 f_55_13 f_45_r f_46_r f_59_r f_60_r f_111_r f_112_r f_113_r f_114_r hr.2.2.2.2.1), (mq_eq f_41_13 f_55_13 f_48_r f_49_r f_62_r f_63_r f_103_16 f_117_r f_118_r f_119_r f_120_r hr.2.2.2.2.2)⟩

theorem rel.about {v0 : Int32} {x y : Int32} {n : Nat} {I I2 I3 : px_I} {L L2 L3 : px_L} {R : px_R} (hj : jJ n I R) (hr : rel I L) (f1 : frB I I2 L L2) (p1 : pb_about v0 I L x I2 L2) (f2 : frK I2 I3 L2 L3) (p2 : pk_about v0 I2 L2 y I3 L3) : rel I3 L3 := by
  have f_33_7 : I3 33 7 = I 33 7 := by rw [f2.1 33 (by omega), eb_about_33_7 p1]
  have f_103_1 : I3 103 1 = I 103 1 := by rw [ek_about_103_1 p2, f1.1 103 (by omega) (by omega)]
  have f_41_13 : I3 41 13 = I 41 13 := by rw [f2.1 41 (by omega), eb_about_41_13 p1]
  have f_110_0 : I3 110 0 = I 110 0 := by rw [ek_about_110_0 p2, f1.1 110 (by omega) (by omega)]
  have f_55_13 : I3 55 13 = I 55 13 := by rw [f2.1 55 (by omega), eb_about_55_13 p1]
  have f_110_1 : I3 110 1 = I 110 1 := by rw [ek_about_110_1 p2, f1.1 110 (by omega) (by omega)]
  have f_41_14 : I3 41 14 = I 41 14 := by rw [f2.1 41 (by omega), eb_about_41_14 p1]
  have f_55_14 : I3 55 14 = I 55 14 := by rw [f2.1 55 (by omega), eb_about_55_14 p1]
  have f_103_16 : I3 103 16 = I 103 16 := by rw [ek_about_103_16 p2, f1.1 103 (by omega) (by omega)]
  have f_45_r : I3 45 = I 45 := by rw [f2.1 45 (by omega), eb_about_45_r p1]
  have f_46_r : I3 46 = I 46 := by rw [f2.1 46 (by omega), eb_about_46_r p1]
  have f_59_r : I3 59 = I 59 := by rw [f2.1 59 (by omega), eb_about_59_r p1]
  have f_60_r : I3 60 = I 60 := by rw [f2.1 60 (by omega), eb_about_60_r p1]
  have f_111_r : I3 111 = I 111 := by rw [ek_about_111_r p2, f1.1 111 (by omega) (by omega)]
  have f_112_r : I3 112 = I 112 := by rw [ek_about_112_r p2, f1.1 112 (by omega) (by omega)]
  have f_113_r : I3 113 = I 113 := by rw [ek_about_113_r p2, f1.1 113 (by omega) (by omega)]
  have f_114_r : I3 114 = I 114 := by rw [ek_about_114_r p2, f1.1 114 (by omega) (by omega)]
  have f_48_r : I3 48 = I 48 := by rw [f2.1 48 (by omega), eb_about_48_r p1]
  have f_49_r : I3 49 = I 49 := by rw [f2.1 49 (by omega), eb_about_49_r p1]
  have f_62_r : I3 62 = I 62 := by rw [f2.1 62 (by omega), eb_about_62_r p1]
  have f_63_r : I3 63 = I 63 := by rw [f2.1 63 (by omega), eb_about_63_r p1]
  have f_117_r : I3 117 = I 117 := by rw [ek_about_117_r p2, f1.1 117 (by omega) (by omega)]
  have f_118_r : I3 118 = I 118 := by rw [ek_about_118_r p2, f1.1 118 (by omega) (by omega)]
  have f_119_r : I3 119 = I 119 := by rw [ek_about_119_r p2, f1.1 119 (by omega) (by omega)]
  have f_120_r : I3 120 = I 120 := by rw [ek_about_120_r p2, f1.1 120 (by omega) (by omega)]
  exact ⟨(by rw [f_33_7, f_103_1]; exact hr.1), (by rw [f_41_13, f_110_0]; exact hr.2.1), (by rw [f_55_13, f_110_1]; exact hr.2.2.1), (by rw [f_41_14, f_55_14, f_103_16]; exact hr.2.2.2.1), (dg_eq f_41_13 f_55_13 f_45_r f_46_r f_59_r f_60_r f_111_r f_112_r f_113_r f_114_r hr.2.2.2.2.1), (mq_eq f_41_13 f_55_13 f_48_r f_49_r f_62_r f_63_r f_103_16 f_117_r f_118_r f_119_r f_120_r hr.2.2.2.2.2)⟩
