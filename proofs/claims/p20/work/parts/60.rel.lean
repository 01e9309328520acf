/-! what agrees in both books -/

theorem eb_days_70_5 {x9 x : Int32} {I I2 : px_I} {L L2 : px_L} (h : pb_days x9 I L x I2 L2) : I2 70 5 = I 70 5 := by
  unfold pb_days at h
  obtain ⟨rfl, h⟩ := h
  rcases h with ⟨a1, a2, rfl, rfl⟩ | ⟨a1, rfl, rfl⟩
  · (repeat rw [px_u_out (by omega)])
  · rfl

theorem ek_days_103_25 {x9 x : Int32} {I I2 : px_I} {L L2 : px_L} (h : pk_days x9 I L x I2 L2) : I2 103 25 = I 103 25 := by
  unfold pk_days at h
  obtain ⟨rfl, h⟩ := h
  rcases h with ⟨a1, a2, a3, rfl, rfl⟩ | ⟨a1, rfl, rfl⟩
  · (repeat rw [px_u_out (by omega)])
  · rfl

theorem eb_station_70_5 { x : Int32} {I I2 : px_I} {L L2 : px_L} (h : pb_station  I L x I2 L2) : I2 70 5 = I 70 5 := by
  unfold pb_station at h
  obtain ⟨rfl, h⟩ := h
  rcases h with ⟨a1, rfl, rfl⟩ | ⟨a1, rfl, rfl⟩
  · (repeat rw [px_u_out (by omega)])
  · rfl

theorem ek_station_103_25 { x : Int32} {I I2 : px_I} {L L2 : px_L} (h : pk_station  I L x I2 L2) : I2 103 25 = I 103 25 := by
  unfold pk_station at h
  obtain ⟨rfl, h⟩ := h
  rcases h with ⟨a1, rfl, rfl⟩ | ⟨a1, rfl, rfl⟩
  · (repeat rw [px_u_out (by omega)])
  · rfl

theorem eb_sight_70_5 {a f t lo hi x : Int32} {I I2 : px_I} {L L2 : px_L} (h : pb_sight a f t lo hi I L x I2 L2) : I2 70 5 = I 70 5 := by
  unfold pb_sight at h
  obtain ⟨rfl, h⟩ := h
  rcases h with ⟨a1, rfl, rfl⟩ | ⟨a1, rfl, rfl⟩
  · (repeat rw [px_u_out (by omega)])
  · rfl

theorem ek_sight_103_25 {a f t lo hi x : Int32} {I I2 : px_I} {L L2 : px_L} (h : pk_sight a f t lo hi I L x I2 L2) : I2 103 25 = I 103 25 := by
  unfold pk_sight at h
  obtain ⟨rfl, h⟩ := h
  rcases h with ⟨a1, rfl, rfl⟩ | ⟨a1, rfl, rfl⟩
  · (repeat rw [px_u_out (by omega)])
  · rfl

theorem eb_closed_70_5 {a k x : Int32} {I I2 : px_I} {L L2 : px_L} (h : pb_closed a k I L x I2 L2) : I2 70 5 = I 70 5 := by
  unfold pb_closed at h
  obtain ⟨rfl, h⟩ := h
  rfl

theorem ek_closed_103_25 {a k x : Int32} {I I2 : px_I} {L L2 : px_L} (h : pk_closed a k I L x I2 L2) : I2 103 25 = I 103 25 := by
  unfold pk_closed at h
  exact h.1 103 25 (by omega)

theorem eb_span_70_5 {a t k h x : Int32} {I I2 : px_I} {L L2 : px_L} (h : pb_span a t k h I L x I2 L2) : I2 70 5 = I 70 5 := by
  unfold pb_span at h
  obtain ⟨rfl, h⟩ := h
  rfl

theorem ek_span_103_25 {a t k h x : Int32} {I I2 : px_I} {L L2 : px_L} (h : pk_span a t k h I L x I2 L2) : I2 103 25 = I 103 25 := by
  unfold pk_span at h
  exact h.1 103 25 (by omega)

theorem eb_gap_70_5 {a f t k h x : Int32} {I I2 : px_I} {L L2 : px_L} (h : pb_gap a f t k h I L x I2 L2) : I2 70 5 = I 70 5 := by
  unfold pb_gap at h
  obtain ⟨rfl, h⟩ := h
  rfl

theorem ek_gap_103_25 {a f t k h x : Int32} {I I2 : px_I} {L L2 : px_L} (h : pk_gap a f t k h I L x I2 L2) : I2 103 25 = I 103 25 := by
  unfold pk_gap at h
  exact h.1 103 25 (by omega)

theorem eb_blamed_70_5 {a k i x : Int32} {I I2 : px_I} {L L2 : px_L} (h : pb_blamed a k i I L x I2 L2) : I2 70 5 = I 70 5 := by
  unfold pb_blamed at h
  obtain ⟨rfl, h⟩ := h
  rfl

theorem ek_blamed_103_25 {a k i x : Int32} {I I2 : px_I} {L L2 : px_L} (h : pk_blamed a k i I L x I2 L2) : I2 103 25 = I 103 25 := by
  unfold pk_blamed at h
  exact h.1 103 25 (by omega)

theorem eb_reach_70_5 {g lo hi sl fa w st x : Int32} {I I2 : px_I} {L L2 : px_L} (h : pb_reach g lo hi sl fa w st I L x I2 L2) : I2 70 5 = I 70 5 := by
  unfold pb_reach at h
  obtain ⟨rfl, h⟩ := h
  rcases h with ⟨G, ⟨g1, g2, g3⟩, rfl, rfl⟩ | ⟨a1, rfl, rfl⟩
  · have gG : G = 41 ∨ G = 55 := by unfold bG at g1; omega
    rw [cReach_o (by omega)]
  · rfl

theorem ek_reach_103_25 {g lo hi sl fa w st x : Int32} {I I2 : px_I} {L L2 : px_L} (h : pk_reach g lo hi sl fa w st I L x I2 L2) : I2 103 25 = I 103 25 := by
  unfold pk_reach at h
  obtain ⟨rfl, h⟩ := h
  rcases h with ⟨a1, rfl, rfl⟩ | ⟨a1, rfl, rfl⟩
  · unfold mReach; (repeat rw [px_u_out (by omega)])
  · rfl

theorem eb_mouth_70_5 {g st x : Int32} {I I2 : px_I} {L L2 : px_L} (h : pb_mouth g st I L x I2 L2) : I2 70 5 = I 70 5 := by
  unfold pb_mouth at h
  obtain ⟨rfl, h⟩ := h
  rcases h with ⟨G, g1, rfl⟩ | rfl
  · have gG : G = 41 ∨ G = 55 := by unfold bG at g1; omega
    (repeat rw [px_u_out (by omega)])
  · rfl

theorem ek_mouth_103_25 {g st x : Int32} {I I2 : px_I} {L L2 : px_L} (h : pk_mouth g st I L x I2 L2) : I2 103 25 = I 103 25 := by
  unfold pk_mouth at h
  obtain ⟨rfl, h⟩ := h
  rcases h with ⟨a1, a2, rfl, rfl⟩ | ⟨a1, rfl, rfl⟩
  · (repeat rw [px_u_out (by omega)])
  · rfl

theorem eb_mark_70_5 {g p f t x : Int32} {I I2 : px_I} {L L2 : px_L} (h : pb_mark g p f t I L x I2 L2) : I2 70 5 = I 70 5 := by
  unfold pb_mark at h
  obtain ⟨rfl, h⟩ := h
  rcases h with ⟨G, g1, rfl, rfl⟩ | ⟨a1, rfl, rfl⟩
  · have g2 := g1.1
    have gG : G = 41 ∨ G = 55 := by unfold bG at g2; omega
    unfold cMark; (repeat rw [px_u_out (by omega)])
  · rfl

theorem ek_mark_103_25 {g p f t x : Int32} {I I2 : px_I} {L L2 : px_L} (h : pk_mark g p f t I L x I2 L2) : I2 103 25 = I 103 25 := by
  unfold pk_mark at h
  obtain ⟨rfl, h⟩ := h
  rcases h with ⟨a1, rfl, rfl⟩ | ⟨a1, rfl, rfl⟩
  · unfold mMark; (repeat rw [px_u_out (by omega)])
  · rfl

theorem eb_when_70_5 {g p h x : Int32} {I I2 : px_I} {L L2 : px_L} (h : pb_when g p h I L x I2 L2) : I2 70 5 = I 70 5 := by
  unfold pb_when at h
  obtain ⟨rfl, h⟩ := h
  rw [h 70 (by decide) (by decide) (by decide) (by decide)]

theorem ek_when_103_25 {g p h x : Int32} {I I2 : px_I} {L L2 : px_L} (h : pk_when g p h I L x I2 L2) : I2 103 25 = I 103 25 := by
  unfold pk_when at h
  exact h.1 103 25 (by omega)

theorem eb_between_70_5 {g p q h x : Int32} {I I2 : px_I} {L L2 : px_L} (h : pb_between g p q h I L x I2 L2) : I2 70 5 = I 70 5 := by
  unfold pb_between at h
  obtain ⟨rfl, h⟩ := h
  rw [h 70 (by decide) (by decide) (by decide) (by decide)]

theorem ek_between_103_25 {g p t h x : Int32} {I I2 : px_I} {L L2 : px_L} (h : pk_between g p t h I L x I2 L2) : I2 103 25 = I 103 25 := by
  unfold pk_between at h
  exact h.1 103 25 (by omega)

theorem eb_lamps_70_5 {g p h lo hi x : Int32} {I I2 : px_I} {L L2 : px_L} (h : pb_lamps g p h lo hi I L x I2 L2) : I2 70 5 = I 70 5 := by
  unfold pb_lamps at h
  rw [h.1]

theorem ek_lamps_103_25 {g p h lo hi x : Int32} {I I2 : px_I} {L L2 : px_L} (h : pk_lamps g p h lo hi I L x I2 L2) : I2 103 25 = I 103 25 := by
  unfold pk_lamps at h
  rw [h.1]

theorem eb_count_70_5 {u lo hi x : Int32} {I I2 : px_I} {L L2 : px_L} (h : pb_count u lo hi I L x I2 L2) : I2 70 5 = I 70 5 := by
  unfold pb_count at h
  obtain ⟨rfl, h⟩ := h
  rcases h with ⟨a1, rfl, rfl⟩ | ⟨a1, rfl, rfl⟩
  · (repeat rw [px_u_out (by omega)])
  · rfl

theorem ek_count_103_25 {u lo hi x : Int32} {I I2 : px_I} {L L2 : px_L} (h : pk_count u lo hi I L x I2 L2) : I2 103 25 = I 103 25 := by
  unfold pk_count at h
  rcases h with ⟨a1, rfl, rfl, rfl⟩ | ⟨a1, rfl, rfl, rfl⟩
  · (repeat rw [px_u_out (by omega)])
  · rfl

theorem eb_unit_70_5 {h x : Int32} {I I2 : px_I} {L L2 : px_L} (h : pb_unit h I L x I2 L2) : I2 70 5 = I 70 5 := by
  unfold pb_unit at h
  rw [h.1]

theorem ek_unit_103_25 {h x : Int32} {I I2 : px_I} {L L2 : px_L} (h : pk_unit h I L x I2 L2) : I2 103 25 = I 103 25 := by
  unfold pk_unit at h
  rw [h.1]

theorem eb_fault_70_5 {x9 x : Int32} {I I2 : px_I} {L L2 : px_L} (h : pb_fault x9 I L x I2 L2) : I2 70 5 = I 70 5 := by
  unfold pb_fault at h
  rw [h.1]

theorem ek_fault_103_25 {x9 x : Int32} {I I2 : px_I} {L L2 : px_L} (h : pk_fault x9 I L x I2 L2) : I2 103 25 = I 103 25 := by
  unfold pk_fault at h
  rw [h.1]

theorem eb_tools_70_5 {a b c d e x : Int32} {I I2 : px_I} {L L2 : px_L} (h : pb_tools a b c d e I L x I2 L2) : I2 70 5 = I 70 5 := by
  unfold pb_tools at h
  obtain ⟨rfl, h⟩ := h
  rcases h with ⟨a1, rfl, a2⟩ | ⟨a1, rfl, rfl⟩
  · rw [a2 70 (by decide)]; (repeat rw [px_u_out (by omega)])
  · rfl

theorem ek_tools_103_25 {a b c d e x : Int32} {I I2 : px_I} {L L2 : px_L} (h : pk_tools a b c d e I L x I2 L2) : I2 103 25 = I 103 25 := by
  unfold pk_tools at h
  obtain ⟨rfl, h⟩ := h
  rcases h with ⟨a1, rfl, rfl⟩ | ⟨a1, rfl, rfl⟩
  · (repeat rw [px_u_out (by omega)])
  · rfl

theorem eb_run_70_5 {w h a x : Int32} {I I2 : px_I} {L L2 : px_L} (h : pb_run w h a I L x I2 L2) : I2 70 5 = I 70 5 := by
  unfold pb_run at h
  exact h.1 70 5 (by omega) (by omega) (by omega) (by omega) (by omega) (by omega) (by omega)

theorem ek_run_103_25 {w h a x : Int32} {I I2 : px_I} {L L2 : px_L} (h : pk_run w h a I L x I2 L2) : I2 103 25 = I 103 25 := by
  unfold pk_run at h
  exact h.1 103 25 (by omega) (by omega) (by omega)

theorem eb_meeting_70_5 {a f b t x9 h x : Int32} {I I2 : px_I} {L L2 : px_L} (h : pb_meeting a f b t x9 h I L x I2 L2) : I2 70 5 = I 70 5 := by
  unfold pb_meeting at h
  exact h.1 70 5 (by omega) (by omega) (by omega) (by omega) (by omega) (by omega) (by omega)

theorem ek_meeting_103_25 {a f b t x9 h x : Int32} {I I2 : px_I} {L L2 : px_L} (h : pk_meeting a f b t x9 h I L x I2 L2) : I2 103 25 = I 103 25 := by
  unfold pk_meeting at h
  exact h.1 103 25 (by omega) (by omega) (by omega)

theorem eb_there_70_5 {a lo hi x : Int32} {I I2 : px_I} {L L2 : px_L} (h : pb_there a lo hi I L x I2 L2) : I2 70 5 = I 70 5 := by
  unfold pb_there at h
  obtain ⟨rfl, h⟩ := h
  rcases h with ⟨a1, rfl, rfl⟩ | ⟨a1, rfl, rfl⟩
  · (repeat rw [px_u_out (by omega)])
  · rfl

theorem ek_there_103_25 {a lo hi x : Int32} {I I2 : px_I} {L L2 : px_L} (h : pk_there a lo hi I L x I2 L2) : I2 103 25 = I 103 25 := by
  unfold pk_there at h
  obtain ⟨rfl, h⟩ := h
  rcases h with ⟨a1, rfl, rfl⟩ | ⟨a1, rfl, rfl⟩
  · (repeat rw [px_u_out (by omega)])
  · rfl

theorem eb_fits_70_5 {a f b t x : Int32} {I I2 : px_I} {L L2 : px_L} (h : pb_fits a f b t I L x I2 L2) : I2 70 5 = I 70 5 := by
  unfold pb_fits at h
  exact h.1 70 5 (by omega) (by omega) (by omega) (by omega) (by omega) (by omega) (by omega)

theorem ek_fits_103_25 {a f b t x : Int32} {I I2 : px_I} {L L2 : px_L} (h : pk_fits a f b t I L x I2 L2) : I2 103 25 = I 103 25 := by
  unfold pk_fits at h
  exact h.1 103 25 (by omega) (by omega) (by omega)

theorem eb_ways_70_5 {a f b t x9 x : Int32} {I I2 : px_I} {L L2 : px_L} (h : pb_ways a f b t x9 I L x I2 L2) : I2 70 5 = I 70 5 := by
  unfold pb_ways at h
  exact h.1 70 5 (by omega) (by omega) (by omega) (by omega) (by omega) (by omega) (by omega)

theorem ek_ways_103_25 {a f b t x9 x : Int32} {I I2 : px_I} {L L2 : px_L} (h : pk_ways a f b t x9 I L x I2 L2) : I2 103 25 = I 103 25 := by
  unfold pk_ways at h
  exact h.1 103 25 (by omega) (by omega) (by omega)

theorem eb_seek_70_5 {a b c d e f x : Int32} {I I2 : px_I} {L L2 : px_L} (h : pb_seek a b c d e f I L x I2 L2) : I2 70 5 = I 70 5 := by
  unfold pb_seek at h
  obtain ⟨rfl, h⟩ := h
  rcases h with ⟨a1, rfl, rfl⟩ | ⟨a1, rfl, rfl⟩
  · (repeat rw [px_u_out (by omega)])
  · rfl

theorem ek_seek_103_25 {a b c d e f x : Int32} {I I2 : px_I} {L L2 : px_L} (h : pk_seek a b c d e f I L x I2 L2) : I2 103 25 = I 103 25 := by
  unfold pk_seek at h
  obtain ⟨rfl, h⟩ := h
  rcases h with ⟨a1, rfl, rfl⟩ | ⟨a1, rfl, rfl⟩
  · (repeat rw [px_u_out (by omega)])
  · rfl

theorem eb_detour_70_5 {a o h x : Int32} {I I2 : px_I} {L L2 : px_L} (h : pb_detour a o h I L x I2 L2) : I2 70 5 = I 70 5 := by
  unfold pb_detour at h
  rw [h.1]

theorem ek_detour_103_25 {a o lo x : Int32} {I I2 : px_I} {L L2 : px_L} (h : pk_detour a o lo I L x I2 L2) : I2 103 25 = I 103 25 := by
  unfold pk_detour at h
  rw [h.1]

theorem eb_table_70_5 {c v x : Int32} {I I2 : px_I} {L L2 : px_L} (h : pb_table c v I L x I2 L2) : I2 70 5 = I 70 5 := by
  unfold pb_table at h
  obtain ⟨rfl, h⟩ := h
  rcases h with ⟨a1, rfl, rfl⟩ | ⟨a1, rfl, rfl⟩
  · (repeat rw [px_u_out (by omega)])
  · rfl

theorem ek_table_103_25 {c v x : Int32} {I I2 : px_I} {L L2 : px_L} (h : pk_table c v I L x I2 L2) : I2 103 25 = I 103 25 := by
  unfold pk_table at h
  obtain ⟨rfl, h⟩ := h
  rcases h with ⟨a1, rfl, rfl⟩ | ⟨a1, rfl, rfl⟩
  · (repeat rw [px_u_out (by omega)])
  · rfl

theorem eb_repair_70_5 {g p y x : Int32} {I I2 : px_I} {L L2 : px_L} (h : pb_repair g p y I L x I2 L2) : I2 70 5 = I 70 5 := by
  unfold pb_repair at h
  obtain ⟨rfl, h⟩ := h
  rcases h with ⟨G, g1, rfl, rfl⟩ | ⟨a1, rfl, rfl⟩
  · have g2 := g1.1
    have gG : G = 41 ∨ G = 55 := by unfold bG at g2; omega
    unfold cRep; (repeat rw [px_u_out (by omega)])
  · rfl

theorem ek_repair_103_25 {g p y x : Int32} {I I2 : px_I} {L L2 : px_L} (h : pk_repair g p y I L x I2 L2) : I2 103 25 = I 103 25 := by
  unfold pk_repair at h
  obtain ⟨rfl, h⟩ := h
  rcases h with ⟨a1, rfl, rfl⟩ | ⟨a1, rfl, rfl⟩
  · (repeat rw [px_u_out (by omega)])
  · rfl

theorem eb_lime_70_5 {v x : Int32} {I I2 : px_I} {L L2 : px_L} (h : pb_lime v I L x I2 L2) : I2 70 5 = I 70 5 := by
  unfold pb_lime at h
  obtain ⟨rfl, h⟩ := h
  rcases h with ⟨a1, rfl, rfl⟩ | ⟨a1, rfl, rfl⟩
  · (repeat rw [px_u_out (by omega)])
  · rfl

theorem ek_lime_103_25 {v x : Int32} {I I2 : px_I} {L L2 : px_L} (h : pk_lime v I L x I2 L2) : I2 103 25 = I 103 25 := by
  unfold pk_lime at h
  obtain ⟨rfl, h⟩ := h
  rcases h with ⟨a1, a2, rfl, rfl⟩ | ⟨a1, rfl, rfl⟩
  · (repeat rw [px_u_out (by omega)])
  · rfl

theorem eb_flow_70_5 {g y k h x : Int32} {I I2 : px_I} {L L2 : px_L} (h : pb_flow g y k h I L x I2 L2) : I2 70 5 = I 70 5 := by
  unfold pb_flow at h
  exact h.1 70 5 (by omega)

theorem ek_flow_103_25 {g y k h x : Int32} {I I2 : px_I} {L L2 : px_L} (h : pk_flow g y k h I L x I2 L2) : I2 103 25 = I 103 25 := by
  unfold pk_flow at h
  exact h.1 103 25 (by omega)

theorem eb_narrow_70_5 {g y k x : Int32} {I I2 : px_I} {L L2 : px_L} (h : pb_narrow g y k I L x I2 L2) : I2 70 5 = I 70 5 := by
  unfold pb_narrow at h
  exact h.1 70 5 (by omega)

theorem ek_narrow_103_25 {g y k x : Int32} {I I2 : px_I} {L L2 : px_L} (h : pk_narrow g y k I L x I2 L2) : I2 103 25 = I 103 25 := by
  unfold pk_narrow at h
  exact h.1 103 25 (by omega)

theorem eb_about_70_5 {w x : Int32} {I I2 : px_I} {L L2 : px_L} (h : pb_about w I L x I2 L2) : I2 70 5 = I 70 5 := by
  unfold pb_about at h
  rw [h.1]

theorem ek_about_103_25 {w x : Int32} {I I2 : px_I} {L L2 : px_L} (h : pk_about w I L x I2 L2) : I2 103 25 = I 103 25 := by
  unfold pk_about at h
  rw [h.1]

theorem eb_days_71_r {x9 x : Int32} {I I2 : px_I} {L L2 : px_L} (h : pb_days x9 I L x I2 L2) : I2 71 = I 71 := by
  unfold pb_days at h
  obtain ⟨rfl, h⟩ := h
  rcases h with ⟨a1, a2, rfl, rfl⟩ | ⟨a1, rfl, rfl⟩
  · (repeat rw [px_u_ne (by omega)])
  · rfl

theorem ek_days_121_r {x9 x : Int32} {I I2 : px_I} {L L2 : px_L} (h : pk_days x9 I L x I2 L2) : I2 121 = I 121 := by
  unfold pk_days at h
  obtain ⟨rfl, h⟩ := h
  rcases h with ⟨a1, a2, a3, rfl, rfl⟩ | ⟨a1, rfl, rfl⟩
  · (repeat rw [px_u_ne (by omega)])
  · rfl

theorem eb_station_71_r { x : Int32} {I I2 : px_I} {L L2 : px_L} (h : pb_station  I L x I2 L2) : I2 71 = I 71 := by
  unfold pb_station at h
  obtain ⟨rfl, h⟩ := h
  rcases h with ⟨a1, rfl, rfl⟩ | ⟨a1, rfl, rfl⟩
  · (repeat rw [px_u_ne (by omega)])
  · rfl

theorem ek_station_121_r { x : Int32} {I I2 : px_I} {L L2 : px_L} (h : pk_station  I L x I2 L2) : I2 121 = I 121 := by
  unfold pk_station at h
  obtain ⟨rfl, h⟩ := h
  rcases h with ⟨a1, rfl, rfl⟩ | ⟨a1, rfl, rfl⟩
  · (repeat rw [px_u_ne (by omega)])
  · rfl

theorem eb_sight_71_r {a f t lo hi x : Int32} {I I2 : px_I} {L L2 : px_L} (h : pb_sight a f t lo hi I L x I2 L2) : I2 71 = I 71 := by
  unfold pb_sight at h
  obtain ⟨rfl, h⟩ := h
  rcases h with ⟨a1, rfl, rfl⟩ | ⟨a1, rfl, rfl⟩
  · (repeat rw [px_u_ne (by omega)])
  · rfl

theorem ek_sight_121_r {a f t lo hi x : Int32} {I I2 : px_I} {L L2 : px_L} (h : pk_sight a f t lo hi I L x I2 L2) : I2 121 = I 121 := by
  unfold pk_sight at h
  obtain ⟨rfl, h⟩ := h
  rcases h with ⟨a1, rfl, rfl⟩ | ⟨a1, rfl, rfl⟩
  · (repeat rw [px_u_ne (by omega)])
  · rfl

theorem eb_closed_71_r {a k x : Int32} {I I2 : px_I} {L L2 : px_L} (h : pb_closed a k I L x I2 L2) : I2 71 = I 71 := by
  unfold pb_closed at h
  obtain ⟨rfl, h⟩ := h
  rfl

theorem ek_closed_121_r {a k x : Int32} {I I2 : px_I} {L L2 : px_L} (h : pk_closed a k I L x I2 L2) : I2 121 = I 121 := by
  unfold pk_closed at h
  exact funext fun j => h.1 121 j (by omega)

theorem eb_span_71_r {a t k h x : Int32} {I I2 : px_I} {L L2 : px_L} (h : pb_span a t k h I L x I2 L2) : I2 71 = I 71 := by
  unfold pb_span at h
  obtain ⟨rfl, h⟩ := h
  rfl

theorem ek_span_121_r {a t k h x : Int32} {I I2 : px_I} {L L2 : px_L} (h : pk_span a t k h I L x I2 L2) : I2 121 = I 121 := by
  unfold pk_span at h
  exact funext fun j => h.1 121 j (by omega)

theorem eb_gap_71_r {a f t k h x : Int32} {I I2 : px_I} {L L2 : px_L} (h : pb_gap a f t k h I L x I2 L2) : I2 71 = I 71 := by
  unfold pb_gap at h
  obtain ⟨rfl, h⟩ := h
  rfl

theorem ek_gap_121_r {a f t k h x : Int32} {I I2 : px_I} {L L2 : px_L} (h : pk_gap a f t k h I L x I2 L2) : I2 121 = I 121 := by
  unfold pk_gap at h
  exact funext fun j => h.1 121 j (by omega)

theorem eb_blamed_71_r {a k i x : Int32} {I I2 : px_I} {L L2 : px_L} (h : pb_blamed a k i I L x I2 L2) : I2 71 = I 71 := by
  unfold pb_blamed at h
  obtain ⟨rfl, h⟩ := h
  rfl

theorem ek_blamed_121_r {a k i x : Int32} {I I2 : px_I} {L L2 : px_L} (h : pk_blamed a k i I L x I2 L2) : I2 121 = I 121 := by
  unfold pk_blamed at h
  exact funext fun j => h.1 121 j (by omega)

theorem eb_reach_71_r {g lo hi sl fa w st x : Int32} {I I2 : px_I} {L L2 : px_L} (h : pb_reach g lo hi sl fa w st I L x I2 L2) : I2 71 = I 71 := by
  unfold pb_reach at h
  obtain ⟨rfl, h⟩ := h
  rcases h with ⟨G, ⟨g1, g2, g3⟩, rfl, rfl⟩ | ⟨a1, rfl, rfl⟩
  · have gG : G = 41 ∨ G = 55 := by unfold bG at g1; omega
    rw [cReach_o (by omega)]
  · rfl

theorem ek_reach_121_r {g lo hi sl fa w st x : Int32} {I I2 : px_I} {L L2 : px_L} (h : pk_reach g lo hi sl fa w st I L x I2 L2) : I2 121 = I 121 := by
  unfold pk_reach at h
  obtain ⟨rfl, h⟩ := h
  rcases h with ⟨a1, rfl, rfl⟩ | ⟨a1, rfl, rfl⟩
  · unfold mReach; (repeat rw [px_u_ne (by omega)])
  · rfl

theorem eb_mouth_71_r {g st x : Int32} {I I2 : px_I} {L L2 : px_L} (h : pb_mouth g st I L x I2 L2) : I2 71 = I 71 := by
  unfold pb_mouth at h
  obtain ⟨rfl, h⟩ := h
  rcases h with ⟨G, g1, rfl⟩ | rfl
  · have gG : G = 41 ∨ G = 55 := by unfold bG at g1; omega
    (repeat rw [px_u_ne (by omega)])
  · rfl

theorem ek_mouth_121_r {g st x : Int32} {I I2 : px_I} {L L2 : px_L} (h : pk_mouth g st I L x I2 L2) : I2 121 = I 121 := by
  unfold pk_mouth at h
  obtain ⟨rfl, h⟩ := h
  rcases h with ⟨a1, a2, rfl, rfl⟩ | ⟨a1, rfl, rfl⟩
  · (repeat rw [px_u_ne (by omega)])
  · rfl

theorem eb_mark_71_r {g p f t x : Int32} {I I2 : px_I} {L L2 : px_L} (h : pb_mark g p f t I L x I2 L2) : I2 71 = I 71 := by
  unfold pb_mark at h
  obtain ⟨rfl, h⟩ := h
  rcases h with ⟨G, g1, rfl, rfl⟩ | ⟨a1, rfl, rfl⟩
  · have g2 := g1.1
    have gG : G = 41 ∨ G = 55 := by unfold bG at g2; omega
    unfold cMark; (repeat rw [px_u_ne (by omega)])
  · rfl

theorem ek_mark_121_r {g p f t x : Int32} {I I2 : px_I} {L L2 : px_L} (h : pk_mark g p f t I L x I2 L2) : I2 121 = I 121 := by
  unfold pk_mark at h
  obtain ⟨rfl, h⟩ := h
  rcases h with ⟨a1, rfl, rfl⟩ | ⟨a1, rfl, rfl⟩
  · unfold mMark; (repeat rw [px_u_ne (by omega)])
  · rfl

theorem eb_when_71_r {g p h x : Int32} {I I2 : px_I} {L L2 : px_L} (h : pb_when g p h I L x I2 L2) : I2 71 = I 71 := by
  unfold pb_when at h
  obtain ⟨rfl, h⟩ := h
  rw [h 71 (by decide) (by decide) (by decide) (by decide)]

theorem ek_when_121_r {g p h x : Int32} {I I2 : px_I} {L L2 : px_L} (h : pk_when g p h I L x I2 L2) : I2 121 = I 121 := by
  unfold pk_when at h
  exact funext fun j => h.1 121 j (by omega)

theorem eb_between_71_r {g p q h x : Int32} {I I2 : px_I} {L L2 : px_L} (h : pb_between g p q h I L x I2 L2) : I2 71 = I 71 := by
  unfold pb_between at h
  obtain ⟨rfl, h⟩ := h
  rw [h 71 (by decide) (by decide) (by decide) (by decide)]

theorem ek_between_121_r {g p t h x : Int32} {I I2 : px_I} {L L2 : px_L} (h : pk_between g p t h I L x I2 L2) : I2 121 = I 121 := by
  unfold pk_between at h
  exact funext fun j => h.1 121 j (by omega)

theorem eb_lamps_71_r {g p h lo hi x : Int32} {I I2 : px_I} {L L2 : px_L} (h : pb_lamps g p h lo hi I L x I2 L2) : I2 71 = I 71 := by
  unfold pb_lamps at h
  rw [h.1]

theorem ek_lamps_121_r {g p h lo hi x : Int32} {I I2 : px_I} {L L2 : px_L} (h : pk_lamps g p h lo hi I L x I2 L2) : I2 121 = I 121 := by
  unfold pk_lamps at h
  rw [h.1]

theorem eb_count_71_r {u lo hi x : Int32} {I I2 : px_I} {L L2 : px_L} (h : pb_count u lo hi I L x I2 L2) : I2 71 = I 71 := by
  unfold pb_count at h
  obtain ⟨rfl, h⟩ := h
  rcases h with ⟨a1, rfl, rfl⟩ | ⟨a1, rfl, rfl⟩
  · (repeat rw [px_u_ne (by omega)])
  · rfl

theorem ek_count_121_r {u lo hi x : Int32} {I I2 : px_I} {L L2 : px_L} (h : pk_count u lo hi I L x I2 L2) : I2 121 = I 121 := by
  unfold pk_count at h
  rcases h with ⟨a1, rfl, rfl, rfl⟩ | ⟨a1, rfl, rfl, rfl⟩
  · (repeat rw [px_u_ne (by omega)])
  · rfl

theorem eb_unit_71_r {h x : Int32} {I I2 : px_I} {L L2 : px_L} (h : pb_unit h I L x I2 L2) : I2 71 = I 71 := by
  unfold pb_unit at h
  rw [h.1]

theorem ek_unit_121_r {h x : Int32} {I I2 : px_I} {L L2 : px_L} (h : pk_unit h I L x I2 L2) : I2 121 = I 121 := by
  unfold pk_unit at h
  rw [h.1]

theorem eb_end_71_r {x9 x : Int32} {I I2 : px_I} {L L2 : px_L} (h : pb_end x9 I L x I2 L2) : I2 71 = I 71 := by
  unfold pb_end at h
  obtain ⟨rfl, h⟩ := h
  rcases h with ⟨a1, rfl, rfl⟩ | ⟨a1, rfl, rfl⟩
  · (repeat rw [px_u_ne (by omega)])
  · rfl

theorem ek_end_121_r {x9 x : Int32} {I I2 : px_I} {L L2 : px_L} (h : pk_end x9 I L x I2 L2) : I2 121 = I 121 := by
  unfold pk_end at h
  obtain ⟨rfl, h⟩ := h
  rcases h with ⟨a1, a2, rfl, rfl⟩ | ⟨a1, rfl, rfl⟩
  · (repeat rw [px_u_ne (by omega)])
  · rfl

theorem eb_way_71_r {i x : Int32} {I I2 : px_I} {L L2 : px_L} (h : pb_way i I L x I2 L2) : I2 71 = I 71 := by
  unfold pb_way at h
  exact funext fun j => h.1 71 j (by omega) (by omega) (by omega) (by omega) (by omega)

theorem ek_way_121_r {w x : Int32} {I I2 : px_I} {L L2 : px_L} (h : pk_way w I L x I2 L2) : I2 121 = I 121 := by
  unfold pk_way at h
  obtain ⟨rfl, h⟩ := h
  rcases h with ⟨a1, a2, rfl⟩ | ⟨a1, a2, a3⟩
  · rfl
  · exact funext fun j => a2 121 j (by omega) (by omega)

theorem eb_fault_71_r {x9 x : Int32} {I I2 : px_I} {L L2 : px_L} (h : pb_fault x9 I L x I2 L2) : I2 71 = I 71 := by
  unfold pb_fault at h
  rw [h.1]

theorem ek_fault_121_r {x9 x : Int32} {I I2 : px_I} {L L2 : px_L} (h : pk_fault x9 I L x I2 L2) : I2 121 = I 121 := by
  unfold pk_fault at h
  rw [h.1]

theorem eb_tools_71_r {a b c d e x : Int32} {I I2 : px_I} {L L2 : px_L} (h : pb_tools a b c d e I L x I2 L2) : I2 71 = I 71 := by
  unfold pb_tools at h
  obtain ⟨rfl, h⟩ := h
  rcases h with ⟨a1, rfl, a2⟩ | ⟨a1, rfl, rfl⟩
  · rw [a2 71 (by decide)]; (repeat rw [px_u_ne (by omega)])
  · rfl

theorem ek_tools_121_r {a b c d e x : Int32} {I I2 : px_I} {L L2 : px_L} (h : pk_tools a b c d e I L x I2 L2) : I2 121 = I 121 := by
  unfold pk_tools at h
  obtain ⟨rfl, h⟩ := h
  rcases h with ⟨a1, rfl, rfl⟩ | ⟨a1, rfl, rfl⟩
  · (repeat rw [px_u_ne (by omega)])
  · rfl

theorem eb_run_71_r {w h a x : Int32} {I I2 : px_I} {L L2 : px_L} (h : pb_run w h a I L x I2 L2) : I2 71 = I 71 := by
  unfold pb_run at h
  exact funext fun j => h.1 71 j (by omega) (by omega) (by omega) (by omega) (by omega) (by omega) (by omega)

theorem ek_run_121_r {w h a x : Int32} {I I2 : px_I} {L L2 : px_L} (h : pk_run w h a I L x I2 L2) : I2 121 = I 121 := by
  unfold pk_run at h
  exact funext fun j => h.1 121 j (by omega) (by omega) (by omega)

theorem eb_meeting_71_r {a f b t x9 h x : Int32} {I I2 : px_I} {L L2 : px_L} (h : pb_meeting a f b t x9 h I L x I2 L2) : I2 71 = I 71 := by
  unfold pb_meeting at h
  exact funext fun j => h.1 71 j (by omega) (by omega) (by omega) (by omega) (by omega) (by omega) (by omega)

theorem ek_meeting_121_r {a f b t x9 h x : Int32} {I I2 : px_I} {L L2 : px_L} (h : pk_meeting a f b t x9 h I L x I2 L2) : I2 121 = I 121 := by
  unfold pk_meeting at h
  exact funext fun j => h.1 121 j (by omega) (by omega) (by omega)

theorem eb_there_71_r {a lo hi x : Int32} {I I2 : px_I} {L L2 : px_L} (h : pb_there a lo hi I L x I2 L2) : I2 71 = I 71 := by
  unfold pb_there at h
  obtain ⟨rfl, h⟩ := h
  rcases h with ⟨a1, rfl, rfl⟩ | ⟨a1, rfl, rfl⟩
  · (repeat rw [px_u_ne (by omega)])
  · rfl

theorem ek_there_121_r {a lo hi x : Int32} {I I2 : px_I} {L L2 : px_L} (h : pk_there a lo hi I L x I2 L2) : I2 121 = I 121 := by
  unfold pk_there at h
  obtain ⟨rfl, h⟩ := h
  rcases h with ⟨a1, rfl, rfl⟩ | ⟨a1, rfl, rfl⟩
  · (repeat rw [px_u_ne (by omega)])
  · rfl

theorem eb_fits_71_r {a f b t x : Int32} {I I2 : px_I} {L L2 : px_L} (h : pb_fits a f b t I L x I2 L2) : I2 71 = I 71 := by
  unfold pb_fits at h
  exact funext fun j => h.1 71 j (by omega) (by omega) (by omega) (by omega) (by omega) (by omega) (by omega)

theorem ek_fits_121_r {a f b t x : Int32} {I I2 : px_I} {L L2 : px_L} (h : pk_fits a f b t I L x I2 L2) : I2 121 = I 121 := by
  unfold pk_fits at h
  exact funext fun j => h.1 121 j (by omega) (by omega) (by omega)

theorem eb_ways_71_r {a f b t x9 x : Int32} {I I2 : px_I} {L L2 : px_L} (h : pb_ways a f b t x9 I L x I2 L2) : I2 71 = I 71 := by
  unfold pb_ways at h
  exact funext fun j => h.1 71 j (by omega) (by omega) (by omega) (by omega) (by omega) (by omega) (by omega)

theorem ek_ways_121_r {a f b t x9 x : Int32} {I I2 : px_I} {L L2 : px_L} (h : pk_ways a f b t x9 I L x I2 L2) : I2 121 = I 121 := by
  unfold pk_ways at h
  exact funext fun j => h.1 121 j (by omega) (by omega) (by omega)

theorem eb_seek_71_r {a b c d e f x : Int32} {I I2 : px_I} {L L2 : px_L} (h : pb_seek a b c d e f I L x I2 L2) : I2 71 = I 71 := by
  unfold pb_seek at h
  obtain ⟨rfl, h⟩ := h
  rcases h with ⟨a1, rfl, rfl⟩ | ⟨a1, rfl, rfl⟩
  · (repeat rw [px_u_ne (by omega)])
  · rfl

theorem ek_seek_121_r {a b c d e f x : Int32} {I I2 : px_I} {L L2 : px_L} (h : pk_seek a b c d e f I L x I2 L2) : I2 121 = I 121 := by
  unfold pk_seek at h
  obtain ⟨rfl, h⟩ := h
  rcases h with ⟨a1, rfl, rfl⟩ | ⟨a1, rfl, rfl⟩
  · (repeat rw [px_u_ne (by omega)])
  · rfl

theorem eb_detour_71_r {a o h x : Int32} {I I2 : px_I} {L L2 : px_L} (h : pb_detour a o h I L x I2 L2) : I2 71 = I 71 := by
  unfold pb_detour at h
  rw [h.1]

theorem ek_detour_121_r {a o lo x : Int32} {I I2 : px_I} {L L2 : px_L} (h : pk_detour a o lo I L x I2 L2) : I2 121 = I 121 := by
  unfold pk_detour at h
  rw [h.1]

theorem eb_table_71_r {c v x : Int32} {I I2 : px_I} {L L2 : px_L} (h : pb_table c v I L x I2 L2) : I2 71 = I 71 := by
  unfold pb_table at h
  obtain ⟨rfl, h⟩ := h
  rcases h with ⟨a1, rfl, rfl⟩ | ⟨a1, rfl, rfl⟩
  · (repeat rw [px_u_ne (by omega)])
  · rfl

theorem ek_table_121_r {c v x : Int32} {I I2 : px_I} {L L2 : px_L} (h : pk_table c v I L x I2 L2) : I2 121 = I 121 := by
  unfold pk_table at h
  obtain ⟨rfl, h⟩ := h
  rcases h with ⟨a1, rfl, rfl⟩ | ⟨a1, rfl, rfl⟩
  · (repeat rw [px_u_ne (by omega)])
  · rfl

theorem eb_repair_71_r {g p y x : Int32} {I I2 : px_I} {L L2 : px_L} (h : pb_repair g p y I L x I2 L2) : I2 71 = I 71 := by
  unfold pb_repair at h
  obtain ⟨rfl, h⟩ := h
  rcases h with ⟨G, g1, rfl, rfl⟩ | ⟨a1, rfl, rfl⟩
  · have g2 := g1.1
    have gG : G = 41 ∨ G = 55 := by unfold bG at g2; omega
    unfold cRep; (repeat rw [px_u_ne (by omega)])
  · rfl

theorem ek_repair_121_r {g p y x : Int32} {I I2 : px_I} {L L2 : px_L} (h : pk_repair g p y I L x I2 L2) : I2 121 = I 121 := by
  unfold pk_repair at h
  obtain ⟨rfl, h⟩ := h
  rcases h with ⟨a1, rfl, rfl⟩ | ⟨a1, rfl, rfl⟩
  · (repeat rw [px_u_ne (by omega)])
  · rfl

theorem eb_lime_71_r {v x : Int32} {I I2 : px_I} {L L2 : px_L} (h : pb_lime v I L x I2 L2) : I2 71 = I 71 := by
  unfold pb_lime at h
  obtain ⟨rfl, h⟩ := h
  rcases h with ⟨a1, rfl, rfl⟩ | ⟨a1, rfl, rfl⟩
  · (repeat rw [px_u_ne (by omega)])
  · rfl

theorem ek_lime_121_r {v x : Int32} {I I2 : px_I} {L L2 : px_L} (h : pk_lime v I L x I2 L2) : I2 121 = I 121 := by
  unfold pk_lime at h
  obtain ⟨rfl, h⟩ := h
  rcases h with ⟨a1, a2, rfl, rfl⟩ | ⟨a1, rfl, rfl⟩
  · (repeat rw [px_u_ne (by omega)])
  · rfl

theorem eb_flow_71_r {g y k h x : Int32} {I I2 : px_I} {L L2 : px_L} (h : pb_flow g y k h I L x I2 L2) : I2 71 = I 71 := by
  unfold pb_flow at h
  exact funext fun j => h.1 71 j (by omega)

theorem ek_flow_121_r {g y k h x : Int32} {I I2 : px_I} {L L2 : px_L} (h : pk_flow g y k h I L x I2 L2) : I2 121 = I 121 := by
  unfold pk_flow at h
  exact funext fun j => h.1 121 j (by omega)

theorem eb_narrow_71_r {g y k x : Int32} {I I2 : px_I} {L L2 : px_L} (h : pb_narrow g y k I L x I2 L2) : I2 71 = I 71 := by
  unfold pb_narrow at h
  exact funext fun j => h.1 71 j (by omega)

theorem ek_narrow_121_r {g y k x : Int32} {I I2 : px_I} {L L2 : px_L} (h : pk_narrow g y k I L x I2 L2) : I2 121 = I 121 := by
  unfold pk_narrow at h
  exact funext fun j => h.1 121 j (by omega)

theorem eb_about_71_r {w x : Int32} {I I2 : px_I} {L L2 : px_L} (h : pb_about w I L x I2 L2) : I2 71 = I 71 := by
  unfold pb_about at h
  rw [h.1]

theorem ek_about_121_r {w x : Int32} {I I2 : px_I} {L L2 : px_L} (h : pk_about w I L x I2 L2) : I2 121 = I 121 := by
  unfold pk_about at h
  rw [h.1]

theorem eb_days_76_14 {x9 x : Int32} {I I2 : px_I} {L L2 : px_L} (h : pb_days x9 I L x I2 L2) : I2 76 14 = I 76 14 := by
  unfold pb_days at h
  obtain ⟨rfl, h⟩ := h
  rcases h with ⟨a1, a2, rfl, rfl⟩ | ⟨a1, rfl, rfl⟩
  · (repeat rw [px_u_out (by omega)])
  · rfl

theorem eb_days_76_15 {x9 x : Int32} {I I2 : px_I} {L L2 : px_L} (h : pb_days x9 I L x I2 L2) : I2 76 15 = I 76 15 := by
  unfold pb_days at h
  obtain ⟨rfl, h⟩ := h
  rcases h with ⟨a1, a2, rfl, rfl⟩ | ⟨a1, rfl, rfl⟩
  · (repeat rw [px_u_out (by omega)])
  · rfl

theorem ek_days_103_33 {x9 x : Int32} {I I2 : px_I} {L L2 : px_L} (h : pk_days x9 I L x I2 L2) : I2 103 33 = I 103 33 := by
  unfold pk_days at h
  obtain ⟨rfl, h⟩ := h
  rcases h with ⟨a1, a2, a3, rfl, rfl⟩ | ⟨a1, rfl, rfl⟩
  · (repeat rw [px_u_out (by omega)])
  · rfl

theorem ek_days_103_34 {x9 x : Int32} {I I2 : px_I} {L L2 : px_L} (h : pk_days x9 I L x I2 L2) : I2 103 34 = I 103 34 := by
  unfold pk_days at h
  obtain ⟨rfl, h⟩ := h
  rcases h with ⟨a1, a2, a3, rfl, rfl⟩ | ⟨a1, rfl, rfl⟩
  · (repeat rw [px_u_out (by omega)])
  · rfl

theorem eb_station_76_14 { x : Int32} {I I2 : px_I} {L L2 : px_L} (h : pb_station  I L x I2 L2) : I2 76 14 = I 76 14 := by
  unfold pb_station at h
  obtain ⟨rfl, h⟩ := h
  rcases h with ⟨a1, rfl, rfl⟩ | ⟨a1, rfl, rfl⟩
  · (repeat rw [px_u_out (by omega)])
  · rfl

theorem eb_station_76_15 { x : Int32} {I I2 : px_I} {L L2 : px_L} (h : pb_station  I L x I2 L2) : I2 76 15 = I 76 15 := by
  unfold pb_station at h
  obtain ⟨rfl, h⟩ := h
  rcases h with ⟨a1, rfl, rfl⟩ | ⟨a1, rfl, rfl⟩
  · (repeat rw [px_u_out (by omega)])
  · rfl

theorem ek_station_103_33 { x : Int32} {I I2 : px_I} {L L2 : px_L} (h : pk_station  I L x I2 L2) : I2 103 33 = I 103 33 := by
  unfold pk_station at h
  obtain ⟨rfl, h⟩ := h
  rcases h with ⟨a1, rfl, rfl⟩ | ⟨a1, rfl, rfl⟩
  · (repeat rw [px_u_out (by omega)])
  · rfl

theorem ek_station_103_34 { x : Int32} {I I2 : px_I} {L L2 : px_L} (h : pk_station  I L x I2 L2) : I2 103 34 = I 103 34 := by
  unfold pk_station at h
  obtain ⟨rfl, h⟩ := h
  rcases h with ⟨a1, rfl, rfl⟩ | ⟨a1, rfl, rfl⟩
  · (repeat rw [px_u_out (by omega)])
  · rfl

theorem eb_sight_76_14 {a f t lo hi x : Int32} {I I2 : px_I} {L L2 : px_L} (h : pb_sight a f t lo hi I L x I2 L2) : I2 76 14 = I 76 14 := by
  unfold pb_sight at h
  obtain ⟨rfl, h⟩ := h
  rcases h with ⟨a1, rfl, rfl⟩ | ⟨a1, rfl, rfl⟩
  · (repeat rw [px_u_out (by omega)])
  · rfl

theorem eb_sight_76_15 {a f t lo hi x : Int32} {I I2 : px_I} {L L2 : px_L} (h : pb_sight a f t lo hi I L x I2 L2) : I2 76 15 = I 76 15 := by
  unfold pb_sight at h
  obtain ⟨rfl, h⟩ := h
  rcases h with ⟨a1, rfl, rfl⟩ | ⟨a1, rfl, rfl⟩
  · (repeat rw [px_u_out (by omega)])
  · rfl

theorem ek_sight_103_33 {a f t lo hi x : Int32} {I I2 : px_I} {L L2 : px_L} (h : pk_sight a f t lo hi I L x I2 L2) : I2 103 33 = I 103 33 := by
  unfold pk_sight at h
  obtain ⟨rfl, h⟩ := h
  rcases h with ⟨a1, rfl, rfl⟩ | ⟨a1, rfl, rfl⟩
  · (repeat rw [px_u_out (by omega)])
  · rfl

theorem ek_sight_103_34 {a f t lo hi x : Int32} {I I2 : px_I} {L L2 : px_L} (h : pk_sight a f t lo hi I L x I2 L2) : I2 103 34 = I 103 34 := by
  unfold pk_sight at h
  obtain ⟨rfl, h⟩ := h
  rcases h with ⟨a1, rfl, rfl⟩ | ⟨a1, rfl, rfl⟩
  · (repeat rw [px_u_out (by omega)])
  · rfl

theorem eb_closed_76_14 {a k x : Int32} {I I2 : px_I} {L L2 : px_L} (h : pb_closed a k I L x I2 L2) : I2 76 14 = I 76 14 := by
  unfold pb_closed at h
  obtain ⟨rfl, h⟩ := h
  rfl

theorem eb_closed_76_15 {a k x : Int32} {I I2 : px_I} {L L2 : px_L} (h : pb_closed a k I L x I2 L2) : I2 76 15 = I 76 15 := by
  unfold pb_closed at h
  obtain ⟨rfl, h⟩ := h
  rfl

theorem ek_closed_103_33 {a k x : Int32} {I I2 : px_I} {L L2 : px_L} (h : pk_closed a k I L x I2 L2) : I2 103 33 = I 103 33 := by
  unfold pk_closed at h
  exact h.1 103 33 (by omega)

theorem ek_closed_103_34 {a k x : Int32} {I I2 : px_I} {L L2 : px_L} (h : pk_closed a k I L x I2 L2) : I2 103 34 = I 103 34 := by
  unfold pk_closed at h
  exact h.1 103 34 (by omega)

theorem eb_span_76_14 {a t k h x : Int32} {I I2 : px_I} {L L2 : px_L} (h : pb_span a t k h I L x I2 L2) : I2 76 14 = I 76 14 := by
  unfold pb_span at h
  obtain ⟨rfl, h⟩ := h
  rfl

theorem eb_span_76_15 {a t k h x : Int32} {I I2 : px_I} {L L2 : px_L} (h : pb_span a t k h I L x I2 L2) : I2 76 15 = I 76 15 := by
  unfold pb_span at h
  obtain ⟨rfl, h⟩ := h
  rfl

theorem ek_span_103_33 {a t k h x : Int32} {I I2 : px_I} {L L2 : px_L} (h : pk_span a t k h I L x I2 L2) : I2 103 33 = I 103 33 := by
  unfold pk_span at h
  exact h.1 103 33 (by omega)

theorem ek_span_103_34 {a t k h x : Int32} {I I2 : px_I} {L L2 : px_L} (h : pk_span a t k h I L x I2 L2) : I2 103 34 = I 103 34 := by
  unfold pk_span at h
  exact h.1 103 34 (by omega)

theorem eb_gap_76_14 {a f t k h x : Int32} {I I2 : px_I} {L L2 : px_L} (h : pb_gap a f t k h I L x I2 L2) : I2 76 14 = I 76 14 := by
  unfold pb_gap at h
  obtain ⟨rfl, h⟩ := h
  rfl

theorem eb_gap_76_15 {a f t k h x : Int32} {I I2 : px_I} {L L2 : px_L} (h : pb_gap a f t k h I L x I2 L2) : I2 76 15 = I 76 15 := by
  unfold pb_gap at h
  obtain ⟨rfl, h⟩ := h
  rfl

theorem ek_gap_103_33 {a f t k h x : Int32} {I I2 : px_I} {L L2 : px_L} (h : pk_gap a f t k h I L x I2 L2) : I2 103 33 = I 103 33 := by
  unfold pk_gap at h
  exact h.1 103 33 (by omega)

theorem ek_gap_103_34 {a f t k h x : Int32} {I I2 : px_I} {L L2 : px_L} (h : pk_gap a f t k h I L x I2 L2) : I2 103 34 = I 103 34 := by
  unfold pk_gap at h
  exact h.1 103 34 (by omega)

theorem eb_blamed_76_14 {a k i x : Int32} {I I2 : px_I} {L L2 : px_L} (h : pb_blamed a k i I L x I2 L2) : I2 76 14 = I 76 14 := by
  unfold pb_blamed at h
  obtain ⟨rfl, h⟩ := h
  rfl

theorem eb_blamed_76_15 {a k i x : Int32} {I I2 : px_I} {L L2 : px_L} (h : pb_blamed a k i I L x I2 L2) : I2 76 15 = I 76 15 := by
  unfold pb_blamed at h
  obtain ⟨rfl, h⟩ := h
  rfl

theorem ek_blamed_103_33 {a k i x : Int32} {I I2 : px_I} {L L2 : px_L} (h : pk_blamed a k i I L x I2 L2) : I2 103 33 = I 103 33 := by
  unfold pk_blamed at h
  exact h.1 103 33 (by omega)

theorem ek_blamed_103_34 {a k i x : Int32} {I I2 : px_I} {L L2 : px_L} (h : pk_blamed a k i I L x I2 L2) : I2 103 34 = I 103 34 := by
  unfold pk_blamed at h
  exact h.1 103 34 (by omega)

theorem eb_reach_76_14 {g lo hi sl fa w st x : Int32} {I I2 : px_I} {L L2 : px_L} (h : pb_reach g lo hi sl fa w st I L x I2 L2) : I2 76 14 = I 76 14 := by
  unfold pb_reach at h
  obtain ⟨rfl, h⟩ := h
  rcases h with ⟨G, ⟨g1, g2, g3⟩, rfl, rfl⟩ | ⟨a1, rfl, rfl⟩
  · have gG : G = 41 ∨ G = 55 := by unfold bG at g1; omega
    rw [cReach_o (by omega)]
  · rfl

theorem eb_reach_76_15 {g lo hi sl fa w st x : Int32} {I I2 : px_I} {L L2 : px_L} (h : pb_reach g lo hi sl fa w st I L x I2 L2) : I2 76 15 = I 76 15 := by
  unfold pb_reach at h
  obtain ⟨rfl, h⟩ := h
  rcases h with ⟨G, ⟨g1, g2, g3⟩, rfl, rfl⟩ | ⟨a1, rfl, rfl⟩
  · have gG : G = 41 ∨ G = 55 := by unfold bG at g1; omega
    rw [cReach_o (by omega)]
  · rfl

theorem ek_reach_103_33 {g lo hi sl fa w st x : Int32} {I I2 : px_I} {L L2 : px_L} (h : pk_reach g lo hi sl fa w st I L x I2 L2) : I2 103 33 = I 103 33 := by
  unfold pk_reach at h
  obtain ⟨rfl, h⟩ := h
  rcases h with ⟨a1, rfl, rfl⟩ | ⟨a1, rfl, rfl⟩
  · unfold mReach; (repeat rw [px_u_out (by omega)])
  · rfl

theorem ek_reach_103_34 {g lo hi sl fa w st x : Int32} {I I2 : px_I} {L L2 : px_L} (h : pk_reach g lo hi sl fa w st I L x I2 L2) : I2 103 34 = I 103 34 := by
  unfold pk_reach at h
  obtain ⟨rfl, h⟩ := h
  rcases h with ⟨a1, rfl, rfl⟩ | ⟨a1, rfl, rfl⟩
  · unfold mReach; (repeat rw [px_u_out (by omega)])
  · rfl

theorem eb_mouth_76_14 {g st x : Int32} {I I2 : px_I} {L L2 : px_L} (h : pb_mouth g st I L x I2 L2) : I2 76 14 = I 76 14 := by
  unfold pb_mouth at h
  obtain ⟨rfl, h⟩ := h
  rcases h with ⟨G, g1, rfl⟩ | rfl
  · have gG : G = 41 ∨ G = 55 := by unfold bG at g1; omega
    (repeat rw [px_u_out (by omega)])
  · rfl

theorem eb_mouth_76_15 {g st x : Int32} {I I2 : px_I} {L L2 : px_L} (h : pb_mouth g st I L x I2 L2) : I2 76 15 = I 76 15 := by
  unfold pb_mouth at h
  obtain ⟨rfl, h⟩ := h
  rcases h with ⟨G, g1, rfl⟩ | rfl
  · have gG : G = 41 ∨ G = 55 := by unfold bG at g1; omega
    (repeat rw [px_u_out (by omega)])
  · rfl

theorem ek_mouth_103_33 {g st x : Int32} {I I2 : px_I} {L L2 : px_L} (h : pk_mouth g st I L x I2 L2) : I2 103 33 = I 103 33 := by
  unfold pk_mouth at h
  obtain ⟨rfl, h⟩ := h
  rcases h with ⟨a1, a2, rfl, rfl⟩ | ⟨a1, rfl, rfl⟩
  · (repeat rw [px_u_out (by omega)])
  · rfl

theorem ek_mouth_103_34 {g st x : Int32} {I I2 : px_I} {L L2 : px_L} (h : pk_mouth g st I L x I2 L2) : I2 103 34 = I 103 34 := by
  unfold pk_mouth at h
  obtain ⟨rfl, h⟩ := h
  rcases h with ⟨a1, a2, rfl, rfl⟩ | ⟨a1, rfl, rfl⟩
  · (repeat rw [px_u_out (by omega)])
  · rfl

theorem eb_mark_76_14 {g p f t x : Int32} {I I2 : px_I} {L L2 : px_L} (h : pb_mark g p f t I L x I2 L2) : I2 76 14 = I 76 14 := by
  unfold pb_mark at h
  obtain ⟨rfl, h⟩ := h
  rcases h with ⟨G, g1, rfl, rfl⟩ | ⟨a1, rfl, rfl⟩
  · have g2 := g1.1
    have gG : G = 41 ∨ G = 55 := by unfold bG at g2; omega
    unfold cMark; (repeat rw [px_u_out (by omega)])
  · rfl

theorem eb_mark_76_15 {g p f t x : Int32} {I I2 : px_I} {L L2 : px_L} (h : pb_mark g p f t I L x I2 L2) : I2 76 15 = I 76 15 := by
  unfold pb_mark at h
  obtain ⟨rfl, h⟩ := h
  rcases h with ⟨G, g1, rfl, rfl⟩ | ⟨a1, rfl, rfl⟩
  · have g2 := g1.1
    have gG : G = 41 ∨ G = 55 := by unfold bG at g2; omega
    unfold cMark; (repeat rw [px_u_out (by omega)])
  · rfl

theorem ek_mark_103_33 {g p f t x : Int32} {I I2 : px_I} {L L2 : px_L} (h : pk_mark g p f t I L x I2 L2) : I2 103 33 = I 103 33 := by
  unfold pk_mark at h
  obtain ⟨rfl, h⟩ := h
  rcases h with ⟨a1, rfl, rfl⟩ | ⟨a1, rfl, rfl⟩
  · unfold mMark; (repeat rw [px_u_out (by omega)])
  · rfl

theorem ek_mark_103_34 {g p f t x : Int32} {I I2 : px_I} {L L2 : px_L} (h : pk_mark g p f t I L x I2 L2) : I2 103 34 = I 103 34 := by
  unfold pk_mark at h
  obtain ⟨rfl, h⟩ := h
  rcases h with ⟨a1, rfl, rfl⟩ | ⟨a1, rfl, rfl⟩
  · unfold mMark; (repeat rw [px_u_out (by omega)])
  · rfl

theorem eb_when_76_14 {g p h x : Int32} {I I2 : px_I} {L L2 : px_L} (h : pb_when g p h I L x I2 L2) : I2 76 14 = I 76 14 := by
  unfold pb_when at h
  obtain ⟨rfl, h⟩ := h
  rw [h 76 (by decide) (by decide) (by decide) (by decide)]

theorem eb_when_76_15 {g p h x : Int32} {I I2 : px_I} {L L2 : px_L} (h : pb_when g p h I L x I2 L2) : I2 76 15 = I 76 15 := by
  unfold pb_when at h
  obtain ⟨rfl, h⟩ := h
  rw [h 76 (by decide) (by decide) (by decide) (by decide)]

theorem ek_when_103_33 {g p h x : Int32} {I I2 : px_I} {L L2 : px_L} (h : pk_when g p h I L x I2 L2) : I2 103 33 = I 103 33 := by
  unfold pk_when at h
  exact h.1 103 33 (by omega)

theorem ek_when_103_34 {g p h x : Int32} {I I2 : px_I} {L L2 : px_L} (h : pk_when g p h I L x I2 L2) : I2 103 34 = I 103 34 := by
  unfold pk_when at h
  exact h.1 103 34 (by omega)

theorem eb_between_76_14 {g p q h x : Int32} {I I2 : px_I} {L L2 : px_L} (h : pb_between g p q h I L x I2 L2) : I2 76 14 = I 76 14 := by
  unfold pb_between at h
  obtain ⟨rfl, h⟩ := h
  rw [h 76 (by decide) (by decide) (by decide) (by decide)]

theorem eb_between_76_15 {g p q h x : Int32} {I I2 : px_I} {L L2 : px_L} (h : pb_between g p q h I L x I2 L2) : I2 76 15 = I 76 15 := by
  unfold pb_between at h
  obtain ⟨rfl, h⟩ := h
  rw [h 76 (by decide) (by decide) (by decide) (by decide)]

theorem ek_between_103_33 {g p t h x : Int32} {I I2 : px_I} {L L2 : px_L} (h : pk_between g p t h I L x I2 L2) : I2 103 33 = I 103 33 := by
  unfold pk_between at h
  exact h.1 103 33 (by omega)

theorem ek_between_103_34 {g p t h x : Int32} {I I2 : px_I} {L L2 : px_L} (h : pk_between g p t h I L x I2 L2) : I2 103 34 = I 103 34 := by
  unfold pk_between at h
  exact h.1 103 34 (by omega)

theorem eb_lamps_76_14 {g p h lo hi x : Int32} {I I2 : px_I} {L L2 : px_L} (h : pb_lamps g p h lo hi I L x I2 L2) : I2 76 14 = I 76 14 := by
  unfold pb_lamps at h
  rw [h.1]

theorem eb_lamps_76_15 {g p h lo hi x : Int32} {I I2 : px_I} {L L2 : px_L} (h : pb_lamps g p h lo hi I L x I2 L2) : I2 76 15 = I 76 15 := by
  unfold pb_lamps at h
  rw [h.1]

theorem ek_lamps_103_33 {g p h lo hi x : Int32} {I I2 : px_I} {L L2 : px_L} (h : pk_lamps g p h lo hi I L x I2 L2) : I2 103 33 = I 103 33 := by
  unfold pk_lamps at h
  rw [h.1]

theorem ek_lamps_103_34 {g p h lo hi x : Int32} {I I2 : px_I} {L L2 : px_L} (h : pk_lamps g p h lo hi I L x I2 L2) : I2 103 34 = I 103 34 := by
  unfold pk_lamps at h
  rw [h.1]

theorem eb_count_76_14 {u lo hi x : Int32} {I I2 : px_I} {L L2 : px_L} (h : pb_count u lo hi I L x I2 L2) : I2 76 14 = I 76 14 := by
  unfold pb_count at h
  obtain ⟨rfl, h⟩ := h
  rcases h with ⟨a1, rfl, rfl⟩ | ⟨a1, rfl, rfl⟩
  · (repeat rw [px_u_out (by omega)])
  · rfl

theorem eb_count_76_15 {u lo hi x : Int32} {I I2 : px_I} {L L2 : px_L} (h : pb_count u lo hi I L x I2 L2) : I2 76 15 = I 76 15 := by
  unfold pb_count at h
  obtain ⟨rfl, h⟩ := h
  rcases h with ⟨a1, rfl, rfl⟩ | ⟨a1, rfl, rfl⟩
  · (repeat rw [px_u_out (by omega)])
  · rfl

theorem ek_count_103_33 {u lo hi x : Int32} {I I2 : px_I} {L L2 : px_L} (h : pk_count u lo hi I L x I2 L2) : I2 103 33 = I 103 33 := by
  unfold pk_count at h
  rcases h with ⟨a1, rfl, rfl, rfl⟩ | ⟨a1, rfl, rfl, rfl⟩
  · (repeat rw [px_u_out (by omega)])
  · rfl

theorem ek_count_103_34 {u lo hi x : Int32} {I I2 : px_I} {L L2 : px_L} (h : pk_count u lo hi I L x I2 L2) : I2 103 34 = I 103 34 := by
  unfold pk_count at h
  rcases h with ⟨a1, rfl, rfl, rfl⟩ | ⟨a1, rfl, rfl, rfl⟩
  · (repeat rw [px_u_out (by omega)])
  · rfl

theorem eb_unit_76_14 {h x : Int32} {I I2 : px_I} {L L2 : px_L} (h : pb_unit h I L x I2 L2) : I2 76 14 = I 76 14 := by
  unfold pb_unit at h
  rw [h.1]

theorem eb_unit_76_15 {h x : Int32} {I I2 : px_I} {L L2 : px_L} (h : pb_unit h I L x I2 L2) : I2 76 15 = I 76 15 := by
  unfold pb_unit at h
  rw [h.1]

theorem ek_unit_103_33 {h x : Int32} {I I2 : px_I} {L L2 : px_L} (h : pk_unit h I L x I2 L2) : I2 103 33 = I 103 33 := by
  unfold pk_unit at h
  rw [h.1]

theorem ek_unit_103_34 {h x : Int32} {I I2 : px_I} {L L2 : px_L} (h : pk_unit h I L x I2 L2) : I2 103 34 = I 103 34 := by
  unfold pk_unit at h
  rw [h.1]

theorem eb_feed_76_14 {a b c d e x : Int32} {I I2 : px_I} {L L2 : px_L} (h : pb_feed a b c d e I L x I2 L2) : I2 76 14 = I 76 14 := by
  unfold pb_feed at h
  obtain ⟨rfl, h⟩ := h
  rcases h with ⟨a1, rfl, rfl⟩ | ⟨a1, rfl, rfl⟩
  · rw [cApp_at _ _ 76 14 (by omega) (by omega), cApp_at _ _ 76 14 (by omega) (by omega), cApp_at _ _ 76 14 (by omega) (by omega), cApp_at _ _ 76 14 (by omega) (by omega), cApp_at _ _ 76 14 (by omega) (by omega)]
  · rfl

theorem eb_feed_76_15 {a b c d e x : Int32} {I I2 : px_I} {L L2 : px_L} (h : pb_feed a b c d e I L x I2 L2) : I2 76 15 = I 76 15 := by
  unfold pb_feed at h
  obtain ⟨rfl, h⟩ := h
  rcases h with ⟨a1, rfl, rfl⟩ | ⟨a1, rfl, rfl⟩
  · rw [cApp_at _ _ 76 15 (by omega) (by omega), cApp_at _ _ 76 15 (by omega) (by omega), cApp_at _ _ 76 15 (by omega) (by omega), cApp_at _ _ 76 15 (by omega) (by omega), cApp_at _ _ 76 15 (by omega) (by omega)]
  · rfl

theorem ek_feed_103_33 {a b c d e x : Int32} {I I2 : px_I} {L L2 : px_L} (h : pk_feed a b c d e I L x I2 L2) : I2 103 33 = I 103 33 := by
  unfold pk_feed at h
  obtain ⟨rfl, h⟩ := h
  rcases h with ⟨a1, rfl, rfl⟩ | ⟨a1, rfl, rfl⟩
  · rw [mPut_o (by omega) (by omega), mPut_o (by omega) (by omega), mPut_o (by omega) (by omega), mPut_o (by omega) (by omega), mPut_o (by omega) (by omega)]
  · rfl

theorem ek_feed_103_34 {a b c d e x : Int32} {I I2 : px_I} {L L2 : px_L} (h : pk_feed a b c d e I L x I2 L2) : I2 103 34 = I 103 34 := by
  unfold pk_feed at h
  obtain ⟨rfl, h⟩ := h
  rcases h with ⟨a1, rfl, rfl⟩ | ⟨a1, rfl, rfl⟩
  · rw [mPut_o (by omega) (by omega), mPut_o (by omega) (by omega), mPut_o (by omega) (by omega), mPut_o (by omega) (by omega), mPut_o (by omega) (by omega)]
  · rfl

theorem eb_end_76_14 {x9 x : Int32} {I I2 : px_I} {L L2 : px_L} (h : pb_end x9 I L x I2 L2) : I2 76 14 = I 76 14 := by
  unfold pb_end at h
  obtain ⟨rfl, h⟩ := h
  rcases h with ⟨a1, rfl, rfl⟩ | ⟨a1, rfl, rfl⟩
  · (repeat rw [px_u_out (by omega)])
  · rfl

theorem eb_end_76_15 {x9 x : Int32} {I I2 : px_I} {L L2 : px_L} (h : pb_end x9 I L x I2 L2) : I2 76 15 = I 76 15 := by
  unfold pb_end at h
  obtain ⟨rfl, h⟩ := h
  rcases h with ⟨a1, rfl, rfl⟩ | ⟨a1, rfl, rfl⟩
  · (repeat rw [px_u_out (by omega)])
  · rfl

theorem ek_end_103_33 {x9 x : Int32} {I I2 : px_I} {L L2 : px_L} (h : pk_end x9 I L x I2 L2) : I2 103 33 = I 103 33 := by
  unfold pk_end at h
  obtain ⟨rfl, h⟩ := h
  rcases h with ⟨a1, a2, rfl, rfl⟩ | ⟨a1, rfl, rfl⟩
  · (repeat rw [px_u_out (by omega)])
  · rfl

theorem ek_end_103_34 {x9 x : Int32} {I I2 : px_I} {L L2 : px_L} (h : pk_end x9 I L x I2 L2) : I2 103 34 = I 103 34 := by
  unfold pk_end at h
  obtain ⟨rfl, h⟩ := h
  rcases h with ⟨a1, a2, rfl, rfl⟩ | ⟨a1, rfl, rfl⟩
  · (repeat rw [px_u_out (by omega)])
  · rfl

theorem eb_fault_76_14 {x9 x : Int32} {I I2 : px_I} {L L2 : px_L} (h : pb_fault x9 I L x I2 L2) : I2 76 14 = I 76 14 := by
  unfold pb_fault at h
  rw [h.1]

theorem eb_fault_76_15 {x9 x : Int32} {I I2 : px_I} {L L2 : px_L} (h : pb_fault x9 I L x I2 L2) : I2 76 15 = I 76 15 := by
  unfold pb_fault at h
  rw [h.1]

theorem ek_fault_103_33 {x9 x : Int32} {I I2 : px_I} {L L2 : px_L} (h : pk_fault x9 I L x I2 L2) : I2 103 33 = I 103 33 := by
  unfold pk_fault at h
  rw [h.1]

theorem ek_fault_103_34 {x9 x : Int32} {I I2 : px_I} {L L2 : px_L} (h : pk_fault x9 I L x I2 L2) : I2 103 34 = I 103 34 := by
  unfold pk_fault at h
  rw [h.1]

theorem eb_tools_76_14 {a b c d e x : Int32} {I I2 : px_I} {L L2 : px_L} (h : pb_tools a b c d e I L x I2 L2) : I2 76 14 = I 76 14 := by
  unfold pb_tools at h
  obtain ⟨rfl, h⟩ := h
  rcases h with ⟨a1, rfl, a2⟩ | ⟨a1, rfl, rfl⟩
  · rw [a2 76 (by decide)]; (repeat rw [px_u_out (by omega)])
  · rfl

theorem eb_tools_76_15 {a b c d e x : Int32} {I I2 : px_I} {L L2 : px_L} (h : pb_tools a b c d e I L x I2 L2) : I2 76 15 = I 76 15 := by
  unfold pb_tools at h
  obtain ⟨rfl, h⟩ := h
  rcases h with ⟨a1, rfl, a2⟩ | ⟨a1, rfl, rfl⟩
  · rw [a2 76 (by decide)]; (repeat rw [px_u_out (by omega)])
  · rfl

theorem ek_tools_103_33 {a b c d e x : Int32} {I I2 : px_I} {L L2 : px_L} (h : pk_tools a b c d e I L x I2 L2) : I2 103 33 = I 103 33 := by
  unfold pk_tools at h
  obtain ⟨rfl, h⟩ := h
  rcases h with ⟨a1, rfl, rfl⟩ | ⟨a1, rfl, rfl⟩
  · (repeat rw [px_u_out (by omega)])
  · rfl

theorem ek_tools_103_34 {a b c d e x : Int32} {I I2 : px_I} {L L2 : px_L} (h : pk_tools a b c d e I L x I2 L2) : I2 103 34 = I 103 34 := by
  unfold pk_tools at h
  obtain ⟨rfl, h⟩ := h
  rcases h with ⟨a1, rfl, rfl⟩ | ⟨a1, rfl, rfl⟩
  · (repeat rw [px_u_out (by omega)])
  · rfl

theorem eb_run_76_14 {w h a x : Int32} {I I2 : px_I} {L L2 : px_L} (h : pb_run w h a I L x I2 L2) : I2 76 14 = I 76 14 := by
  unfold pb_run at h
  exact h.1 76 14 (by omega) (by omega) (by omega) (by omega) (by omega) (by omega) (by omega)

theorem eb_run_76_15 {w h a x : Int32} {I I2 : px_I} {L L2 : px_L} (h : pb_run w h a I L x I2 L2) : I2 76 15 = I 76 15 := by
  unfold pb_run at h
  exact h.1 76 15 (by omega) (by omega) (by omega) (by omega) (by omega) (by omega) (by omega)

theorem ek_run_103_33 {w h a x : Int32} {I I2 : px_I} {L L2 : px_L} (h : pk_run w h a I L x I2 L2) : I2 103 33 = I 103 33 := by
  unfold pk_run at h
  exact h.1 103 33 (by omega) (by omega) (by omega)

theorem ek_run_103_34 {w h a x : Int32} {I I2 : px_I} {L L2 : px_L} (h : pk_run w h a I L x I2 L2) : I2 103 34 = I 103 34 := by
  unfold pk_run at h
  exact h.1 103 34 (by omega) (by omega) (by omega)

theorem eb_meeting_76_14 {a f b t x9 h x : Int32} {I I2 : px_I} {L L2 : px_L} (h : pb_meeting a f b t x9 h I L x I2 L2) : I2 76 14 = I 76 14 := by
  unfold pb_meeting at h
  exact h.1 76 14 (by omega) (by omega) (by omega) (by omega) (by omega) (by omega) (by omega)

theorem eb_meeting_76_15 {a f b t x9 h x : Int32} {I I2 : px_I} {L L2 : px_L} (h : pb_meeting a f b t x9 h I L x I2 L2) : I2 76 15 = I 76 15 := by
  unfold pb_meeting at h
  exact h.1 76 15 (by omega) (by omega) (by omega) (by omega) (by omega) (by omega) (by omega)

theorem ek_meeting_103_33 {a f b t x9 h x : Int32} {I I2 : px_I} {L L2 : px_L} (h : pk_meeting a f b t x9 h I L x I2 L2) : I2 103 33 = I 103 33 := by
  unfold pk_meeting at h
  exact h.1 103 33 (by omega) (by omega) (by omega)

theorem ek_meeting_103_34 {a f b t x9 h x : Int32} {I I2 : px_I} {L L2 : px_L} (h : pk_meeting a f b t x9 h I L x I2 L2) : I2 103 34 = I 103 34 := by
  unfold pk_meeting at h
  exact h.1 103 34 (by omega) (by omega) (by omega)

theorem eb_there_76_14 {a lo hi x : Int32} {I I2 : px_I} {L L2 : px_L} (h : pb_there a lo hi I L x I2 L2) : I2 76 14 = I 76 14 := by
  unfold pb_there at h
  obtain ⟨rfl, h⟩ := h
  rcases h with ⟨a1, rfl, rfl⟩ | ⟨a1, rfl, rfl⟩
  · (repeat rw [px_u_out (by omega)])
  · rfl

theorem eb_there_76_15 {a lo hi x : Int32} {I I2 : px_I} {L L2 : px_L} (h : pb_there a lo hi I L x I2 L2) : I2 76 15 = I 76 15 := by
  unfold pb_there at h
  obtain ⟨rfl, h⟩ := h
  rcases h with ⟨a1, rfl, rfl⟩ | ⟨a1, rfl, rfl⟩
  · (repeat rw [px_u_out (by omega)])
  · rfl

theorem ek_there_103_33 {a lo hi x : Int32} {I I2 : px_I} {L L2 : px_L} (h : pk_there a lo hi I L x I2 L2) : I2 103 33 = I 103 33 := by
  unfold pk_there at h
  obtain ⟨rfl, h⟩ := h
  rcases h with ⟨a1, rfl, rfl⟩ | ⟨a1, rfl, rfl⟩
  · (repeat rw [px_u_out (by omega)])
  · rfl

theorem ek_there_103_34 {a lo hi x : Int32} {I I2 : px_I} {L L2 : px_L} (h : pk_there a lo hi I L x I2 L2) : I2 103 34 = I 103 34 := by
  unfold pk_there at h
  obtain ⟨rfl, h⟩ := h
  rcases h with ⟨a1, rfl, rfl⟩ | ⟨a1, rfl, rfl⟩
  · (repeat rw [px_u_out (by omega)])
  · rfl

theorem eb_fits_76_14 {a f b t x : Int32} {I I2 : px_I} {L L2 : px_L} (h : pb_fits a f b t I L x I2 L2) : I2 76 14 = I 76 14 := by
  unfold pb_fits at h
  exact h.1 76 14 (by omega) (by omega) (by omega) (by omega) (by omega) (by omega) (by omega)

theorem eb_fits_76_15 {a f b t x : Int32} {I I2 : px_I} {L L2 : px_L} (h : pb_fits a f b t I L x I2 L2) : I2 76 15 = I 76 15 := by
  unfold pb_fits at h
  exact h.1 76 15 (by omega) (by omega) (by omega) (by omega) (by omega) (by omega) (by omega)

theorem ek_fits_103_33 {a f b t x : Int32} {I I2 : px_I} {L L2 : px_L} (h : pk_fits a f b t I L x I2 L2) : I2 103 33 = I 103 33 := by
  unfold pk_fits at h
  exact h.1 103 33 (by omega) (by omega) (by omega)

theorem ek_fits_103_34 {a f b t x : Int32} {I I2 : px_I} {L L2 : px_L} (h : pk_fits a f b t I L x I2 L2) : I2 103 34 = I 103 34 := by
  unfold pk_fits at h
  exact h.1 103 34 (by omega) (by omega) (by omega)

theorem eb_ways_76_14 {a f b t x9 x : Int32} {I I2 : px_I} {L L2 : px_L} (h : pb_ways a f b t x9 I L x I2 L2) : I2 76 14 = I 76 14 := by
  unfold pb_ways at h
  exact h.1 76 14 (by omega) (by omega) (by omega) (by omega) (by omega) (by omega) (by omega)

theorem eb_ways_76_15 {a f b t x9 x : Int32} {I I2 : px_I} {L L2 : px_L} (h : pb_ways a f b t x9 I L x I2 L2) : I2 76 15 = I 76 15 := by
  unfold pb_ways at h
  exact h.1 76 15 (by omega) (by omega) (by omega) (by omega) (by omega) (by omega) (by omega)

theorem ek_ways_103_33 {a f b t x9 x : Int32} {I I2 : px_I} {L L2 : px_L} (h : pk_ways a f b t x9 I L x I2 L2) : I2 103 33 = I 103 33 := by
  unfold pk_ways at h
  exact h.1 103 33 (by omega) (by omega) (by omega)

theorem ek_ways_103_34 {a f b t x9 x : Int32} {I I2 : px_I} {L L2 : px_L} (h : pk_ways a f b t x9 I L x I2 L2) : I2 103 34 = I 103 34 := by
  unfold pk_ways at h
  exact h.1 103 34 (by omega) (by omega) (by omega)

theorem eb_seek_76_14 {a b c d e f x : Int32} {I I2 : px_I} {L L2 : px_L} (h : pb_seek a b c d e f I L x I2 L2) : I2 76 14 = I 76 14 := by
  unfold pb_seek at h
  obtain ⟨rfl, h⟩ := h
  rcases h with ⟨a1, rfl, rfl⟩ | ⟨a1, rfl, rfl⟩
  · (repeat rw [px_u_out (by omega)])
  · rfl

theorem eb_seek_76_15 {a b c d e f x : Int32} {I I2 : px_I} {L L2 : px_L} (h : pb_seek a b c d e f I L x I2 L2) : I2 76 15 = I 76 15 := by
  unfold pb_seek at h
  obtain ⟨rfl, h⟩ := h
  rcases h with ⟨a1, rfl, rfl⟩ | ⟨a1, rfl, rfl⟩
  · (repeat rw [px_u_out (by omega)])
  · rfl

theorem ek_seek_103_33 {a b c d e f x : Int32} {I I2 : px_I} {L L2 : px_L} (h : pk_seek a b c d e f I L x I2 L2) : I2 103 33 = I 103 33 := by
  unfold pk_seek at h
  obtain ⟨rfl, h⟩ := h
  rcases h with ⟨a1, rfl, rfl⟩ | ⟨a1, rfl, rfl⟩
  · (repeat rw [px_u_out (by omega)])
  · rfl

theorem ek_seek_103_34 {a b c d e f x : Int32} {I I2 : px_I} {L L2 : px_L} (h : pk_seek a b c d e f I L x I2 L2) : I2 103 34 = I 103 34 := by
  unfold pk_seek at h
  obtain ⟨rfl, h⟩ := h
  rcases h with ⟨a1, rfl, rfl⟩ | ⟨a1, rfl, rfl⟩
  · (repeat rw [px_u_out (by omega)])
  · rfl

theorem eb_detour_76_14 {a o h x : Int32} {I I2 : px_I} {L L2 : px_L} (h : pb_detour a o h I L x I2 L2) : I2 76 14 = I 76 14 := by
  unfold pb_detour at h
  rw [h.1]

theorem eb_detour_76_15 {a o h x : Int32} {I I2 : px_I} {L L2 : px_L} (h : pb_detour a o h I L x I2 L2) : I2 76 15 = I 76 15 := by
  unfold pb_detour at h
  rw [h.1]

theorem ek_detour_103_33 {a o lo x : Int32} {I I2 : px_I} {L L2 : px_L} (h : pk_detour a o lo I L x I2 L2) : I2 103 33 = I 103 33 := by
  unfold pk_detour at h
  rw [h.1]

theorem ek_detour_103_34 {a o lo x : Int32} {I I2 : px_I} {L L2 : px_L} (h : pk_detour a o lo I L x I2 L2) : I2 103 34 = I 103 34 := by
  unfold pk_detour at h
  rw [h.1]

theorem eb_table_76_14 {c v x : Int32} {I I2 : px_I} {L L2 : px_L} (h : pb_table c v I L x I2 L2) : I2 76 14 = I 76 14 := by
  unfold pb_table at h
  obtain ⟨rfl, h⟩ := h
  rcases h with ⟨a1, rfl, rfl⟩ | ⟨a1, rfl, rfl⟩
  · (repeat rw [px_u_out (by omega)])
  · rfl

theorem eb_table_76_15 {c v x : Int32} {I I2 : px_I} {L L2 : px_L} (h : pb_table c v I L x I2 L2) : I2 76 15 = I 76 15 := by
  unfold pb_table at h
  obtain ⟨rfl, h⟩ := h
  rcases h with ⟨a1, rfl, rfl⟩ | ⟨a1, rfl, rfl⟩
  · (repeat rw [px_u_out (by omega)])
  · rfl

theorem ek_table_103_33 {c v x : Int32} {I I2 : px_I} {L L2 : px_L} (h : pk_table c v I L x I2 L2) : I2 103 33 = I 103 33 := by
  unfold pk_table at h
  obtain ⟨rfl, h⟩ := h
  rcases h with ⟨a1, rfl, rfl⟩ | ⟨a1, rfl, rfl⟩
  · (repeat rw [px_u_out (by omega)])
  · rfl

theorem ek_table_103_34 {c v x : Int32} {I I2 : px_I} {L L2 : px_L} (h : pk_table c v I L x I2 L2) : I2 103 34 = I 103 34 := by
  unfold pk_table at h
  obtain ⟨rfl, h⟩ := h
  rcases h with ⟨a1, rfl, rfl⟩ | ⟨a1, rfl, rfl⟩
  · (repeat rw [px_u_out (by omega)])
  · rfl

theorem eb_repair_76_14 {g p y x : Int32} {I I2 : px_I} {L L2 : px_L} (h : pb_repair g p y I L x I2 L2) : I2 76 14 = I 76 14 := by
  unfold pb_repair at h
  obtain ⟨rfl, h⟩ := h
  rcases h with ⟨G, g1, rfl, rfl⟩ | ⟨a1, rfl, rfl⟩
  · have g2 := g1.1
    have gG : G = 41 ∨ G = 55 := by unfold bG at g2; omega
    unfold cRep; (repeat rw [px_u_out (by omega)])
  · rfl

theorem eb_repair_76_15 {g p y x : Int32} {I I2 : px_I} {L L2 : px_L} (h : pb_repair g p y I L x I2 L2) : I2 76 15 = I 76 15 := by
  unfold pb_repair at h
  obtain ⟨rfl, h⟩ := h
  rcases h with ⟨G, g1, rfl, rfl⟩ | ⟨a1, rfl, rfl⟩
  · have g2 := g1.1
    have gG : G = 41 ∨ G = 55 := by unfold bG at g2; omega
    unfold cRep; (repeat rw [px_u_out (by omega)])
  · rfl

theorem ek_repair_103_33 {g p y x : Int32} {I I2 : px_I} {L L2 : px_L} (h : pk_repair g p y I L x I2 L2) : I2 103 33 = I 103 33 := by
  unfold pk_repair at h
  obtain ⟨rfl, h⟩ := h
  rcases h with ⟨a1, rfl, rfl⟩ | ⟨a1, rfl, rfl⟩
  · (repeat rw [px_u_out (by omega)])
  · rfl

theorem ek_repair_103_34 {g p y x : Int32} {I I2 : px_I} {L L2 : px_L} (h : pk_repair g p y I L x I2 L2) : I2 103 34 = I 103 34 := by
  unfold pk_repair at h
  obtain ⟨rfl, h⟩ := h
  rcases h with ⟨a1, rfl, rfl⟩ | ⟨a1, rfl, rfl⟩
  · (repeat rw [px_u_out (by omega)])
  · rfl

theorem eb_lime_76_14 {v x : Int32} {I I2 : px_I} {L L2 : px_L} (h : pb_lime v I L x I2 L2) : I2 76 14 = I 76 14 := by
  unfold pb_lime at h
  obtain ⟨rfl, h⟩ := h
  rcases h with ⟨a1, rfl, rfl⟩ | ⟨a1, rfl, rfl⟩
  · (repeat rw [px_u_out (by omega)])
  · rfl

theorem eb_lime_76_15 {v x : Int32} {I I2 : px_I} {L L2 : px_L} (h : pb_lime v I L x I2 L2) : I2 76 15 = I 76 15 := by
  unfold pb_lime at h
  obtain ⟨rfl, h⟩ := h
  rcases h with ⟨a1, rfl, rfl⟩ | ⟨a1, rfl, rfl⟩
  · (repeat rw [px_u_out (by omega)])
  · rfl

theorem ek_lime_103_33 {v x : Int32} {I I2 : px_I} {L L2 : px_L} (h : pk_lime v I L x I2 L2) : I2 103 33 = I 103 33 := by
  unfold pk_lime at h
  obtain ⟨rfl, h⟩ := h
  rcases h with ⟨a1, a2, rfl, rfl⟩ | ⟨a1, rfl, rfl⟩
  · (repeat rw [px_u_out (by omega)])
  · rfl

theorem ek_lime_103_34 {v x : Int32} {I I2 : px_I} {L L2 : px_L} (h : pk_lime v I L x I2 L2) : I2 103 34 = I 103 34 := by
  unfold pk_lime at h
  obtain ⟨rfl, h⟩ := h
  rcases h with ⟨a1, a2, rfl, rfl⟩ | ⟨a1, rfl, rfl⟩
  · (repeat rw [px_u_out (by omega)])
  · rfl

theorem eb_flow_76_14 {g y k h x : Int32} {I I2 : px_I} {L L2 : px_L} (h : pb_flow g y k h I L x I2 L2) : I2 76 14 = I 76 14 := by
  unfold pb_flow at h
  exact h.1 76 14 (by omega)

theorem eb_flow_76_15 {g y k h x : Int32} {I I2 : px_I} {L L2 : px_L} (h : pb_flow g y k h I L x I2 L2) : I2 76 15 = I 76 15 := by
  unfold pb_flow at h
  exact h.1 76 15 (by omega)

theorem ek_flow_103_33 {g y k h x : Int32} {I I2 : px_I} {L L2 : px_L} (h : pk_flow g y k h I L x I2 L2) : I2 103 33 = I 103 33 := by
  unfold pk_flow at h
  exact h.1 103 33 (by omega)

theorem ek_flow_103_34 {g y k h x : Int32} {I I2 : px_I} {L L2 : px_L} (h : pk_flow g y k h I L x I2 L2) : I2 103 34 = I 103 34 := by
  unfold pk_flow at h
  exact h.1 103 34 (by omega)

theorem eb_narrow_76_14 {g y k x : Int32} {I I2 : px_I} {L L2 : px_L} (h : pb_narrow g y k I L x I2 L2) : I2 76 14 = I 76 14 := by
  unfold pb_narrow at h
  exact h.1 76 14 (by omega)

theorem eb_narrow_76_15 {g y k x : Int32} {I I2 : px_I} {L L2 : px_L} (h : pb_narrow g y k I L x I2 L2) : I2 76 15 = I 76 15 := by
  unfold pb_narrow at h
  exact h.1 76 15 (by omega)

theorem ek_narrow_103_33 {g y k x : Int32} {I I2 : px_I} {L L2 : px_L} (h : pk_narrow g y k I L x I2 L2) : I2 103 33 = I 103 33 := by
  unfold pk_narrow at h
  exact h.1 103 33 (by omega)

theorem ek_narrow_103_34 {g y k x : Int32} {I I2 : px_I} {L L2 : px_L} (h : pk_narrow g y k I L x I2 L2) : I2 103 34 = I 103 34 := by
  unfold pk_narrow at h
  exact h.1 103 34 (by omega)

theorem eb_about_76_14 {w x : Int32} {I I2 : px_I} {L L2 : px_L} (h : pb_about w I L x I2 L2) : I2 76 14 = I 76 14 := by
  unfold pb_about at h
  rw [h.1]

theorem eb_about_76_15 {w x : Int32} {I I2 : px_I} {L L2 : px_L} (h : pb_about w I L x I2 L2) : I2 76 15 = I 76 15 := by
  unfold pb_about at h
  rw [h.1]

theorem ek_about_103_33 {w x : Int32} {I I2 : px_I} {L L2 : px_L} (h : pk_about w I L x I2 L2) : I2 103 33 = I 103 33 := by
  unfold pk_about at h
  rw [h.1]

theorem ek_about_103_34 {w x : Int32} {I I2 : px_I} {L L2 : px_L} (h : pk_about w I L x I2 L2) : I2 103 34 = I 103 34 := by
  unfold pk_about at h
  rw [h.1]

def rel (I : px_I) (L : px_L) : Prop := (I 70 5 = I 103 25) ∧ (∀ j : Nat, nb (I 71 j) = nb (I 121 j)) ∧ (I 76 14 = I 103 33 ∧ I 76 15 = I 103 34)

theorem rel.days {v0 : Int32} {x y : Int32} {n : Nat} {I I2 I3 : px_I} {L L2 L3 : px_L} {R : px_R} (hj : jJ n I R) (hr : rel I L) (f1 : frB I I2 L L2) (p1 : pb_days v0 I L x I2 L2) (f2 : frK I2 I3 L2 L3) (p2 : pk_days v0 I2 L2 y I3 L3) : rel I3 L3 := by
  have f_70_5 : I3 70 5 = I 70 5 := by rw [f2.1 70 (by omega), eb_days_70_5 p1]
  have f_103_25 : I3 103 25 = I 103 25 := by rw [ek_days_103_25 p2, f1.1 103 (by omega) (by omega)]
  have f_71_r : I3 71 = I 71 := by rw [f2.1 71 (by omega), eb_days_71_r p1]
  have f_121_r : I3 121 = I 121 := by rw [ek_days_121_r p2, f1.1 121 (by omega) (by omega)]
  have f_76_14 : I3 76 14 = I 76 14 := by rw [f2.1 76 (by omega), eb_days_76_14 p1]
  have f_76_15 : I3 76 15 = I 76 15 := by rw [f2.1 76 (by omega), eb_days_76_15 p1]
  have f_103_33 : I3 103 33 = I 103 33 := by rw [ek_days_103_33 p2, f1.1 103 (by omega) (by omega)]
  have f_103_34 : I3 103 34 = I 103 34 := by rw [ek_days_103_34 p2, f1.1 103 (by omega) (by omega)]
  exact ⟨(by rw [f_70_5, f_103_25]; exact hr.1), (by rw [f_71_r, f_121_r]; exact hr.2.1), (by rw [f_76_14, f_76_15, f_103_33, f_103_34]; exact hr.2.2)⟩

theorem rel.station {x y : Int32} {n : Nat} {I I2 I3 : px_I} {L L2 L3 : px_L} {R : px_R} (hj : jJ n I R) (hr : rel I L) (f1 : frB I I2 L L2) (p1 : pb_station  I L x I2 L2) (f2 : frK I2 I3 L2 L3) (p2 : pk_station  I2 L2 y I3 L3) : rel I3 L3 := by
  have f_70_5 : I3 70 5 = I 70 5 := by rw [f2.1 70 (by omega), eb_station_70_5 p1]
  have f_103_25 : I3 103 25 = I 103 25 := by rw [ek_station_103_25 p2, f1.1 103 (by omega) (by omega)]
  have f_71_r : I3 71 = I 71 := by rw [f2.1 71 (by omega), eb_station_71_r p1]
  have f_121_r : I3 121 = I 121 := by rw [ek_station_121_r p2, f1.1 121 (by omega) (by omega)]
  have f_76_14 : I3 76 14 = I 76 14 := by rw [f2.1 76 (by omega), eb_station_76_14 p1]
  have f_76_15 : I3 76 15 = I 76 15 := by rw [f2.1 76 (by omega), eb_station_76_15 p1]
  have f_103_33 : I3 103 33 = I 103 33 := by rw [ek_station_103_33 p2, f1.1 103 (by omega) (by omega)]
  have f_103_34 : I3 103 34 = I 103 34 := by rw [ek_station_103_34 p2, f1.1 103 (by omega) (by omega)]
  exact ⟨(by rw [f_70_5, f_103_25]; exact hr.1), (by rw [f_71_r, f_121_r]; exact hr.2.1), (by rw [f_76_14, f_76_15, f_103_33, f_103_34]; exact hr.2.2)⟩

theorem rel.sight {v0 v1 v2 v3 v4 : Int32} {x y : Int32} {n : Nat} {I I2 I3 : px_I} {L L2 L3 : px_L} {R : px_R} (hj : jJ n I R) (hr : rel I L) (f1 : frB I I2 L L2) (p1 : pb_sight v0 v1 v2 v3 v4 I L x I2 L2) (f2 : frK I2 I3 L2 L3) (p2 : pk_sight v0 v1 v2 v3 v4 I2 L2 y I3 L3) : rel I3 L3 := by
  have f_70_5 : I3 70 5 = I 70 5 := by rw [f2.1 70 (by omega), eb_sight_70_5 p1]
  have f_103_25 : I3 103 25 = I 103 25 := by rw [ek_sight_103_25 p2, f1.1 103 (by omega) (by omega)]
  have f_71_r : I3 71 = I 71 := by rw [f2.1 71 (by omega), eb_sight_71_r p1]
  have f_121_r : I3 121 = I 121 := by rw [ek_sight_121_r p2, f1.1 121 (by omega) (by omega)]
  have f_76_14 : I3 76 14 = I 76 14 := by rw [f2.1 76 (by omega), eb_sight_76_14 p1]
  have f_76_15 : I3 76 15 = I 76 15 := by rw [f2.1 76 (by omega), eb_sight_76_15 p1]
  have f_103_33 : I3 103 33 = I 103 33 := by rw [ek_sight_103_33 p2, f1.1 103 (by omega) (by omega)]
  have f_103_34 : I3 103 34 = I 103 34 := by rw [ek_sight_103_34 p2, f1.1 103 (by omega) (by omega)]
  exact ⟨(by rw [f_70_5, f_103_25]; exact hr.1), (by rw [f_71_r, f_121_r]; exact hr.2.1), (by rw [f_76_14, f_76_15, f_103_33, f_103_34]; exact hr.2.2)⟩

theorem rel.closed {v0 v1 : Int32} {x y : Int32} {n : Nat} {I I2 I3 : px_I} {L L2 L3 : px_L} {R : px_R} (hj : jJ n I R) (hr : rel I L) (f1 : frB I I2 L L2) (p1 : pb_closed v0 v1 I L x I2 L2) (f2 : frK I2 I3 L2 L3) (p2 : pk_closed v0 v1 I2 L2 y I3 L3) : rel I3 L3 := by
  have f_70_5 : I3 70 5 = I 70 5 := by rw [f2.1 70 (by omega), eb_closed_70_5 p1]
  have f_103_25 : I3 103 25 = I 103 25 := by rw [ek_closed_103_25 p2, f1.1 103 (by omega) (by omega)]
  have f_71_r : I3 71 = I 71 := by rw [f2.1 71 (by omega), eb_closed_71_r p1]
  have f_121_r : I3 121 = I 121 := by rw [ek_closed_121_r p2, f1.1 121 (by omega) (by omega)]
  have f_76_14 : I3 76 14 = I 76 14 := by rw [f2.1 76 (by omega), eb_closed_76_14 p1]
  have f_76_15 : I3 76 15 = I 76 15 := by rw [f2.1 76 (by omega), eb_closed_76_15 p1]
  have f_103_33 : I3 103 33 = I 103 33 := by rw [ek_closed_103_33 p2, f1.1 103 (by omega) (by omega)]
  have f_103_34 : I3 103 34 = I 103 34 := by rw [ek_closed_103_34 p2, f1.1 103 (by omega) (by omega)]
  exact ⟨(by rw [f_70_5, f_103_25]; exact hr.1), (by rw [f_71_r, f_121_r]; exact hr.2.1), (by rw [f_76_14, f_76_15, f_103_33, f_103_34]; exact hr.2.2)⟩

theorem rel.span {v0 v1 v2 v3 : Int32} {x y : Int32} {n : Nat} {I I2 I3 : px_I} {L L2 L3 : px_L} {R : px_R} (hj : jJ n I R) (hr : rel I L) (f1 : frB I I2 L L2) (p1 : pb_span v0 v1 v2 v3 I L x I2 L2) (f2 : frK I2 I3 L2 L3) (p2 : pk_span v0 v1 v2 v3 I2 L2 y I3 L3) : rel I3 L3 := by
  have f_70_5 : I3 70 5 = I 70 5 := by rw [f2.1 70 (by omega), eb_span_70_5 p1]
  have f_103_25 : I3 103 25 = I 103 25 := by rw [ek_span_103_25 p2, f1.1 103 (by omega) (by omega)]
  have f_71_r : I3 71 = I 71 := by rw [f2.1 71 (by omega), eb_span_71_r p1]
  have f_121_r : I3 121 = I 121 := by rw [ek_span_121_r p2, f1.1 121 (by omega) (by omega)]
  have f_76_14 : I3 76 14 = I 76 14 := by rw [f2.1 76 (by omega), eb_span_76_14 p1]
  have f_76_15 : I3 76 15 = I 76 15 := by rw [f2.1 76 (by omega), eb_span_76_15 p1]
  have f_103_33 : I3 103 33 = I 103 33 := by rw [ek_span_103_33 p2, f1.1 103 (by omega) (by omega)]
  have f_103_34 : I3 103 34 = I 103 34 := by rw [ek_span_103_34 p2, f1.1 103 (by omega) (by omega)]
  exact ⟨(by rw [f_70_5, f_103_25]; exact hr.1), (by rw [f_71_r, f_121_r]; exact hr.2.1), (by rw [f_76_14, f_76_15, f_103_33, f_103_34]; exact hr.2.2)⟩

theorem rel.gap {v0 v1 v2 v3 v4 : Int32} {x y : Int32} {n : Nat} {I I2 I3 : px_I} {L L2 L3 : px_L} {R : px_R} (hj : jJ n I R) (hr : rel I L) (f1 : frB I I2 L L2) (p1 : pb_gap v0 v1 v2 v3 v4 I L x I2 L2) (f2 : frK I2 I3 L2 L3) (p2 : pk_gap v0 v1 v2 v3 v4 I2 L2 y I3 L3) : rel I3 L3 := by
  have f_70_5 : I3 70 5 = I 70 5 := by rw [f2.1 70 (by omega), eb_gap_70_5 p1]
  have f_103_25 : I3 103 25 = I 103 25 := by rw [ek_gap_103_25 p2, f1.1 103 (by omega) (by omega)]
  have f_71_r : I3 71 = I 71 := by rw [f2.1 71 (by omega), eb_gap_71_r p1]
  have f_121_r : I3 121 = I 121 := by rw [ek_gap_121_r p2, f1.1 121 (by omega) (by omega)]
  have f_76_14 : I3 76 14 = I 76 14 := by rw [f2.1 76 (by omega), eb_gap_76_14 p1]
  have f_76_15 : I3 76 15 = I 76 15 := by rw [f2.1 76 (by omega), eb_gap_76_15 p1]
  have f_103_33 : I3 103 33 = I 103 33 := by rw [ek_gap_103_33 p2, f1.1 103 (by omega) (by omega)]
  have f_103_34 : I3 103 34 = I 103 34 := by rw [ek_gap_103_34 p2, f1.1 103 (by omega) (by omega)]
  exact ⟨(by rw [f_70_5, f_103_25]; exact hr.1), (by rw [f_71_r, f_121_r]; exact hr.2.1), (by rw [f_76_14, f_76_15, f_103_33, f_103_34]; exact hr.2.2)⟩

theorem rel.blamed {v0 v1 v2 : Int32} {x y : Int32} {n : Nat} {I I2 I3 : px_I} {L L2 L3 : px_L} {R : px_R} (hj : jJ n I R) (hr : rel I L) (f1 : frB I I2 L L2) (p1 : pb_blamed v0 v1 v2 I L x I2 L2) (f2 : frK I2 I3 L2 L3) (p2 : pk_blamed v0 v1 v2 I2 L2 y I3 L3) : rel I3 L3 := by
  have f_70_5 : I3 70 5 = I 70 5 := by rw [f2.1 70 (by omega), eb_blamed_70_5 p1]
  have f_103_25 : I3 103 25 = I 103 25 := by rw [ek_blamed_103_25 p2, f1.1 103 (by omega) (by omega)]
  have f_71_r : I3 71 = I 71 := by rw [f2.1 71 (by omega), eb_blamed_71_r p1]
  have f_121_r : I3 121 = I 121 := by rw [ek_blamed_121_r p2, f1.1 121 (by omega) (by omega)]
  have f_76_14 : I3 76 14 = I 76 14 := by rw [f2.1 76 (by omega), eb_blamed_76_14 p1]
  have f_76_15 : I3 76 15 = I 76 15 := by rw [f2.1 76 (by omega), eb_blamed_76_15 p1]
  have f_103_33 : I3 103 33 = I 103 33 := by rw [ek_blamed_103_33 p2, f1.1 103 (by omega) (by omega)]
  have f_103_34 : I3 103 34 = I 103 34 := by rw [ek_blamed_103_34 p2, f1.1 103 (by omega) (by omega)]
  exact ⟨(by rw [f_70_5, f_103_25]; exact hr.1), (by rw [f_71_r, f_121_r]; exact hr.2.1), (by rw [f_76_14, f_76_15, f_103_33, f_103_34]; exact hr.2.2)⟩

theorem rel.reach {v0 v1 v2 v3 v4 v5 v6 : Int32} {x y : Int32} {n : Nat} {I I2 I3 : px_I} {L L2 L3 : px_L} {R : px_R} (hj : jJ n I R) (hr : rel I L) (f1 : frB I I2 L L2) (p1 : pb_reach v0 v1 v2 v3 v4 v5 v6 I L x I2 L2) (f2 : frK I2 I3 L2 L3) (p2 : pk_reach v0 v1 v2 v3 v4 v5 v6 I2 L2 y I3 L3) : rel I3 L3 := by
  have f_70_5 : I3 70 5 = I 70 5 := by rw [f2.1 70 (by omega), eb_reach_70_5 p1]
  have f_103_25 : I3 103 25 = I 103 25 := by rw [ek_reach_103_25 p2, f1.1 103 (by omega) (by omega)]
  have f_71_r : I3 71 = I 71 := by rw [f2.1 71 (by omega), eb_reach_71_r p1]
  have f_121_r : I3 121 = I 121 := by rw [ek_reach_121_r p2, f1.1 121 (by omega) (by omega)]
  have f_76_14 : I3 76 14 = I 76 14 := by rw [f2.1 76 (by omega), eb_reach_76_14 p1]
  have f_76_15 : I3 76 15 = I 76 15 := by rw [f2.1 76 (by omega), eb_reach_76_15 p1]
  have f_103_33 : I3 103 33 = I 103 33 := by rw [ek_reach_103_33 p2, f1.1 103 (by omega) (by omega)]
  have f_103_34 : I3 103 34 = I 103 34 := by rw [ek_reach_103_34 p2, f1.1 103 (by omega) (by omega)]
  exact ⟨(by rw [f_70_5, f_103_25]; exact hr.1), (by rw [f_71_r, f_121_r]; exact hr.2.1), (by rw [f_76_14, f_76_15, f_103_33, f_103_34]; exact hr.2.2)⟩

theorem rel.mouth {v0 v1 : Int32} {x y : Int32} {n : Nat} {I I2 I3 : px_I} {L L2 L3 : px_L} {R : px_R} (hj : jJ n I R) (hr : rel I L) (f1 : frB I I2 L L2) (p1 : pb_mouth v0 v1 I L x I2 L2) (f2 : frK I2 I3 L2 L3) (p2 : pk_mouth v0 v1 I2 L2 y I3 L3) : rel I3 L3 := by
  have f_70_5 : I3 70 5 = I 70 5 := by rw [f2.1 70 (by omega), eb_mouth_70_5 p1]
  have f_103_25 : I3 103 25 = I 103 25 := by rw [ek_mouth_103_25 p2, f1.1 103 (by omega) (by omega)]
  have f_71_r : I3 71 = I 71 := by rw [f2.1 71 (by omega), eb_mouth_71_r p1]
  have f_121_r : I3 121 = I 121 := by rw [ek_mouth_121_r p2, f1.1 121 (by omega) (by omega)]
  have f_76_14 : I3 76 14 = I 76 14 := by rw [f2.1 76 (by omega), eb_mouth_76_14 p1]
  have f_76_15 : I3 76 15 = I 76 15 := by rw [f2.1 76 (by omega), eb_mouth_76_15 p1]
  have f_103_33 : I3 103 33 = I 103 33 := by rw [ek_mouth_103_33 p2, f1.1 103 (by omega) (by omega)]
  have f_103_34 : I3 103 34 = I 103 34 := by rw [ek_mouth_103_34 p2, f1.1 103 (by omega) (by omega)]
  exact ⟨(by rw [f_70_5, f_103_25]; exact hr.1), (by rw [f_71_r, f_121_r]; exact hr.2.1), (by rw [f_76_14, f_76_15, f_103_33, f_103_34]; exact hr.2.2)⟩

theorem rel.mark {v0 v1 v2 v3 : Int32} {x y : Int32} {n : Nat} {I I2 I3 : px_I} {L L2 L3 : px_L} {R : px_R} (hj : jJ n I R) (hr : rel I L) (f1 : frB I I2 L L2) (p1 : pb_mark v0 v1 v2 v3 I L x I2 L2) (f2 : frK I2 I3 L2 L3) (p2 : pk_mark v0 v1 v2 v3 I2 L2 y I3 L3) : rel I3 L3 := by
  have f_70_5 : I3 70 5 = I 70 5 := by rw [f2.1 70 (by omega), eb_mark_70_5 p1]
  have f_103_25 : I3 103 25 = I 103 25 := by rw [ek_mark_103_25 p2, f1.1 103 (by omega) (by omega)]
  have f_71_r : I3 71 = I 71 := by rw [f2.1 71 (by omega), eb_mark_71_r p1]
  have f_121_r : I3 121 = I 121 := by rw [ek_mark_121_r p2, f1.1 121 (by omega) (by omega)]
  have f_76_14 : I3 76 14 = I 76 14 := by rw [f2.1 76 (by omega), eb_mark_76_14 p1]
  have f_76_15 : I3 76 15 = I 76 15 := by rw [f2.1 76 (by omega), eb_mark_76_15 p1]
  have f_103_33 : I3 103 33 = I 103 33 := by rw [ek_mark_103_33 p2, f1.1 103 (by omega) (by omega)]
  have f_103_34 : I3 103 34 = I 103 34 := by rw [ek_mark_103_34 p2, f1.1 103 (by omega) (by omega)]
  exact ⟨(by rw [f_70_5, f_103_25]; exact hr.1), (by rw [f_71_r, f_121_r]; exact hr.2.1), (by rw [f_76_14, f_76_15, f_103_33, f_103_34]; exact hr.2.2)⟩

theorem rel.when {v0 v1 v2 : Int32} {x y : Int32} {n : Nat} {I I2 I3 : px_I} {L L2 L3 : px_L} {R : px_R} (hj : jJ n I R) (hr : rel I L) (f1 : frB I I2 L L2) (p1 : pb_when v0 v1 v2 I L x I2 L2) (f2 : frK I2 I3 L2 L3) (p2 : pk_when v0 v1 v2 I2 L2 y I3 L3) : rel I3 L3 := by
  have f_70_5 : I3 70 5 = I 70 5 := by rw [f2.1 70 (by omega), eb_when_70_5 p1]
  have f_103_25 : I3 103 25 = I 103 25 := by rw [ek_when_103_25 p2, f1.1 103 (by omega) (by omega)]
  have f_71_r : I3 71 = I 71 := by rw [f2.1 71 (by omega), eb_when_71_r p1]
  have f_121_r : I3 121 = I 121 := by rw [ek_when_121_r p2, f1.1 121 (by omega) (by omega)]
  have f_76_14 : I3 76 14 = I 76 14 := by rw [f2.1 76 (by omega), eb_when_76_14 p1]
  have f_76_15 : I3 76 15 = I 76 15 := by rw [f2.1 76 (by omega), eb_when_76_15 p1]
  have f_103_33 : I3 103 33 = I 103 33 := by rw [ek_when_103_33 p2, f1.1 103 (by omega) (by omega)]
  have f_103_34 : I3 103 34 = I 103 34 := by rw [ek_when_103_34 p2, f1.1 103 (by omega) (by omega)]
  exact ⟨(by rw [f_70_5, f_103_25]; exact hr.1), (by rw [f_71_r, f_121_r]; exact hr.2.1), (by rw [f_76_14, f_76_15, f_103_33, f_103_34]; exact hr.2.2)⟩

theorem rel.between {v0 v1 v2 v3 : Int32} {x y : Int32} {n : Nat} {I I2 I3 : px_I} {L L2 L3 : px_L} {R : px_R} (hj : jJ n I R) (hr : rel I L) (f1 : frB I I2 L L2) (p1 : pb_between v0 v1 v2 v3 I L x I2 L2) (f2 : frK I2 I3 L2 L3) (p2 : pk_between v0 v1 v2 v3 I2 L2 y I3 L3) : rel I3 L3 := by
  have f_70_5 : I3 70 5 = I 70 5 := by rw [f2.1 70 (by omega), eb_between_70_5 p1]
  have f_103_25 : I3 103 25 = I 103 25 := by rw [ek_between_103_25 p2, f1.1 103 (by omega) (by omega)]
  have f_71_r : I3 71 = I 71 := by rw [f2.1 71 (by omega), eb_between_71_r p1]
  have f_121_r : I3 121 = I 121 := by rw [ek_between_121_r p2, f1.1 121 (by omega) (by omega)]
  have f_76_14 : I3 76 14 = I 76 14 := by rw [f2.1 76 (by omega), eb_between_76_14 p1]
  have f_76_15 : I3 76 15 = I 76 15 := by rw [f2.1 76 (by omega), eb_between_76_15 p1]
  have f_103_33 : I3 103 33 = I 103 33 := by rw [ek_between_103_33 p2, f1.1 103 (by omega) (by omega)]
  have f_103_34 : I3 103 34 = I 103 34 := by rw [ek_between_103_34 p2, f1.1 103 (by omega) (by omega)]
  exact ⟨(by rw [f_70_5, f_103_25]; exact hr.1), (by rw [f_71_r, f_121_r]; exact hr.2.1), (by rw [f_76_14, f_76_15, f_103_33, f_103_34]; exact hr.2.2)⟩

theorem rel.lamps {v0 v1 v2 v3 v4 : Int32} {x y : Int32} {n : Nat} {I I2 I3 : px_I} {L L2 L3 : px_L} {R : px_R} (hj : jJ n I R) (hr : rel I L) (f1 : frB I I2 L L2) (p1 : pb_lamps v0 v1 v2 v3 v4 I L x I2 L2) (f2 : frK I2 I3 L2 L3) (p2 : pk_lamps v0 v1 v2 v3 v4 I2 L2 y I3 L3) : rel I3 L3 := by
  have f_70_5 : I3 70 5 = I 70 5 := by rw [f2.1 70 (by omega), eb_lamps_70_5 p1]
  have f_103_25 : I3 103 25 = I 103 25 := by rw [ek_lamps_103_25 p2, f1.1 103 (by omega) (by omega)]
  have f_71_r : I3 71 = I 71 := by rw [f2.1 71 (by omega), eb_lamps_71_r p1]
  have f_121_r : I3 121 = I 121 := by rw [ek_lamps_121_r p2, f1.1 121 (by omega) (by omega)]
  have f_76_14 : I3 76 14 = I 76 14 := by rw [f2.1 76 (by omega), eb_lamps_76_14 p1]
  have f_76_15 : I3 76 15 = I 76 15 := by rw [f2.1 76 (by omega), eb_lamps_76_15 p1]
  have f_103_33 : I3 103 33 = I 103 33 := by rw [ek_lamps_103_33 p2, f1.1 103 (by omega) (by omega)]
  have f_103_34 : I3 103 34 = I 103 34 := by rw [ek_lamps_103_34 p2, f1.1 103 (by omega) (by omega)]
  exact ⟨(by rw [f_70_5, f_103_25]; exact hr.1), (by rw [f_71_r, f_121_r]; exact hr.2.1), (by rw [f_76_14, f_76_15, f_103_33, f_103_34]; exact hr.2.2)⟩

theorem rel.count {v0 v1 v2 : Int32} {x y : Int32} {n : Nat} {I I2 I3 : px_I} {L L2 L3 : px_L} {R : px_R} (hj : jJ n I R) (hr : rel I L) (f1 : frB I I2 L L2) (p1 : pb_count v0 v1 v2 I L x I2 L2) (f2 : frK I2 I3 L2 L3) (p2 : pk_count v0 v1 v2 I2 L2 y I3 L3) : rel I3 L3 := by
  have f_70_5 : I3 70 5 = I 70 5 := by rw [f2.1 70 (by omega), eb_count_70_5 p1]
  have f_103_25 : I3 103 25 = I 103 25 := by rw [ek_count_103_25 p2, f1.1 103 (by omega) (by omega)]
  have f_71_r : I3 71 = I 71 := by rw [f2.1 71 (by omega), eb_count_71_r p1]
  have f_121_r : I3 121 = I 121 := by rw [ek_count_121_r p2, f1.1 121 (by omega) (by omega)]
  have f_76_14 : I3 76 14 = I 76 14 := by rw [f2.1 76 (by omega), eb_count_76_14 p1]
  have f_76_15 : I3 76 15 = I 76 15 := by rw [f2.1 76 (by omega), eb_count_76_15 p1]
  have f_103_33 : I3 103 33 = I 103 33 := by rw [ek_count_103_33 p2, f1.1 103 (by omega) (by omega)]
  have f_103_34 : I3 103 34 = I 103 34 := by rw [ek_count_103_34 p2, f1.1 103 (by omega) (by omega)]
  exact ⟨(by rw [f_70_5, f_103_25]; exact hr.1), (by rw [f_71_r, f_121_r]; exact hr.2.1), (by rw [f_76_14, f_76_15, f_103_33, f_103_34]; exact hr.2.2)⟩

theorem rel.unit {v0 : Int32} {x y : Int32} {n : Nat} {I I2 I3 : px_I} {L L2 L3 : px_L} {R : px_R} (hj : jJ n I R) (hr : rel I L) (f1 : frB I I2 L L2) (p1 : pb_unit v0 I L x I2 L2) (f2 : frK I2 I3 L2 L3) (p2 : pk_unit v0 I2 L2 y I3 L3) : rel I3 L3 := by
  have f_70_5 : I3 70 5 = I 70 5 := by rw [f2.1 70 (by omega), eb_unit_70_5 p1]
  have f_103_25 : I3 103 25 = I 103 25 := by rw [ek_unit_103_25 p2, f1.1 103 (by omega) (by omega)]
  have f_71_r : I3 71 = I 71 := by rw [f2.1 71 (by omega), eb_unit_71_r p1]
  have f_121_r : I3 121 = I 121 := by rw [ek_unit_121_r p2, f1.1 121 (by omega) (by omega)]
  have f_76_14 : I3 76 14 = I 76 14 := by rw [f2.1 76 (by omega), eb_unit_76_14 p1]
  have f_76_15 : I3 76 15 = I 76 15 := by rw [f2.1 76 (by omega), eb_unit_76_15 p1]
  have f_103_33 : I3 103 33 = I 103 33 := by rw [ek_unit_103_33 p2, f1.1 103 (by omega) (by omega)]
  have f_103_34 : I3 103 34 = I 103 34 := by rw [ek_unit_103_34 p2, f1.1 103 (by omega) (by omega)]
  exact ⟨(by rw [f_70_5, f_103_25]; exact hr.1), (by rw [f_71_r, f_121_r]; exact hr.2.1), (by rw [f_76_14, f_76_15, f_103_33, f_103_34]; exact hr.2.2)⟩

theorem relq_feed {v0 v1 v2 v3 v4 : Int32} {x y : Int32} {n : Nat} {I I2 I3 : px_I} {L L2 L3 : px_L} {R : px_R} (hj : jJ n I R) (hr : rel I L) (f1 : frB I I2 L L2) (p1 : pb_feed v0 v1 v2 v3 v4 I L x I2 L2) (f2 : frK I2 I3 L2 L3) (p2 : pk_feed v0 v1 v2 v3 v4 I2 L2 y I3 L3) : x = y ∧ (I3 70 5 = I3 103 25) := by
  have h_fd : I 70 5 = I 103 25 := hr.1
  have h_by : ∀ j : Nat, nb (I 71 j) = nb (I 121 j) := hr.2.1
  have h_fa : I 76 14 = I 103 33 ∧ I 76 15 = I 103 34 := hr.2.2
  unfold pb_feed at p1
  unfold pk_feed at p2
  have e1 : I2 103 = I 103 := f1.1 103 (by omega) (by omega)
  have e5 : I3 70 = I2 70 := f2.1 70 (by omega)
  rcases p1.2 with ⟨a1, a2, a3⟩ | ⟨a1, a2, a3⟩
  · rcases p2.2 with ⟨b1, b2, b3⟩ | ⟨b1, b2, b3⟩
    · refine ⟨by rw [a2, b2, e1, ← h_fd], ?_⟩
      rw [e5, b3, mPut_25, mPut_25, mPut_25, mPut_25, mPut_25, e1, ← h_fd, a3, cApp_5, cApp_5, cApp_5, cApp_5, cApp_5]
    · exact absurd (by rw [e1, ← h_fd]; exact a1) b1
  · rcases p2.2 with ⟨b1, b2, b3⟩ | ⟨b1, b2, b3⟩
    · exact absurd (by rw [e1, ← h_fd] at b1; exact b1) a1
    · exact ⟨by rw [a2, b2], by rw [e5, b3, e1, a3]; exact h_fd⟩

theorem relq_feed_1 {v0 v1 v2 v3 v4 : Int32} {x y : Int32} {n : Nat} {I I2 I3 : px_I} {L L2 L3 : px_L} {R : px_R} (hj : jJ n I R) (hr : rel I L) (f1 : frB I I2 L L2) (p1 : pb_feed v0 v1 v2 v3 v4 I L x I2 L2) (f2 : frK I2 I3 L2 L3) (p2 : pk_feed v0 v1 v2 v3 v4 I2 L2 y I3 L3) : (∀ j : Nat, nb (I3 71 j) = nb (I3 121 j)) := by
  have h_fd : I 70 5 = I 103 25 := hr.1
  have h_by : ∀ j : Nat, nb (I 71 j) = nb (I 121 j) := hr.2.1
  have h_fa : I 76 14 = I 103 33 ∧ I 76 15 = I 103 34 := hr.2.2
  have hxy := (relq_feed hj hr f1 p1 f2 p2).1
  unfold pb_feed at p1
  unfold pk_feed at p2
  have e1 : I2 103 = I 103 := f1.1 103 (by omega) (by omega)
  have e9 : I2 121 = I 121 := f1.1 121 (by omega) (by omega)
  have e7 : I3 71 = I2 71 := f2.1 71 (by omega)
  rw [e7]
  have y0 : I 70 5 = I2 103 25 := by rw [e1]; exact h_fd
  have y1 : ∀ j : Nat, nb (I 71 j) = nb (I2 121 j) := by rw [e9]; exact h_by
  rcases p1.2 with ⟨a1, a2, a3⟩ | ⟨a1, a2, a3⟩
  · rcases p2.2 with ⟨b1, b2, b3⟩ | ⟨b1, b2, b3⟩
    · have z1 := zFeed (x := v0) y0 y1
      have z2 := zFeed (x := v1) z1.1 z1.2
      have z3 := zFeed (x := v2) z2.1 z2.2
      have z4 := zFeed (x := v3) z3.1 z3.2
      have z5 := zFeed (x := v4) z4.1 z4.2
      rw [a3, b3]
      exact z5.2
    · exact absurd (by rw [← y0]; exact a1) b1
  · rcases p2.2 with ⟨b1, b2, b3⟩ | ⟨b1, b2, b3⟩
    · exact absurd (by rw [y0]; exact b1) a1
    · rw [a3, b3]; exact y1

theorem rel.feed {v0 v1 v2 v3 v4 : Int32} {x y : Int32} {n : Nat} {I I2 I3 : px_I} {L L2 L3 : px_L} {R : px_R} (hj : jJ n I R) (hr : rel I L) (f1 : frB I I2 L L2) (p1 : pb_feed v0 v1 v2 v3 v4 I L x I2 L2) (f2 : frK I2 I3 L2 L3) (p2 : pk_feed v0 v1 v2 v3 v4 I2 L2 y I3 L3) : rel I3 L3 := by
  have hq0 := (relq_feed hj hr f1 p1 f2 p2).2
  have hq1 := relq_feed_1 hj hr f1 p1 f2 p2
  have f_76_14 : I3 76 14 = I 76 14 := by rw [f2.1 76 (by omega), eb_feed_76_14 p1]
  have f_76_15 : I3 76 15 = I 76 15 := by rw [f2.1 76 (by omega), eb_feed_76_15 p1]
  have f_103_33 : I3 103 33 = I 103 33 := by rw [ek_feed_103_33 p2, f1.1 103 (by omega) (by omega)]
  have f_103_34 : I3 103 34 = I 103 34 := by rw [ek_feed_103_34 p2, f1.1 103 (by omega) (by omega)]
  exact ⟨hq0, hq1, (by rw [f_76_14, f_76_15, f_103_33, f_103_34]; exact hr.2.2)⟩

theorem relq_end {v0 : Int32} {x y : Int32} {n : Nat} {I I2 I3 : px_I} {L L2 L3 : px_L} {R : px_R} (hj : jJ n I R) (hr : rel I L) (f1 : frB I I2 L L2) (p1 : pb_end v0 I L x I2 L2) (f2 : frK I2 I3 L2 L3) (p2 : pk_end v0 I2 L2 y I3 L3) : x = y ∧ (I3 70 5 = I3 103 25) := by
  have h_fd : I 70 5 = I 103 25 := hr.1
  have h_by : ∀ j : Nat, nb (I 71 j) = nb (I 121 j) := hr.2.1
  have h_fa : I 76 14 = I 103 33 ∧ I 76 15 = I 103 34 := hr.2.2
  unfold pb_end at p1
  unfold pk_end at p2
  have e1 : I2 103 = I 103 := f1.1 103 (by omega) (by omega)
  have e5 : I3 70 = I2 70 := f2.1 70 (by omega)
  rcases p1.2 with ⟨a1, a2, a3⟩ | ⟨a1, a2, a3⟩
  · rcases p2.2 with ⟨b0, b1, b2, b3⟩ | ⟨b1, b2, b3⟩
    · exact ⟨by rw [a2, b2], by rw [e5, b3, a3, px_u_at, px_u_at]⟩
    · exact absurd (by rw [e1, ← h_fd]; exact a1) b1
  · rcases p2.2 with ⟨b0, b1, b2, b3⟩ | ⟨b1, b2, b3⟩
    · exact absurd (by rw [e1, ← h_fd] at b1; exact ⟨b0, b1⟩) a1
    · exact ⟨by rw [a2, b2], by rw [e5, b3, e1, a3]; exact h_fd⟩

theorem rel.end {v0 : Int32} {x y : Int32} {n : Nat} {I I2 I3 : px_I} {L L2 L3 : px_L} {R : px_R} (hj : jJ n I R) (hr : rel I L) (f1 : frB I I2 L L2) (p1 : pb_end v0 I L x I2 L2) (f2 : frK I2 I3 L2 L3) (p2 : pk_end v0 I2 L2 y I3 L3) : rel I3 L3 := by
  have hq0 := (relq_end hj hr f1 p1 f2 p2).2
  have f_71_r : I3 71 = I 71 := by rw [f2.1 71 (by omega), eb_end_71_r p1]
  have f_121_r : I3 121 = I 121 := by rw [ek_end_121_r p2, f1.1 121 (by omega) (by omega)]
  have f_76_14 : I3 76 14 = I 76 14 := by rw [f2.1 76 (by omega), eb_end_76_14 p1]
  have f_76_15 : I3 76 15 = I 76 15 := by rw [f2.1 76 (by omega), eb_end_76_15 p1]
  have f_103_33 : I3 103 33 = I 103 33 := by rw [ek_end_103_33 p2, f1.1 103 (by omega) (by omega)]
  have f_103_34 : I3 103 34 = I 103 34 := by rw [ek_end_103_34 p2, f1.1 103 (by omega) (by omega)]
  exact ⟨hq0, (by rw [f_71_r, f_121_r]; exact hr.2.1), (by rw [f_76_14, f_76_15, f_103_33, f_103_34]; exact hr.2.2)⟩

theorem relq_way {v0 : Int32} {x y : Int32} {n : Nat} {I I2 I3 : px_I} {L L2 L3 : px_L} {R : px_R} (hj : jJ n I R) (hr : rel I L) (f1 : frB I I2 L L2) (p1 : pbs_way v0 I L x I2 L2) (f2 : frK I2 I3 L2 L3) (p2 : pks_way v0 I2 L2 y I3 L3) : (I3 70 5 = I3 103 25) ∧ (I3 76 14 = I3 103 33 ∧ I3 76 15 = I3 103 34) := by
  have h_fd : I 70 5 = I 103 25 := hr.1
  have h_by : ∀ j : Nat, nb (I 71 j) = nb (I 121 j) := hr.2.1
  have h_fa : I 76 14 = I 103 33 ∧ I 76 15 = I 103 34 := hr.2.2
  unfold pbs_way at p1
  unfold pks_way at p2
  have e5 : I3 70 = I2 70 := f2.1 70 (by omega)
  have e1 : I2 103 = I 103 := f1.1 103 (by omega) (by omega)
  have e9 : I2 121 = I 121 := f1.1 121 (by omega) (by omega)
  obtain ⟨p1, qb⟩ := p1
  obtain ⟨p2, qk⟩ := p2
  have fd3 : I3 70 5 = I3 103 25 := by
    have q := p1.2.2
    rw [e5, q]
    rcases p2.2 with ⟨b1, b2, b3⟩ | ⟨b1, b2⟩
    · rw [b3, e1, if_neg (by grind)]; exact h_fd
    · rw [b2.2.1, if_pos (by grind)]
  have e6 : I3 76 = I2 76 := f2.1 76 (by omega)
  obtain ⟨-, w1, w2⟩ := qW_eq (by rw [e1]; exact h_fd) (by rw [e9]; exact h_by) (by rw [e1]; exact h_fa.1) (by rw [e1]; exact h_fa.2) qb qk
  exact ⟨fd3, by rw [e6]; exact w1, by rw [e6]; exact w2⟩

theorem rel.way {v0 : Int32} {x y : Int32} {n : Nat} {I I2 I3 : px_I} {L L2 L3 : px_L} {R : px_R} (hj : jJ n I R) (hr : rel I L) (f1 : frB I I2 L L2) (p1 : pbs_way v0 I L x I2 L2) (f2 : frK I2 I3 L2 L3) (p2 : pks_way v0 I2 L2 y I3 L3) : rel I3 L3 := by
  have hq0 := relq_way hj hr f1 p1 f2 p2
  have f_71_r : I3 71 = I 71 := by rw [f2.1 71 (by omega), eb_way_71_r (pbs_way.old p1)]
  have f_121_r : I3 121 = I 121 := by rw [ek_way_121_r (pks_way.old p2), f1.1 121 (by omega) (by omega)]
  exact ⟨hq0.1, (by rw [f_71_r, f_121_r]; exact hr.2.1), hq0.2⟩

theorem relq_fault {v0 : Int32} {x y : Int32} {n : Nat} {I I2 I3 : px_I} {L L2 L3 : px_L} {R : px_R} (hj : jJ n I R) (hr : rel I L) (f1 : frB I I2 L L2) (p1 : pb_fault v0 I L x I2 L2) (f2 : frK I2 I3 L2 L3) (p2 : pk_fault v0 I2 L2 y I3 L3) : x = y := by
  have h_fd : I 70 5 = I 103 25 := hr.1
  have h_by : ∀ j : Nat, nb (I 71 j) = nb (I 121 j) := hr.2.1
  have h_fa : I 76 14 = I 103 33 ∧ I 76 15 = I 103 34 := hr.2.2
  unfold pb_fault at p1
  unfold pk_fault at p2
  have e1 : I2 103 = I 103 := f1.1 103 (by omega) (by omega)
  rw [p1.2.2, p2.2.2, e1, h_fa.1, h_fa.2]

theorem rel.fault {v0 : Int32} {x y : Int32} {n : Nat} {I I2 I3 : px_I} {L L2 L3 : px_L} {R : px_R} (hj : jJ n I R) (hr : rel I L) (f1 : frB I I2 L L2) (p1 : pb_fault v0 I L x I2 L2) (f2 : frK I2 I3 L2 L3) (p2 : pk_fault v0 I2 L2 y I3 L3) : x = y ∧ rel I3 L3 := by
  have f_70_5 : I3 70 5 = I 70 5 := by rw [f2.1 70 (by omega), eb_fault_70_5 p1]
  have f_103_25 : I3 103 25 = I 103 25 := by rw [ek_fault_103_25 p2, f1.1 103 (by omega) (by omega)]
  have f_71_r : I3 71 = I 71 := by rw [f2.1 71 (by omega), eb_fault_71_r p1]
  have f_121_r : I3 121 = I 121 := by rw [ek_fault_121_r p2, f1.1 121 (by omega) (by omega)]
  have f_76_14 : I3 76 14 = I 76 14 := by rw [f2.1 76 (by omega), eb_fault_76_14 p1]
  have f_76_15 : I3 76 15 = I 76 15 := by rw [f2.1 76 (by omega), eb_fault_76_15 p1]
  have f_103_33 : I3 103 33 = I 103 33 := by rw [ek_fault_103_33 p2, f1.1 103 (by omega) (by omega)]
  have f_103_34 : I3 103 34 = I 103 34 := by rw [ek_fault_103_34 p2, f1.1 103 (by omega) (by omega)]
  exact ⟨(relq_fault hj hr f1 p1 f2 p2), ⟨(by rw [f_70_5, f_103_25]; exact hr.1), (by rw [f_71_r, f_121_r]; exact hr.2.1), (by rw [f_76_14, f_76_15, f_103_33, f_103_34]; exact hr.2.2)⟩⟩

theorem rel.tools {v0 v1 v2 v3 v4 : Int32} {x y : Int32} {n : Nat} {I I2 I3 : px_I} {L L2 L3 : px_L} {R : px_R} (hj : jJ n I R) (hr : rel I L) (f1 : frB I I2 L L2) (p1 : pb_tools v0 v1 v2 v3 v4 I L x I2 L2) (f2 : frK I2 I3 L2 L3) (p2 : pk_tools v0 v1 v2 v3 v4 I2 L2 y I3 L3) : rel I3 L3 := by
  have f_70_5 : I3 70 5 = I 70 5 := by rw [f2.1 70 (by omega), eb_tools_70_5 p1]
  have f_103_25 : I3 103 25 = I 103 25 := by rw [ek_tools_103_25 p2, f1.1 103 (by omega) (by omega)]
  have f_71_r : I3 71 = I 71 := by rw [f2.1 71 (by omega), eb_tools_71_r p1]
  have f_121_r : I3 121 = I 121 := by rw [ek_tools_121_r p2, f1.1 121 (by omega) (by omega)]
  have f_76_14 : I3 76 14 = I 76 14 := by rw [f2.1 76 (by omega), eb_tools_76_14 p1]
  have f_76_15 : I3 76 15 = I 76 15 := by rw [f2.1 76 (by omega), eb_tools_76_15 p1]
  have f_103_33 : I3 103 33 = I 103 33 := by rw [ek_tools_103_33 p2, f1.1 103 (by omega) (by omega)]
  have f_103_34 : I3 103 34 = I 103 34 := by rw [ek_tools_103_34 p2, f1.1 103 (by omega) (by omega)]
  exact ⟨(by rw [f_70_5, f_103_25]; exact hr.1), (by rw [f_71_r, f_121_r]; exact hr.2.1), (by rw [f_76_14, f_76_15, f_103_33, f_103_34]; exact hr.2.2)⟩

theorem rel.run {v0 v1 v2 : Int32} {x y : Int32} {n : Nat} {I I2 I3 : px_I} {L L2 L3 : px_L} {R : px_R} (hj : jJ n I R) (hr : rel I L) (f1 : frB I I2 L L2) (p1 : pb_run v0 v1 v2 I L x I2 L2) (f2 : frK I2 I3 L2 L3) (p2 : pk_run v0 v1 v2 I2 L2 y I3 L3) : rel I3 L3 := by
  have f_70_5 : I3 70 5 = I 70 5 := by rw [f2.1 70 (by omega), eb_run_70_5 p1]
  have f_103_25 : I3 103 25 = I 103 25 := by rw [ek_run_103_25 p2, f1.1 103 (by omega) (by omega)]
  have f_71_r : I3 71 = I 71 := by rw [f2.1 71 (by omega), eb_run_71_r p1]
  have f_121_r : I3 121 = I 121 := by rw [ek_run_121_r p2, f1.1 121 (by omega) (by omega)]
  have f_76_14 : I3 76 14 = I 76 14 := by rw [f2.1 76 (by omega), eb_run_76_14 p1]
  have f_76_15 : I3 76 15 = I 76 15 := by rw [f2.1 76 (by omega), eb_run_76_15 p1]
  have f_103_33 : I3 103 33 = I 103 33 := by rw [ek_run_103_33 p2, f1.1 103 (by omega) (by omega)]
  have f_103_34 : I3 103 34 = I 103 34 := by rw [ek_run_103_34 p2, f1.1 103 (by omega) (by omega)]
  exact ⟨(by rw [f_70_5, f_103_25]; exact hr.1), (by rw [f_71_r, f_121_r]; exact hr.2.1), (by rw [f_76_14, f_76_15, f_103_33, f_103_34]; exact hr.2.2)⟩

theorem rel.meeting {v0 v1 v2 v3 v4 v5 : Int32} {x y : Int32} {n : Nat} {I I2 I3 : px_I} {L L2 L3 : px_L} {R : px_R} (hj : jJ n I R) (hr : rel I L) (f1 : frB I I2 L L2) (p1 : pb_meeting v0 v1 v2 v3 v4 v5 I L x I2 L2) (f2 : frK I2 I3 L2 L3) (p2 : pk_meeting v0 v1 v2 v3 v4 v5 I2 L2 y I3 L3) : rel I3 L3 := by
  have f_70_5 : I3 70 5 = I 70 5 := by rw [f2.1 70 (by omega), eb_meeting_70_5 p1]
  have f_103_25 : I3 103 25 = I 103 25 := by rw [ek_meeting_103_25 p2, f1.1 103 (by omega) (by omega)]
  have f_71_r : I3 71 = I 71 := by rw [f2.1 71 (by omega), eb_meeting_71_r p1]
  have f_121_r : I3 121 = I 121 := by rw [ek_meeting_121_r p2, f1.1 121 (by omega) (by omega)]
  have f_76_14 : I3 76 14 = I 76 14 := by rw [f2.1 76 (by omega), eb_meeting_76_14 p1]
  have f_76_15 : I3 76 15 = I 76 15 := by rw [f2.1 76 (by omega), eb_meeting_76_15 p1]
  have f_103_33 : I3 103 33 = I 103 33 := by rw [ek_meeting_103_33 p2, f1.1 103 (by omega) (by omega)]
  have f_103_34 : I3 103 34 = I 103 34 := by rw [ek_meeting_103_34 p2, f1.1 103 (by omega) (by omega)]
  exact ⟨(by rw [f_70_5, f_103_25]; exact hr.1), (by rw [f_71_r, f_121_r]; exact hr.2.1), (by rw [f_76_14, f_76_15, f_103_33, f_103_34]; exact hr.2.2)⟩

theorem rel.there {v0 v1 v2 : Int32} {x y : Int32} {n : Nat} {I I2 I3 : px_I} {L L2 L3 : px_L} {R : px_R} (hj : jJ n I R) (hr : rel I L) (f1 : frB I I2 L L2) (p1 : pb_there v0 v1 v2 I L x I2 L2) (f2 : frK I2 I3 L2 L3) (p2 : pk_there v0 v1 v2 I2 L2 y I3 L3) : rel I3 L3 := by
  have f_70_5 : I3 70 5 = I 70 5 := by rw [f2.1 70 (by omega), eb_there_70_5 p1]
  have f_103_25 : I3 103 25 = I 103 25 := by rw [ek_there_103_25 p2, f1.1 103 (by omega) (by omega)]
  have f_71_r : I3 71 = I 71 := by rw [f2.1 71 (by omega), eb_there_71_r p1]
  have f_121_r : I3 121 = I 121 := by rw [ek_there_121_r p2, f1.1 121 (by omega) (by omega)]
  have f_76_14 : I3 76 14 = I 76 14 := by rw [f2.1 76 (by omega), eb_there_76_14 p1]
  have f_76_15 : I3 76 15 = I 76 15 := by rw [f2.1 76 (by omega), eb_there_76_15 p1]
  have f_103_33 : I3 103 33 = I 103 33 := by rw [ek_there_103_33 p2, f1.1 103 (by omega) (by omega)]
  have f_103_34 : I3 103 34 = I 103 34 := by rw [ek_there_103_34 p2, f1.1 103 (by omega) (by omega)]
  exact ⟨(by rw [f_70_5, f_103_25]; exact hr.1), (by rw [f_71_r, f_121_r]; exact hr.2.1), (by rw [f_76_14, f_76_15, f_103_33, f_103_34]; exact hr.2.2)⟩

theorem rel.fits {v0 v1 v2 v3 : Int32} {x y : Int32} {n : Nat} {I I2 I3 : px_I} {L L2 L3 : px_L} {R : px_R} (hj : jJ n I R) (hr : rel I L) (f1 : frB I I2 L L2) (p1 : pb_fits v0 v1 v2 v3 I L x I2 L2) (f2 : frK I2 I3 L2 L3) (p2 : pk_fits v0 v1 v2 v3 I2 L2 y I3 L3) : rel I3 L3 := by
  have f_70_5 : I3 70 5 = I 70 5 := by rw [f2.1 70 (by omega), eb_fits_70_5 p1]
  have f_103_25 : I3 103 25 = I 103 25 := by rw [ek_fits_103_25 p2, f1.1 103 (by omega) (by omega)]
  have f_71_r : I3 71 = I 71 := by rw [f2.1 71 (by omega), eb_fits_71_r p1]
  have f_121_r : I3 121 = I 121 := by rw [ek_fits_121_r p2, f1.1 121 (by omega) (by omega)]
  have f_76_14 : I3 76 14 = I 76 14 := by rw [f2.1 76 (by omega), eb_fits_76_14 p1]
  have f_76_15 : I3 76 15 = I 76 15 := by rw [f2.1 76 (by omega), eb_fits_76_15 p1]
  have f_103_33 : I3 103 33 = I 103 33 := by rw [ek_fits_103_33 p2, f1.1 103 (by omega) (by omega)]
  have f_103_34 : I3 103 34 = I 103 34 := by rw [ek_fits_103_34 p2, f1.1 103 (by omega) (by omega)]
  exact ⟨(by rw [f_70_5, f_103_25]; exact hr.1), (by rw [f_71_r, f_121_r]; exact hr.2.1), (by rw [f_76_14, f_76_15, f_103_33, f_103_34]; exact hr.2.2)⟩

theorem rel.ways {v0 v1 v2 v3 v4 : Int32} {x y : Int32} {n : Nat} {I I2 I3 : px_I} {L L2 L3 : px_L} {R : px_R} (hj : jJ n I R) (hr : rel I L) (f1 : frB I I2 L L2) (p1 : pb_ways v0 v1 v2 v3 v4 I L x I2 L2) (f2 : frK I2 I3 L2 L3) (p2 : pk_ways v0 v1 v2 v3 v4 I2 L2 y I3 L3) : rel I3 L3 := by
  have f_70_5 : I3 70 5 = I 70 5 := by rw [f2.1 70 (by omega), eb_ways_70_5 p1]
  have f_103_25 : I3 103 25 = I 103 25 := by rw [ek_ways_103_25 p2, f1.1 103 (by omega) (by omega)]
  have f_71_r : I3 71 = I 71 := by rw [f2.1 71 (by omega), eb_ways_71_r p1]
  have f_121_r : I3 121 = I 121 := by rw [ek_ways_121_r p2, f1.1 121 (by omega) (by omega)]
  have f_76_14 : I3 76 14 = I 76 14 := by rw [f2.1 76 (by omega), eb_ways_76_14 p1]
  have f_76_15 : I3 76 15 = I 76 15 := by rw [f2.1 76 (by omega), eb_ways_76_15 p1]
  have f_103_33 : I3 103 33 = I 103 33 := by rw [ek_ways_103_33 p2, f1.1 103 (by omega) (by omega)]
  have f_103_34 : I3 103 34 = I 103 34 := by rw [ek_ways_103_34 p2, f1.1 103 (by omega) (by omega)]
  exact ⟨(by rw [f_70_5, f_103_25]; exact hr.1), (by rw [f_71_r, f_121_r]; exact hr.2.1), (by rw [f_76_14, f_76_15, f_103_33, f_103_34]; exact hr.2.2)⟩

theorem rel.seek {v0 v1 v2 v3 v4 v5 : Int32} {x y : Int32} {n : Nat} {I I2 I3 : px_I} {L L2 L3 : px_L} {R : px_R} (hj : jJ n I R) (hr : rel I L) (f1 : frB I I2 L L2) (p1 : pb_seek v0 v1 v2 v3 v4 v5 I L x I2 L2) (f2 : frK I2 I3 L2 L3) (p2 : pk_seek v0 v1 v2 v3 v4 v5 I2 L2 y I3 L3) : rel I3 L3 := by
  have f_70_5 : I3 70 5 = I 70 5 := by rw [f2.1 70 (by omega), eb_seek_70_5 p1]
  have f_103_25 : I3 103 25 = I 103 25 := by rw [ek_seek_103_25 p2, f1.1 103 (by omega) (by omega)]
  have f_71_r : I3 71 = I 71 := by rw [f2.1 71 (by omega), eb_seek_71_r p1]
  have f_121_r : I3 121 = I 121 := by rw [ek_seek_121_r p2, f1.1 121 (by omega) (by omega)]
  have f_76_14 : I3 76 14 = I 76 14 := by rw [f2.1 76 (by omega), eb_seek_76_14 p1]
  have f_76_15 : I3 76 15 = I 76 15 := by rw [f2.1 76 (by omega), eb_seek_76_15 p1]
  have f_103_33 : I3 103 33 = I 103 33 := by rw [ek_seek_103_33 p2, f1.1 103 (by omega) (by omega)]
  have f_103_34 : I3 103 34 = I 103 34 := by rw [ek_seek_103_34 p2, f1.1 103 (by omega) (by omega)]
  exact ⟨(by rw [f_70_5, f_103_25]; exact hr.1), (by rw [f_71_r, f_121_r]; exact hr.2.1), (by rw [f_76_14, f_76_15, f_103_33, f_103_34]; exact hr.2.2)⟩

theorem rel.chance {n : Nat} {I I2 I3 : px_I} {L L2 L3 : px_L} {R : px_R} (hj : jJ n I R) (hr : rel I L) (f1 : frB I I2 L L2) (p1 : I2 = I ∧ cSL L L2) (f2 : frK I2 I3 L2 L3) (p2 : I3 = I2 ∧ mNL L2 L3) : rel I3 L3 := by
  have f_70_5 : I3 70 5 = I 70 5 := by rw [f2.1 70 (by omega), p1.1]
  have f_103_25 : I3 103 25 = I 103 25 := by rw [p2.1, f1.1 103 (by omega) (by omega)]
  have f_71_r : I3 71 = I 71 := by rw [f2.1 71 (by omega), p1.1]
  have f_121_r : I3 121 = I 121 := by rw [p2.1, f1.1 121 (by omega) (by omega)]
  have f_76_14 : I3 76 14 = I 76 14 := by rw [f2.1 76 (by omega), p1.1]
  have f_76_15 : I3 76 15 = I 76 15 := by rw [f2.1 76 (by omega), p1.1]
  have f_103_33 : I3 103 33 = I 103 33 := by rw [p2.1, f1.1 103 (by omega) (by omega)]
  have f_103_34 : I3 103 34 = I 103 34 := by rw [p2.1, f1.1 103 (by omega) (by omega)]
  exact ⟨(by rw [f_70_5, f_103_25]; exact hr.1), (by rw [f_71_r, f_121_r]; exact hr.2.1), (by rw [f_76_14, f_76_15, f_103_33, f_103_34]; exact hr.2.2)⟩

theorem rel.detour {v0 v1 v2 : Int32} {x y : Int32} {n : Nat} {I I2 I3 : px_I} {L L2 L3 : px_L} {R : px_R} (hj : jJ n I R) (hr : rel I L) (f1 : frB I I2 L L2) (p1 : pb_detour v0 v1 v2 I L x I2 L2) (f2 : frK I2 I3 L2 L3) (p2 : pk_detour v0 v1 v2 I2 L2 y I3 L3) : rel I3 L3 := by
  have f_70_5 : I3 70 5 = I 70 5 := by rw [f2.1 70 (by omega), eb_detour_70_5 p1]
  have f_103_25 : I3 103 25 = I 103 25 := by rw [ek_detour_103_25 p2, f1.1 103 (by omega) (by omega)]
  have f_71_r : I3 71 = I 71 := by rw [f2.1 71 (by omega), eb_detour_71_r p1]
  have f_121_r : I3 121 = I 121 := by rw [ek_detour_121_r p2, f1.1 121 (by omega) (by omega)]
  have f_76_14 : I3 76 14 = I 76 14 := by rw [f2.1 76 (by omega), eb_detour_76_14 p1]
  have f_76_15 : I3 76 15 = I 76 15 := by rw [f2.1 76 (by omega), eb_detour_76_15 p1]
  have f_103_33 : I3 103 33 = I 103 33 := by rw [ek_detour_103_33 p2, f1.1 103 (by omega) (by omega)]
  have f_103_34 : I3 103 34 = I 103 34 := by rw [ek_detour_103_34 p2, f1.1 103 (by omega) (by omega)]
  exact ⟨(by rw [f_70_5, f_103_25]; exact hr.1), (by rw [f_71_r, f_121_r]; exact hr.2.1), (by rw [f_76_14, f_76_15, f_103_33, f_103_34]; exact hr.2.2)⟩

theorem rel.table {v0 v1 : Int32} {x y : Int32} {n : Nat} {I I2 I3 : px_I} {L L2 L3 : px_L} {R : px_R} (hj : jJ n I R) (hr : rel I L) (f1 : frB I I2 L L2) (p1 : pb_table v0 v1 I L x I2 L2) (f2 : frK I2 I3 L2 L3) (p2 : pk_table v0 v1 I2 L2 y I3 L3) : rel I3 L3 := by
  have f_70_5 : I3 70 5 = I 70 5 := by rw [f2.1 70 (by omega), eb_table_70_5 p1]
  have f_103_25 : I3 103 25 = I 103 25 := by rw [ek_table_103_25 p2, f1.1 103 (by omega) (by omega)]
  have f_71_r : I3 71 = I 71 := by rw [f2.1 71 (by omega), eb_table_71_r p1]
  have f_121_r : I3 121 = I 121 := by rw [ek_table_121_r p2, f1.1 121 (by omega) (by omega)]
  have f_76_14 : I3 76 14 = I 76 14 := by rw [f2.1 76 (by omega), eb_table_76_14 p1]
  have f_76_15 : I3 76 15 = I 76 15 := by rw [f2.1 76 (by omega), eb_table_76_15 p1]
  have f_103_33 : I3 103 33 = I 103 33 := by rw [ek_table_103_33 p2, f1.1 103 (by omega) (by omega)]
  have f_103_34 : I3 103 34 = I 103 34 := by rw [ek_table_103_34 p2, f1.1 103 (by omega) (by omega)]
  exact ⟨(by rw [f_70_5, f_103_25]; exact hr.1), (by rw [f_71_r, f_121_r]; exact hr.2.1), (by rw [f_76_14, f_76_15, f_103_33, f_103_34]; exact hr.2.2)⟩

theorem rel.repair {v0 v1 v2 : Int32} {x y : Int32} {n : Nat} {I I2 I3 : px_I} {L L2 L3 : px_L} {R : px_R} (hj : jJ n I R) (hr : rel I L) (f1 : frB I I2 L L2) (p1 : pb_repair v0 v1 v2 I L x I2 L2) (f2 : frK I2 I3 L2 L3) (p2 : pk_repair v0 v1 v2 I2 L2 y I3 L3) : rel I3 L3 := by
  have f_70_5 : I3 70 5 = I 70 5 := by rw [f2.1 70 (by omega), eb_repair_70_5 p1]
  have f_103_25 : I3 103 25 = I 103 25 := by rw [ek_repair_103_25 p2, f1.1 103 (by omega) (by omega)]
  have f_71_r : I3 71 = I 71 := by rw [f2.1 71 (by omega), eb_repair_71_r p1]
  have f_121_r : I3 121 = I 121 := by rw [ek_repair_121_r p2, f1.1 121 (by omega) (by omega)]
  have f_76_14 : I3 76 14 = I 76 14 := by rw [f2.1 76 (by omega), eb_repair_76_14 p1]
  have f_76_15 : I3 76 15 = I 76 15 := by rw [f2.1 76 (by omega), eb_repair_76_15 p1]
  have f_103_33 : I3 103 33 = I 103 33 := by rw [ek_repair_103_33 p2, f1.1 103 (by omega) (by omega)]
  have f_103_34 : I3 103 34 = I 103 34 := by rw [ek_repair_103_34 p2, f1.1 103 (by omega) (by omega)]
  exact ⟨(by rw [f_70_5, f_103_25]; exact hr.1), (by rw [f_71_r, f_121_r]; exact hr.2.1), (by rw [f_76_14, f_76_15, f_103_33, f_103_34]; exact hr.2.2)⟩

theorem rel.lime {v0 : Int32} {x y : Int32} {n : Nat} {I I2 I3 : px_I} {L L2 L3 : px_L} {R : px_R} (hj : jJ n I R) (hr : rel I L) (f1 : frB I I2 L L2) (p1 : pb_lime v0 I L x I2 L2) (f2 : frK I2 I3 L2 L3) (p2 : pk_lime v0 I2 L2 y I3 L3) : rel I3 L3 := by
  have f_70_5 : I3 70 5 = I 70 5 := by rw [f2.1 70 (by omega), eb_lime_70_5 p1]
  have f_103_25 : I3 103 25 = I 103 25 := by rw [ek_lime_103_25 p2, f1.1 103 (by omega) (by omega)]
  have f_71_r : I3 71 = I 71 := by rw [f2.1 71 (by omega), eb_lime_71_r p1]
  have f_121_r : I3 121 = I 121 := by rw [ek_lime_121_r p2, f1.1 121 (by omega) (by omega)]
  have f_76_14 : I3 76 14 = I 76 14 := by rw [f2.1 76 (by omega), eb_lime_76_14 p1]
  have f_76_15 : I3 76 15 = I 76 15 := by rw [f2.1 76 (by omega), eb_lime_76_15 p1]
  have f_103_33 : I3 103 33 = I 103 33 := by rw [ek_lime_103_33 p2, f1.1 103 (by omega) (by omega)]
  have f_103_34 : I3 103 34 = I 103 34 := by rw [ek_lime_103_34 p2, f1.1 103 (by omega) (by omega)]
  exact ⟨(by rw [f_70_5, f_103_25]; exact hr.1), (by rw [f_71_r, f_121_r]; exact hr.2.1), (by rw [f_76_14, f_76_15, f_103_33, f_103_34]; exact hr.2.2)⟩

theorem rel.flow {v0 v1 v2 v3 : Int32} {x y : Int32} {n : Nat} {I I2 I3 : px_I} {L L2 L3 : px_L} {R : px_R} (hj : jJ n I R) (hr : rel I L) (f1 : frB I I2 L L2) (p1 : pb_flow v0 v1 v2 v3 I L x I2 L2) (f2 : frK I2 I3 L2 L3) (p2 : pk_flow v0 v1 v2 v3 I2 L2 y I3 L3) : rel I3 L3 := by
  have f_70_5 : I3 70 5 = I 70 5 := by rw [f2.1 70 (by omega), eb_flow_70_5 p1]
  have f_103_25 : I3 103 25 = I 103 25 := by rw [ek_flow_103_25 p2, f1.1 103 (by omega) (by omega)]
  have f_71_r : I3 71 = I 71 := by rw [f2.1 71 (by omega), eb_flow_71_r p1]
  have f_121_r : I3 121 = I 121 := by rw [ek_flow_121_r p2, f1.1 121 (by omega) (by omega)]
  have f_76_14 : I3 76 14 = I 76 14 := by rw [f2.1 76 (by omega), eb_flow_76_14 p1]
  have f_76_15 : I3 76 15 = I 76 15 := by rw [f2.1 76 (by omega), eb_flow_76_15 p1]
  have f_103_33 : I3 103 33 = I 103 33 := by rw [ek_flow_103_33 p2, f1.1 103 (by omega) (by omega)]
  have f_103_34 : I3 103 34 = I 103 34 := by rw [ek_flow_103_34 p2, f1.1 103 (by omega) (by omega)]
  exact ⟨(by rw [f_70_5, f_103_25]; exact hr.1), (by rw [f_71_r, f_121_r]; exact hr.2.1), (by rw [f_76_14, f_76_15, f_103_33, f_103_34]; exact hr.2.2)⟩

theorem rel.narrow {v0 v1 v2 : Int32} {x y : Int32} {n : Nat} {I I2 I3 : px_I} {L L2 L3 : px_L} {R : px_R} (hj : jJ n I R) (hr : rel I L) (f1 : frB I I2 L L2) (p1 : pb_narrow v0 v1 v2 I L x I2 L2) (f2 : frK I2 I3 L2 L3) (p2 : pk_narrow v0 v1 v2 I2 L2 y I3 L3) : rel I3 L3 := by
  have f_70_5 : I3 70 5 = I 70 5 := by rw [f2.1 70 (by omega), eb_narrow_70_5 p1]
  have f_103_25 : I3 103 25 = I 103 25 := by rw [ek_narrow_103_25 p2, f1.1 103 (by omega) (by omega)]
  have f_71_r : I3 71 = I 71 := by rw [f2.1 71 (by omega), eb_narrow_71_r p1]
  have f_121_r : I3 121 = I 121 := by rw [ek_narrow_121_r p2, f1.1 121 (by omega) (by omega)]
  have f_76_14 : I3 76 14 = I 76 14 := by rw [f2.1 76 (by omega), eb_narrow_76_14 p1]
  have f_76_15 : I3 76 15 = I 76 15 := by rw [f2.1 76 (by omega), eb_narrow_76_15 p1]
  have f_103_33 : I3 103 33 = I 103 33 := by rw [ek_narrow_103_33 p2, f1.1 103 (by omega) (by omega)]
  have f_103_34 : I3 103 34 = I 103 34 := by rw [ek_narrow_103_34 p2, f1.1 103 (by omega) (by omega)]
  exact ⟨(by rw [f_70_5, f_103_25]; exact hr.1), (by rw [f_71_r, f_121_r]; exact hr.2.1), (by rw [f_76_14, f_76_15, f_103_33, f_103_34]; exact hr.2.2)⟩

theorem rel.about {v0 : Int32} {x y : Int32} {n : Nat} {I I2 I3 : px_I} {L L2 L3 : px_L} {R : px_R} (hj : jJ n I R) (hr : rel I L) (f1 : frB I I2 L L2) (p1 : pb_about v0 I L x I2 L2) (f2 : frK I2 I3 L2 L3) (p2 : pk_about v0 I2 L2 y I3 L3) : rel I3 L3 := by
  have f_70_5 : I3 70 5 = I 70 5 := by rw [f2.1 70 (by omega), eb_about_70_5 p1]
  have f_103_25 : I3 103 25 = I 103 25 := by rw [ek_about_103_25 p2, f1.1 103 (by omega) (by omega)]
  have f_71_r : I3 71 = I 71 := by rw [f2.1 71 (by omega), eb_about_71_r p1]
  have f_121_r : I3 121 = I 121 := by rw [ek_about_121_r p2, f1.1 121 (by omega) (by omega)]
  have f_76_14 : I3 76 14 = I 76 14 := by rw [f2.1 76 (by omega), eb_about_76_14 p1]
  have f_76_15 : I3 76 15 = I 76 15 := by rw [f2.1 76 (by omega), eb_about_76_15 p1]
  have f_103_33 : I3 103 33 = I 103 33 := by rw [ek_about_103_33 p2, f1.1 103 (by omega) (by omega)]
  have f_103_34 : I3 103 34 = I 103 34 := by rw [ek_about_103_34 p2, f1.1 103 (by omega) (by omega)]
  exact ⟨(by rw [f_70_5, f_103_25]; exact hr.1), (by rw [f_71_r, f_121_r]; exact hr.2.1), (by rw [f_76_14, f_76_15, f_103_33, f_103_34]; exact hr.2.2)⟩
