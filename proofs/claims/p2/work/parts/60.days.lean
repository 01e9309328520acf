/-! the days agree -/

theorem eb_station { x : Int32} {I I2 : px_I} {L L2 : px_L} (h : pb_station  I L x I2 L2) : I2 32 10 = I 32 10 := by
  unfold pb_station at h
  obtain ⟨rfl, h⟩ := h
  rcases h with ⟨a1, rfl, rfl⟩ | ⟨a1, rfl, rfl⟩
  · (repeat rw [px_u_out (by omega)])
  · rfl

theorem ek_station { x : Int32} {I I2 : px_I} {L L2 : px_L} (h : pk_station  I L x I2 L2) : I2 103 0 = I 103 0 := by
  unfold pk_station at h
  obtain ⟨rfl, h⟩ := h
  rcases h with ⟨a1, rfl, rfl⟩ | ⟨a1, rfl, rfl⟩
  · (repeat rw [px_u_out (by omega)])
  · rfl

theorem eb_sight {a f t lo hi x : Int32} {I I2 : px_I} {L L2 : px_L} (h : pb_sight a f t lo hi I L x I2 L2) : I2 32 10 = I 32 10 := by
  unfold pb_sight at h
  obtain ⟨rfl, h⟩ := h
  rcases h with ⟨a1, rfl, rfl⟩ | ⟨a1, rfl, rfl⟩
  · (repeat rw [px_u_out (by omega)])
  · rfl

theorem ek_sight {a f t lo hi x : Int32} {I I2 : px_I} {L L2 : px_L} (h : pk_sight a f t lo hi I L x I2 L2) : I2 103 0 = I 103 0 := by
  unfold pk_sight at h
  obtain ⟨rfl, h⟩ := h
  rcases h with ⟨a1, rfl, rfl⟩ | ⟨a1, rfl, rfl⟩
  · (repeat rw [px_u_out (by omega)])
  · rfl

theorem eb_closed {a k x : Int32} {I I2 : px_I} {L L2 : px_L} (h : pb_closed a k I L x I2 L2) : I2 32 10 = I 32 10 := by
  unfold pb_closed at h
  obtain ⟨rfl, h⟩ := h
  rfl

theorem ek_closed {a k x : Int32} {I I2 : px_I} {L L2 : px_L} (h : pk_closed a k I L x I2 L2) : I2 103 0 = I 103 0 := by
  unfold pk_closed at h
  exact h.1 103 0 (by omega)

theorem eb_span {a t k h x : Int32} {I I2 : px_I} {L L2 : px_L} (h : pb_span a t k h I L x I2 L2) : I2 32 10 = I 32 10 := by
  unfold pb_span at h
  obtain ⟨rfl, h⟩ := h
  rfl

theorem ek_span {a t k h x : Int32} {I I2 : px_I} {L L2 : px_L} (h : pk_span a t k h I L x I2 L2) : I2 103 0 = I 103 0 := by
  unfold pk_span at h
  exact h.1 103 0 (by omega)

theorem eb_gap {a f t k h x : Int32} {I I2 : px_I} {L L2 : px_L} (h : pb_gap a f t k h I L x I2 L2) : I2 32 10 = I 32 10 := by
  unfold pb_gap at h
  obtain ⟨rfl, h⟩ := h
  rfl

theorem ek_gap {a f t k h x : Int32} {I I2 : px_I} {L L2 : px_L} (h : pk_gap a f t k h I L x I2 L2) : I2 103 0 = I 103 0 := by
  unfold pk_gap at h
  exact h.1 103 0 (by omega)

theorem eb_blamed {a k i x : Int32} {I I2 : px_I} {L L2 : px_L} (h : pb_blamed a k i I L x I2 L2) : I2 32 10 = I 32 10 := by
  unfold pb_blamed at h
  obtain ⟨rfl, h⟩ := h
  rfl

theorem ek_blamed {a k i x : Int32} {I I2 : px_I} {L L2 : px_L} (h : pk_blamed a k i I L x I2 L2) : I2 103 0 = I 103 0 := by
  unfold pk_blamed at h
  exact h.1 103 0 (by omega)

theorem eb_reach {g lo hi sl fa w st x : Int32} {I I2 : px_I} {L L2 : px_L} (h : pb_reach g lo hi sl fa w st I L x I2 L2) : I2 32 10 = I 32 10 := by
  unfold pb_reach at h
  obtain ⟨rfl, h⟩ := h
  rcases h with ⟨G, ⟨g1, g2, g3⟩, rfl, rfl⟩ | ⟨a1, rfl, rfl⟩
  · have gG : G = 41 ∨ G = 55 := by unfold bG at g1; omega
    rw [cReach_o (by omega)]
  · rfl

theorem ek_reach {g lo hi sl fa w st x : Int32} {I I2 : px_I} {L L2 : px_L} (h : pk_reach g lo hi sl fa w st I L x I2 L2) : I2 103 0 = I 103 0 := by
  unfold pk_reach at h
  obtain ⟨rfl, h⟩ := h
  rcases h with ⟨a1, rfl, rfl⟩ | ⟨a1, rfl, rfl⟩
  · unfold mReach; (repeat rw [px_u_out (by omega)])
  · rfl

theorem eb_mouth {g st x : Int32} {I I2 : px_I} {L L2 : px_L} (h : pb_mouth g st I L x I2 L2) : I2 32 10 = I 32 10 := by
  unfold pb_mouth at h
  obtain ⟨rfl, h⟩ := h
  rcases h with ⟨G, g1, rfl⟩ | rfl
  · have gG : G = 41 ∨ G = 55 := by unfold bG at g1; omega
    (repeat rw [px_u_out (by omega)])
  · rfl

theorem ek_mouth {g st x : Int32} {I I2 : px_I} {L L2 : px_L} (h : pk_mouth g st I L x I2 L2) : I2 103 0 = I 103 0 := by
  unfold pk_mouth at h
  obtain ⟨rfl, h⟩ := h
  rcases h with ⟨a1, a2, rfl, rfl⟩ | ⟨a1, rfl, rfl⟩
  · (repeat rw [px_u_out (by omega)])
  · rfl

theorem eb_mark {g p f t x : Int32} {I I2 : px_I} {L L2 : px_L} (h : pb_mark g p f t I L x I2 L2) : I2 32 10 = I 32 10 := by
  unfold pb_mark at h
  obtain ⟨rfl, h⟩ := h
  rcases h with ⟨G, g1, rfl, rfl⟩ | ⟨a1, rfl, rfl⟩
  · have g2 := g1.1
    have gG : G = 41 ∨ G = 55 := by unfold bG at g2; omega
    unfold cMark; (repeat rw [px_u_out (by omega)])
  · rfl

theorem ek_mark {g p f t x : Int32} {I I2 : px_I} {L L2 : px_L} (h : pk_mark g p f t I L x I2 L2) : I2 103 0 = I 103 0 := by
  unfold pk_mark at h
  obtain ⟨rfl, h⟩ := h
  rcases h with ⟨a1, rfl, rfl⟩ | ⟨a1, rfl, rfl⟩
  · unfold mMark; (repeat rw [px_u_out (by omega)])
  · rfl

theorem eb_when {g p h x : Int32} {I I2 : px_I} {L L2 : px_L} (h : pb_when g p h I L x I2 L2) : I2 32 10 = I 32 10 := by
  unfold pb_when at h
  obtain ⟨rfl, h⟩ := h
  rw [h 32 (by decide) (by decide) (by decide) (by decide)]

theorem ek_when {g p h x : Int32} {I I2 : px_I} {L L2 : px_L} (h : pk_when g p h I L x I2 L2) : I2 103 0 = I 103 0 := by
  unfold pk_when at h
  exact h.1 103 0 (by omega)

theorem eb_between {g p q h x : Int32} {I I2 : px_I} {L L2 : px_L} (h : pb_between g p q h I L x I2 L2) : I2 32 10 = I 32 10 := by
  unfold pb_between at h
  obtain ⟨rfl, h⟩ := h
  rw [h 32 (by decide) (by decide) (by decide) (by decide)]

theorem ek_between {g p t h x : Int32} {I I2 : px_I} {L L2 : px_L} (h : pk_between g p t h I L x I2 L2) : I2 103 0 = I 103 0 := by
  unfold pk_between at h
  exact h.1 103 0 (by omega)

theorem eb_lamps {g p h lo hi x : Int32} {I I2 : px_I} {L L2 : px_L} (h : pb_lamps g p h lo hi I L x I2 L2) : I2 32 10 = I 32 10 := by
  unfold pb_lamps at h
  rw [h.1]

theorem ek_lamps {g p h lo hi x : Int32} {I I2 : px_I} {L L2 : px_L} (h : pk_lamps g p h lo hi I L x I2 L2) : I2 103 0 = I 103 0 := by
  unfold pk_lamps at h
  rw [h.1]

theorem eb_count {u lo hi x : Int32} {I I2 : px_I} {L L2 : px_L} (h : pb_count u lo hi I L x I2 L2) : I2 32 10 = I 32 10 := by
  unfold pb_count at h
  obtain ⟨rfl, h⟩ := h
  rcases h with ⟨a1, rfl, rfl⟩ | ⟨a1, rfl, rfl⟩
  · (repeat rw [px_u_out (by omega)])
  · rfl

theorem ek_count {u lo hi x : Int32} {I I2 : px_I} {L L2 : px_L} (h : pk_count u lo hi I L x I2 L2) : I2 103 0 = I 103 0 := by
  unfold pk_count at h
  rcases h with ⟨a1, rfl, rfl, rfl⟩ | ⟨a1, rfl, rfl, rfl⟩
  · (repeat rw [px_u_out (by omega)])
  · rfl

theorem eb_unit {h x : Int32} {I I2 : px_I} {L L2 : px_L} (h : pb_unit h I L x I2 L2) : I2 32 10 = I 32 10 := by
  unfold pb_unit at h
  rw [h.1]

theorem ek_unit {h x : Int32} {I I2 : px_I} {L L2 : px_L} (h : pk_unit h I L x I2 L2) : I2 103 0 = I 103 0 := by
  unfold pk_unit at h
  rw [h.1]

theorem eb_feed {a b c d e x : Int32} {I I2 : px_I} {L L2 : px_L} (h : pb_feed a b c d e I L x I2 L2) : I2 32 10 = I 32 10 := by
  unfold pb_feed at h
  obtain ⟨rfl, h⟩ := h
  rcases h with ⟨a1, rfl, rfl⟩ | ⟨a1, rfl, rfl⟩
  · rw [cApp_at _ _ 32 10 (by omega) (by omega), cApp_at _ _ 32 10 (by omega) (by omega), cApp_at _ _ 32 10 (by omega) (by omega), cApp_at _ _ 32 10 (by omega) (by omega), cApp_at _ _ 32 10 (by omega) (by omega)]
  · rfl

theorem ek_feed {a b c d e x : Int32} {I I2 : px_I} {L L2 : px_L} (h : pk_feed a b c d e I L x I2 L2) : I2 103 0 = I 103 0 := by
  unfold pk_feed at h
  obtain ⟨rfl, h⟩ := h
  rcases h with ⟨a1, rfl, rfl⟩ | ⟨a1, rfl, rfl⟩
  · rw [mPut_o (by omega) (by omega), mPut_o (by omega) (by omega), mPut_o (by omega) (by omega), mPut_o (by omega) (by omega), mPut_o (by omega) (by omega)]
  · rfl

theorem eb_end {x9 x : Int32} {I I2 : px_I} {L L2 : px_L} (h : pb_end x9 I L x I2 L2) : I2 32 10 = I 32 10 := by
  unfold pb_end at h
  obtain ⟨rfl, h⟩ := h
  rcases h with ⟨a1, rfl, rfl⟩ | ⟨a1, rfl, rfl⟩
  · (repeat rw [px_u_out (by omega)])
  · rfl

theorem ek_end {x9 x : Int32} {I I2 : px_I} {L L2 : px_L} (h : pk_end x9 I L x I2 L2) : I2 103 0 = I 103 0 := by
  unfold pk_end at h
  obtain ⟨rfl, h⟩ := h
  rcases h with ⟨a1, a2, rfl, rfl⟩ | ⟨a1, rfl, rfl⟩
  · (repeat rw [px_u_out (by omega)])
  · rfl

theorem eb_way {i x : Int32} {I I2 : px_I} {L L2 : px_L} (h : pb_way i I L x I2 L2) : I2 32 10 = I 32 10 := by
  unfold pb_way at h
  exact h.1 32 10 (by omega) (by omega) (by omega) (by omega) (by omega)

theorem ek_way {w x : Int32} {I I2 : px_I} {L L2 : px_L} (h : pk_way w I L x I2 L2) : I2 103 0 = I 103 0 := by
  unfold pk_way at h
  obtain ⟨rfl, h⟩ := h
  rcases h with ⟨a1, a2, rfl⟩ | ⟨a1, a2, a3⟩
  · rfl
  · exact a2 103 0 (by omega) (by omega)

theorem eb_fault {x9 x : Int32} {I I2 : px_I} {L L2 : px_L} (h : pb_fault x9 I L x I2 L2) : I2 32 10 = I 32 10 := by
  unfold pb_fault at h
  rw [h.1]

theorem ek_fault {x9 x : Int32} {I I2 : px_I} {L L2 : px_L} (h : pk_fault x9 I L x I2 L2) : I2 103 0 = I 103 0 := by
  unfold pk_fault at h
  rw [h.1]

theorem eb_tools {a b c d e x : Int32} {I I2 : px_I} {L L2 : px_L} (h : pb_tools a b c d e I L x I2 L2) : I2 32 10 = I 32 10 := by
  unfold pb_tools at h
  obtain ⟨rfl, h⟩ := h
  rcases h with ⟨a1, rfl, a2⟩ | ⟨a1, rfl, rfl⟩
  · rw [a2 32 (by decide)]; (repeat rw [px_u_out (by omega)])
  · rfl

theorem ek_tools {a b c d e x : Int32} {I I2 : px_I} {L L2 : px_L} (h : pk_tools a b c d e I L x I2 L2) : I2 103 0 = I 103 0 := by
  unfold pk_tools at h
  obtain ⟨rfl, h⟩ := h
  rcases h with ⟨a1, rfl, rfl⟩ | ⟨a1, rfl, rfl⟩
  · (repeat rw [px_u_out (by omega)])
  · rfl

theorem eb_run {w h a x : Int32} {I I2 : px_I} {L L2 : px_L} (h : pb_run w h a I L x I2 L2) : I2 32 10 = I 32 10 := by
  unfold pb_run at h
  exact h.1 32 10 (by omega) (by omega) (by omega) (by omega) (by omega) (by omega) (by omega)

theorem ek_run {w h a x : Int32} {I I2 : px_I} {L L2 : px_L} (h : pk_run w h a I L x I2 L2) : I2 103 0 = I 103 0 := by
  unfold pk_run at h
  exact h.1 103 0 (by omega) (by omega) (by omega)

theorem eb_meeting {a f b t x9 h x : Int32} {I I2 : px_I} {L L2 : px_L} (h : pb_meeting a f b t x9 h I L x I2 L2) : I2 32 10 = I 32 10 := by
  unfold pb_meeting at h
  exact h.1 32 10 (by omega) (by omega) (by omega) (by omega) (by omega) (by omega) (by omega)

theorem ek_meeting {a f b t x9 h x : Int32} {I I2 : px_I} {L L2 : px_L} (h : pk_meeting a f b t x9 h I L x I2 L2) : I2 103 0 = I 103 0 := by
  unfold pk_meeting at h
  exact h.1 103 0 (by omega) (by omega) (by omega)

theorem eb_there {a lo hi x : Int32} {I I2 : px_I} {L L2 : px_L} (h : pb_there a lo hi I L x I2 L2) : I2 32 10 = I 32 10 := by
  unfold pb_there at h
  obtain ⟨rfl, h⟩ := h
  rcases h with ⟨a1, rfl, rfl⟩ | ⟨a1, rfl, rfl⟩
  · (repeat rw [px_u_out (by omega)])
  · rfl

theorem ek_there {a lo hi x : Int32} {I I2 : px_I} {L L2 : px_L} (h : pk_there a lo hi I L x I2 L2) : I2 103 0 = I 103 0 := by
  unfold pk_there at h
  obtain ⟨rfl, h⟩ := h
  rcases h with ⟨a1, rfl, rfl⟩ | ⟨a1, rfl, rfl⟩
  · (repeat rw [px_u_out (by omega)])
  · rfl

theorem eb_fits {a f b t x : Int32} {I I2 : px_I} {L L2 : px_L} (h : pb_fits a f b t I L x I2 L2) : I2 32 10 = I 32 10 := by
  unfold pb_fits at h
  exact h.1 32 10 (by omega) (by omega) (by omega) (by omega) (by omega) (by omega) (by omega)

theorem ek_fits {a f b t x : Int32} {I I2 : px_I} {L L2 : px_L} (h : pk_fits a f b t I L x I2 L2) : I2 103 0 = I 103 0 := by
  unfold pk_fits at h
  exact h.1 103 0 (by omega) (by omega) (by omega)

theorem eb_ways {a f b t x9 x : Int32} {I I2 : px_I} {L L2 : px_L} (h : pb_ways a f b t x9 I L x I2 L2) : I2 32 10 = I 32 10 := by
  unfold pb_ways at h
  exact h.1 32 10 (by omega) (by omega) (by omega) (by omega) (by omega) (by omega) (by omega)

theorem ek_ways {a f b t x9 x : Int32} {I I2 : px_I} {L L2 : px_L} (h : pk_ways a f b t x9 I L x I2 L2) : I2 103 0 = I 103 0 := by
  unfold pk_ways at h
  exact h.1 103 0 (by omega) (by omega) (by omega)

theorem eb_seek {a b c d e f x : Int32} {I I2 : px_I} {L L2 : px_L} (h : pb_seek a b c d e f I L x I2 L2) : I2 32 10 = I 32 10 := by
  unfold pb_seek at h
  obtain ⟨rfl, h⟩ := h
  rcases h with ⟨a1, rfl, rfl⟩ | ⟨a1, rfl, rfl⟩
  · (repeat rw [px_u_out (by omega)])
  · rfl

theorem ek_seek {a b c d e f x : Int32} {I I2 : px_I} {L L2 : px_L} (h : pk_seek a b c d e f I L x I2 L2) : I2 103 0 = I 103 0 := by
  unfold pk_seek at h
  obtain ⟨rfl, h⟩ := h
  rcases h with ⟨a1, rfl, rfl⟩ | ⟨a1, rfl, rfl⟩
  · (repeat rw [px_u_out (by omega)])
  · rfl

theorem eb_detour {a o h x : Int32} {I I2 : px_I} {L L2 : px_L} (h : pb_detour a o h I L x I2 L2) : I2 32 10 = I 32 10 := by
  unfold pb_detour at h
  rw [h.1]

theorem ek_detour {a o lo x : Int32} {I I2 : px_I} {L L2 : px_L} (h : pk_detour a o lo I L x I2 L2) : I2 103 0 = I 103 0 := by
  unfold pk_detour at h
  rw [h.1]

theorem eb_table {c v x : Int32} {I I2 : px_I} {L L2 : px_L} (h : pb_table c v I L x I2 L2) : I2 32 10 = I 32 10 := by
  unfold pb_table at h
  obtain ⟨rfl, h⟩ := h
  rcases h with ⟨a1, rfl, rfl⟩ | ⟨a1, rfl, rfl⟩
  · (repeat rw [px_u_out (by omega)])
  · rfl

theorem ek_table {c v x : Int32} {I I2 : px_I} {L L2 : px_L} (h : pk_table c v I L x I2 L2) : I2 103 0 = I 103 0 := by
  unfold pk_table at h
  obtain ⟨rfl, h⟩ := h
  rcases h with ⟨a1, rfl, rfl⟩ | ⟨a1, rfl, rfl⟩
  · (repeat rw [px_u_out (by omega)])
  · rfl

theorem eb_repair {g p y x : Int32} {I I2 : px_I} {L L2 : px_L} (h : pb_repair g p y I L x I2 L2) : I2 32 10 = I 32 10 := by
  unfold pb_repair at h
  obtain ⟨rfl, h⟩ := h
  rcases h with ⟨G, g1, rfl, rfl⟩ | ⟨a1, rfl, rfl⟩
  · have g2 := g1.1
    have gG : G = 41 ∨ G = 55 := by unfold bG at g2; omega
    unfold cRep; (repeat rw [px_u_out (by omega)])
  · rfl

theorem ek_repair {g p y x : Int32} {I I2 : px_I} {L L2 : px_L} (h : pk_repair g p y I L x I2 L2) : I2 103 0 = I 103 0 := by
  unfold pk_repair at h
  obtain ⟨rfl, h⟩ := h
  rcases h with ⟨a1, rfl, rfl⟩ | ⟨a1, rfl, rfl⟩
  · (repeat rw [px_u_out (by omega)])
  · rfl

theorem eb_lime {v x : Int32} {I I2 : px_I} {L L2 : px_L} (h : pb_lime v I L x I2 L2) : I2 32 10 = I 32 10 := by
  unfold pb_lime at h
  obtain ⟨rfl, h⟩ := h
  rcases h with ⟨a1, rfl, rfl⟩ | ⟨a1, rfl, rfl⟩
  · (repeat rw [px_u_out (by omega)])
  · rfl

theorem ek_lime {v x : Int32} {I I2 : px_I} {L L2 : px_L} (h : pk_lime v I L x I2 L2) : I2 103 0 = I 103 0 := by
  unfold pk_lime at h
  obtain ⟨rfl, h⟩ := h
  rcases h with ⟨a1, a2, rfl, rfl⟩ | ⟨a1, rfl, rfl⟩
  · (repeat rw [px_u_out (by omega)])
  · rfl

theorem eb_flow {g y k h x : Int32} {I I2 : px_I} {L L2 : px_L} (h : pb_flow g y k h I L x I2 L2) : I2 32 10 = I 32 10 := by
  unfold pb_flow at h
  exact h.1 32 10 (by omega)

theorem ek_flow {g y k h x : Int32} {I I2 : px_I} {L L2 : px_L} (h : pk_flow g y k h I L x I2 L2) : I2 103 0 = I 103 0 := by
  unfold pk_flow at h
  exact h.1 103 0 (by omega)

theorem eb_narrow {g y k x : Int32} {I I2 : px_I} {L L2 : px_L} (h : pb_narrow g y k I L x I2 L2) : I2 32 10 = I 32 10 := by
  unfold pb_narrow at h
  exact h.1 32 10 (by omega)

theorem ek_narrow {g y k x : Int32} {I I2 : px_I} {L L2 : px_L} (h : pk_narrow g y k I L x I2 L2) : I2 103 0 = I 103 0 := by
  unfold pk_narrow at h
  exact h.1 103 0 (by omega)

theorem eb_about {w x : Int32} {I I2 : px_I} {L L2 : px_L} (h : pb_about w I L x I2 L2) : I2 32 10 = I 32 10 := by
  unfold pb_about at h
  rw [h.1]

theorem ek_about {w x : Int32} {I I2 : px_I} {L L2 : px_L} (h : pk_about w I L x I2 L2) : I2 103 0 = I 103 0 := by
  unfold pk_about at h
  rw [h.1]

def rel (I : px_I) : Prop := I 32 10 = I 103 0
theorem rel.go {I I2 I3 : px_I} {L L2 L3 : px_L} (hr : rel I) (f1 : frB I I2 L L2) (e1 : I2 32 10 = I 32 10) (f2 : frK I2 I3 L2 L3) (e2 : I3 103 0 = I2 103 0) : rel I3 := by
  unfold rel at *
  rw [f2.1 32 (by omega), e1, e2, f1.1 103 (by omega) (by omega)]
  exact hr
theorem rel.days {v x y : Int32} {I I2 I3 : px_I} {L L2 L3 : px_L} (hr : rel I) (f1 : frB I I2 L L2) (p1 : pb_days v I L x I2 L2) (f2 : frK I2 I3 L2 L3) (p2 : pk_days v I2 L2 y I3 L3) : x = y ∧ rel I3 := by
  unfold pb_days at p1
  unfold pk_days at p2
  unfold rel at *
  have e : I2 103 0 = I 32 10 := by rw [f1.1 103 (by omega) (by omega)]; exact hr.symm
  have e3 : I3 32 10 = I2 32 10 := by rw [f2.1 32 (by omega)]
  rw [e] at p2
  rcases p1.2 with ⟨a1, a2, a3, a4⟩ | ⟨a1, a3, a4⟩
  · rcases p2.2 with ⟨b1, b2, b3, b4, b5⟩ | ⟨b1, b4, b5⟩
    · refine ⟨by rw [a3, b4], ?_⟩
      rw [e3, b5, a4, px_u_at, px_u_at]
    · exact absurd ⟨a1.1, a1.2, a2⟩ b1
  · rcases p2.2 with ⟨b1, b2, b3, b4, b5⟩ | ⟨b1, b4, b5⟩
    · exact absurd ⟨⟨b1, b2⟩, b3⟩ a1
    · refine ⟨by rw [a3, b4], ?_⟩
      rw [e3, b5, a4, ← e, a4]
