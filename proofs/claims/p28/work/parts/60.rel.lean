/-! what agrees in both books -/

theorem eb_days_98_0 {x9 x : Int32} {I I2 : px_I} {L L2 : px_L} (h : pb_days x9 I L x I2 L2) : I2 98 0 = I 98 0 := by
  unfold pb_days at h
  obtain ⟨rfl, h⟩ := h
  rcases h with ⟨a1, a2, rfl, rfl⟩ | ⟨a1, rfl, rfl⟩
  · (repeat rw [px_u_out (by omega)])
  · rfl

theorem eb_days_98_1 {x9 x : Int32} {I I2 : px_I} {L L2 : px_L} (h : pb_days x9 I L x I2 L2) : I2 98 1 = I 98 1 := by
  unfold pb_days at h
  obtain ⟨rfl, h⟩ := h
  rcases h with ⟨a1, a2, rfl, rfl⟩ | ⟨a1, rfl, rfl⟩
  · (repeat rw [px_u_out (by omega)])
  · rfl

theorem eb_days_98_2 {x9 x : Int32} {I I2 : px_I} {L L2 : px_L} (h : pb_days x9 I L x I2 L2) : I2 98 2 = I 98 2 := by
  unfold pb_days at h
  obtain ⟨rfl, h⟩ := h
  rcases h with ⟨a1, a2, rfl, rfl⟩ | ⟨a1, rfl, rfl⟩
  · (repeat rw [px_u_out (by omega)])
  · rfl

theorem eb_days_97_3 {x9 x : Int32} {I I2 : px_I} {L L2 : px_L} (h : pb_days x9 I L x I2 L2) : I2 97 3 = I 97 3 := by
  unfold pb_days at h
  obtain ⟨rfl, h⟩ := h
  rcases h with ⟨a1, a2, rfl, rfl⟩ | ⟨a1, rfl, rfl⟩
  · (repeat rw [px_u_out (by omega)])
  · rfl

theorem eb_days_97_4 {x9 x : Int32} {I I2 : px_I} {L L2 : px_L} (h : pb_days x9 I L x I2 L2) : I2 97 4 = I 97 4 := by
  unfold pb_days at h
  obtain ⟨rfl, h⟩ := h
  rcases h with ⟨a1, a2, rfl, rfl⟩ | ⟨a1, rfl, rfl⟩
  · (repeat rw [px_u_out (by omega)])
  · rfl

theorem eb_days_97_5 {x9 x : Int32} {I I2 : px_I} {L L2 : px_L} (h : pb_days x9 I L x I2 L2) : I2 97 5 = I 97 5 := by
  unfold pb_days at h
  obtain ⟨rfl, h⟩ := h
  rcases h with ⟨a1, a2, rfl, rfl⟩ | ⟨a1, rfl, rfl⟩
  · (repeat rw [px_u_out (by omega)])
  · rfl

theorem ek_days_137_0 {x9 x : Int32} {I I2 : px_I} {L L2 : px_L} (h : pk_days x9 I L x I2 L2) : I2 137 0 = I 137 0 := by
  unfold pk_days at h
  obtain ⟨rfl, h⟩ := h
  rcases h with ⟨a1, a2, a3, rfl, rfl⟩ | ⟨a1, rfl, rfl⟩
  · (repeat rw [px_u_out (by omega)])
  · rfl

theorem ek_days_137_1 {x9 x : Int32} {I I2 : px_I} {L L2 : px_L} (h : pk_days x9 I L x I2 L2) : I2 137 1 = I 137 1 := by
  unfold pk_days at h
  obtain ⟨rfl, h⟩ := h
  rcases h with ⟨a1, a2, a3, rfl, rfl⟩ | ⟨a1, rfl, rfl⟩
  · (repeat rw [px_u_out (by omega)])
  · rfl

theorem ek_days_137_2 {x9 x : Int32} {I I2 : px_I} {L L2 : px_L} (h : pk_days x9 I L x I2 L2) : I2 137 2 = I 137 2 := by
  unfold pk_days at h
  obtain ⟨rfl, h⟩ := h
  rcases h with ⟨a1, a2, a3, rfl, rfl⟩ | ⟨a1, rfl, rfl⟩
  · (repeat rw [px_u_out (by omega)])
  · rfl

theorem ek_days_103_59 {x9 x : Int32} {I I2 : px_I} {L L2 : px_L} (h : pk_days x9 I L x I2 L2) : I2 103 59 = I 103 59 := by
  unfold pk_days at h
  obtain ⟨rfl, h⟩ := h
  rcases h with ⟨a1, a2, a3, rfl, rfl⟩ | ⟨a1, rfl, rfl⟩
  · (repeat rw [px_u_out (by omega)])
  · rfl

theorem ek_days_103_60 {x9 x : Int32} {I I2 : px_I} {L L2 : px_L} (h : pk_days x9 I L x I2 L2) : I2 103 60 = I 103 60 := by
  unfold pk_days at h
  obtain ⟨rfl, h⟩ := h
  rcases h with ⟨a1, a2, a3, rfl, rfl⟩ | ⟨a1, rfl, rfl⟩
  · (repeat rw [px_u_out (by omega)])
  · rfl

theorem ek_days_103_61 {x9 x : Int32} {I I2 : px_I} {L L2 : px_L} (h : pk_days x9 I L x I2 L2) : I2 103 61 = I 103 61 := by
  unfold pk_days at h
  obtain ⟨rfl, h⟩ := h
  rcases h with ⟨a1, a2, a3, rfl, rfl⟩ | ⟨a1, rfl, rfl⟩
  · (repeat rw [px_u_out (by omega)])
  · rfl

theorem eb_station_98_0 { x : Int32} {I I2 : px_I} {L L2 : px_L} (h : pb_station  I L x I2 L2) : I2 98 0 = I 98 0 := by
  unfold pb_station at h
  obtain ⟨rfl, h⟩ := h
  rcases h with ⟨a1, rfl, rfl⟩ | ⟨a1, rfl, rfl⟩
  · (repeat rw [px_u_out (by omega)])
  · rfl

theorem eb_station_98_1 { x : Int32} {I I2 : px_I} {L L2 : px_L} (h : pb_station  I L x I2 L2) : I2 98 1 = I 98 1 := by
  unfold pb_station at h
  obtain ⟨rfl, h⟩ := h
  rcases h with ⟨a1, rfl, rfl⟩ | ⟨a1, rfl, rfl⟩
  · (repeat rw [px_u_out (by omega)])
  · rfl

theorem eb_station_98_2 { x : Int32} {I I2 : px_I} {L L2 : px_L} (h : pb_station  I L x I2 L2) : I2 98 2 = I 98 2 := by
  unfold pb_station at h
  obtain ⟨rfl, h⟩ := h
  rcases h with ⟨a1, rfl, rfl⟩ | ⟨a1, rfl, rfl⟩
  · (repeat rw [px_u_out (by omega)])
  · rfl

theorem eb_station_97_3 { x : Int32} {I I2 : px_I} {L L2 : px_L} (h : pb_station  I L x I2 L2) : I2 97 3 = I 97 3 := by
  unfold pb_station at h
  obtain ⟨rfl, h⟩ := h
  rcases h with ⟨a1, rfl, rfl⟩ | ⟨a1, rfl, rfl⟩
  · (repeat rw [px_u_out (by omega)])
  · rfl

theorem eb_station_97_4 { x : Int32} {I I2 : px_I} {L L2 : px_L} (h : pb_station  I L x I2 L2) : I2 97 4 = I 97 4 := by
  unfold pb_station at h
  obtain ⟨rfl, h⟩ := h
  rcases h with ⟨a1, rfl, rfl⟩ | ⟨a1, rfl, rfl⟩
  · (repeat rw [px_u_out (by omega)])
  · rfl

theorem eb_station_97_5 { x : Int32} {I I2 : px_I} {L L2 : px_L} (h : pb_station  I L x I2 L2) : I2 97 5 = I 97 5 := by
  unfold pb_station at h
  obtain ⟨rfl, h⟩ := h
  rcases h with ⟨a1, rfl, rfl⟩ | ⟨a1, rfl, rfl⟩
  · (repeat rw [px_u_out (by omega)])
  · rfl

theorem ek_station_137_0 { x : Int32} {I I2 : px_I} {L L2 : px_L} (h : pk_station  I L x I2 L2) : I2 137 0 = I 137 0 := by
  unfold pk_station at h
  obtain ⟨rfl, h⟩ := h
  rcases h with ⟨a1, rfl, rfl⟩ | ⟨a1, rfl, rfl⟩
  · (repeat rw [px_u_out (by omega)])
  · rfl

theorem ek_station_137_1 { x : Int32} {I I2 : px_I} {L L2 : px_L} (h : pk_station  I L x I2 L2) : I2 137 1 = I 137 1 := by
  unfold pk_station at h
  obtain ⟨rfl, h⟩ := h
  rcases h with ⟨a1, rfl, rfl⟩ | ⟨a1, rfl, rfl⟩
  · (repeat rw [px_u_out (by omega)])
  · rfl

theorem ek_station_137_2 { x : Int32} {I I2 : px_I} {L L2 : px_L} (h : pk_station  I L x I2 L2) : I2 137 2 = I 137 2 := by
  unfold pk_station at h
  obtain ⟨rfl, h⟩ := h
  rcases h with ⟨a1, rfl, rfl⟩ | ⟨a1, rfl, rfl⟩
  · (repeat rw [px_u_out (by omega)])
  · rfl

theorem ek_station_103_59 { x : Int32} {I I2 : px_I} {L L2 : px_L} (h : pk_station  I L x I2 L2) : I2 103 59 = I 103 59 := by
  unfold pk_station at h
  obtain ⟨rfl, h⟩ := h
  rcases h with ⟨a1, rfl, rfl⟩ | ⟨a1, rfl, rfl⟩
  · (repeat rw [px_u_out (by omega)])
  · rfl

theorem ek_station_103_60 { x : Int32} {I I2 : px_I} {L L2 : px_L} (h : pk_station  I L x I2 L2) : I2 103 60 = I 103 60 := by
  unfold pk_station at h
  obtain ⟨rfl, h⟩ := h
  rcases h with ⟨a1, rfl, rfl⟩ | ⟨a1, rfl, rfl⟩
  · (repeat rw [px_u_out (by omega)])
  · rfl

theorem ek_station_103_61 { x : Int32} {I I2 : px_I} {L L2 : px_L} (h : pk_station  I L x I2 L2) : I2 103 61 = I 103 61 := by
  unfold pk_station at h
  obtain ⟨rfl, h⟩ := h
  rcases h with ⟨a1, rfl, rfl⟩ | ⟨a1, rfl, rfl⟩
  · (repeat rw [px_u_out (by omega)])
  · rfl

theorem eb_sight_98_0 {a f t lo hi x : Int32} {I I2 : px_I} {L L2 : px_L} (h : pb_sight a f t lo hi I L x I2 L2) : I2 98 0 = I 98 0 := by
  unfold pb_sight at h
  obtain ⟨rfl, h⟩ := h
  rcases h with ⟨a1, rfl, rfl⟩ | ⟨a1, rfl, rfl⟩
  · (repeat rw [px_u_out (by omega)])
  · rfl

theorem eb_sight_98_1 {a f t lo hi x : Int32} {I I2 : px_I} {L L2 : px_L} (h : pb_sight a f t lo hi I L x I2 L2) : I2 98 1 = I 98 1 := by
  unfold pb_sight at h
  obtain ⟨rfl, h⟩ := h
  rcases h with ⟨a1, rfl, rfl⟩ | ⟨a1, rfl, rfl⟩
  · (repeat rw [px_u_out (by omega)])
  · rfl

theorem eb_sight_98_2 {a f t lo hi x : Int32} {I I2 : px_I} {L L2 : px_L} (h : pb_sight a f t lo hi I L x I2 L2) : I2 98 2 = I 98 2 := by
  unfold pb_sight at h
  obtain ⟨rfl, h⟩ := h
  rcases h with ⟨a1, rfl, rfl⟩ | ⟨a1, rfl, rfl⟩
  · (repeat rw [px_u_out (by omega)])
  · rfl

theorem eb_sight_97_3 {a f t lo hi x : Int32} {I I2 : px_I} {L L2 : px_L} (h : pb_sight a f t lo hi I L x I2 L2) : I2 97 3 = I 97 3 := by
  unfold pb_sight at h
  obtain ⟨rfl, h⟩ := h
  rcases h with ⟨a1, rfl, rfl⟩ | ⟨a1, rfl, rfl⟩
  · (repeat rw [px_u_out (by omega)])
  · rfl

theorem eb_sight_97_4 {a f t lo hi x : Int32} {I I2 : px_I} {L L2 : px_L} (h : pb_sight a f t lo hi I L x I2 L2) : I2 97 4 = I 97 4 := by
  unfold pb_sight at h
  obtain ⟨rfl, h⟩ := h
  rcases h with ⟨a1, rfl, rfl⟩ | ⟨a1, rfl, rfl⟩
  · (repeat rw [px_u_out (by omega)])
  · rfl

theorem eb_sight_97_5 {a f t lo hi x : Int32} {I I2 : px_I} {L L2 : px_L} (h : pb_sight a f t lo hi I L x I2 L2) : I2 97 5 = I 97 5 := by
  unfold pb_sight at h
  obtain ⟨rfl, h⟩ := h
  rcases h with ⟨a1, rfl, rfl⟩ | ⟨a1, rfl, rfl⟩
  · (repeat rw [px_u_out (by omega)])
  · rfl

theorem ek_sight_137_0 {a f t lo hi x : Int32} {I I2 : px_I} {L L2 : px_L} (h : pk_sight a f t lo hi I L x I2 L2) : I2 137 0 = I 137 0 := by
  unfold pk_sight at h
  obtain ⟨rfl, h⟩ := h
  rcases h with ⟨a1, rfl, rfl⟩ | ⟨a1, rfl, rfl⟩
  · (repeat rw [px_u_out (by omega)])
  · rfl

theorem ek_sight_137_1 {a f t lo hi x : Int32} {I I2 : px_I} {L L2 : px_L} (h : pk_sight a f t lo hi I L x I2 L2) : I2 137 1 = I 137 1 := by
  unfold pk_sight at h
  obtain ⟨rfl, h⟩ := h
  rcases h with ⟨a1, rfl, rfl⟩ | ⟨a1, rfl, rfl⟩
  · (repeat rw [px_u_out (by omega)])
  · rfl

theorem ek_sight_137_2 {a f t lo hi x : Int32} {I I2 : px_I} {L L2 : px_L} (h : pk_sight a f t lo hi I L x I2 L2) : I2 137 2 = I 137 2 := by
  unfold pk_sight at h
  obtain ⟨rfl, h⟩ := h
  rcases h with ⟨a1, rfl, rfl⟩ | ⟨a1, rfl, rfl⟩
  · (repeat rw [px_u_out (by omega)])
  · rfl

theorem ek_sight_103_59 {a f t lo hi x : Int32} {I I2 : px_I} {L L2 : px_L} (h : pk_sight a f t lo hi I L x I2 L2) : I2 103 59 = I 103 59 := by
  unfold pk_sight at h
  obtain ⟨rfl, h⟩ := h
  rcases h with ⟨a1, rfl, rfl⟩ | ⟨a1, rfl, rfl⟩
  · (repeat rw [px_u_out (by omega)])
  · rfl

theorem ek_sight_103_60 {a f t lo hi x : Int32} {I I2 : px_I} {L L2 : px_L} (h : pk_sight a f t lo hi I L x I2 L2) : I2 103 60 = I 103 60 := by
  unfold pk_sight at h
  obtain ⟨rfl, h⟩ := h
  rcases h with ⟨a1, rfl, rfl⟩ | ⟨a1, rfl, rfl⟩
  · (repeat rw [px_u_out (by omega)])
  · rfl

theorem ek_sight_103_61 {a f t lo hi x : Int32} {I I2 : px_I} {L L2 : px_L} (h : pk_sight a f t lo hi I L x I2 L2) : I2 103 61 = I 103 61 := by
  unfold pk_sight at h
  obtain ⟨rfl, h⟩ := h
  rcases h with ⟨a1, rfl, rfl⟩ | ⟨a1, rfl, rfl⟩
  · (repeat rw [px_u_out (by omega)])
  · rfl

theorem eb_closed_98_0 {a k x : Int32} {I I2 : px_I} {L L2 : px_L} (h : pb_closed a k I L x I2 L2) : I2 98 0 = I 98 0 := by
  unfold pb_closed at h
  obtain ⟨rfl, h⟩ := h
  rfl

theorem eb_closed_98_1 {a k x : Int32} {I I2 : px_I} {L L2 : px_L} (h : pb_closed a k I L x I2 L2) : I2 98 1 = I 98 1 := by
  unfold pb_closed at h
  obtain ⟨rfl, h⟩ := h
  rfl

theorem eb_closed_98_2 {a k x : Int32} {I I2 : px_I} {L L2 : px_L} (h : pb_closed a k I L x I2 L2) : I2 98 2 = I 98 2 := by
  unfold pb_closed at h
  obtain ⟨rfl, h⟩ := h
  rfl

theorem eb_closed_97_3 {a k x : Int32} {I I2 : px_I} {L L2 : px_L} (h : pb_closed a k I L x I2 L2) : I2 97 3 = I 97 3 := by
  unfold pb_closed at h
  obtain ⟨rfl, h⟩ := h
  rfl

theorem eb_closed_97_4 {a k x : Int32} {I I2 : px_I} {L L2 : px_L} (h : pb_closed a k I L x I2 L2) : I2 97 4 = I 97 4 := by
  unfold pb_closed at h
  obtain ⟨rfl, h⟩ := h
  rfl

theorem eb_closed_97_5 {a k x : Int32} {I I2 : px_I} {L L2 : px_L} (h : pb_closed a k I L x I2 L2) : I2 97 5 = I 97 5 := by
  unfold pb_closed at h
  obtain ⟨rfl, h⟩ := h
  rfl

theorem ek_closed_137_0 {a k x : Int32} {I I2 : px_I} {L L2 : px_L} (h : pk_closed a k I L x I2 L2) : I2 137 0 = I 137 0 := by
  unfold pk_closed at h
  exact h.1 137 0 (by omega)

theorem ek_closed_137_1 {a k x : Int32} {I I2 : px_I} {L L2 : px_L} (h : pk_closed a k I L x I2 L2) : I2 137 1 = I 137 1 := by
  unfold pk_closed at h
  exact h.1 137 1 (by omega)

theorem ek_closed_137_2 {a k x : Int32} {I I2 : px_I} {L L2 : px_L} (h : pk_closed a k I L x I2 L2) : I2 137 2 = I 137 2 := by
  unfold pk_closed at h
  exact h.1 137 2 (by omega)

theorem ek_closed_103_59 {a k x : Int32} {I I2 : px_I} {L L2 : px_L} (h : pk_closed a k I L x I2 L2) : I2 103 59 = I 103 59 := by
  unfold pk_closed at h
  exact h.1 103 59 (by omega)

theorem ek_closed_103_60 {a k x : Int32} {I I2 : px_I} {L L2 : px_L} (h : pk_closed a k I L x I2 L2) : I2 103 60 = I 103 60 := by
  unfold pk_closed at h
  exact h.1 103 60 (by omega)

theorem ek_closed_103_61 {a k x : Int32} {I I2 : px_I} {L L2 : px_L} (h : pk_closed a k I L x I2 L2) : I2 103 61 = I 103 61 := by
  unfold pk_closed at h
  exact h.1 103 61 (by omega)

theorem eb_span_98_0 {a t k h x : Int32} {I I2 : px_I} {L L2 : px_L} (h : pb_span a t k h I L x I2 L2) : I2 98 0 = I 98 0 := by
  unfold pb_span at h
  obtain ⟨rfl, h⟩ := h
  rfl

theorem eb_span_98_1 {a t k h x : Int32} {I I2 : px_I} {L L2 : px_L} (h : pb_span a t k h I L x I2 L2) : I2 98 1 = I 98 1 := by
  unfold pb_span at h
  obtain ⟨rfl, h⟩ := h
  rfl

theorem eb_span_98_2 {a t k h x : Int32} {I I2 : px_I} {L L2 : px_L} (h : pb_span a t k h I L x I2 L2) : I2 98 2 = I 98 2 := by
  unfold pb_span at h
  obtain ⟨rfl, h⟩ := h
  rfl

theorem eb_span_97_3 {a t k h x : Int32} {I I2 : px_I} {L L2 : px_L} (h : pb_span a t k h I L x I2 L2) : I2 97 3 = I 97 3 := by
  unfold pb_span at h
  obtain ⟨rfl, h⟩ := h
  rfl

theorem eb_span_97_4 {a t k h x : Int32} {I I2 : px_I} {L L2 : px_L} (h : pb_span a t k h I L x I2 L2) : I2 97 4 = I 97 4 := by
  unfold pb_span at h
  obtain ⟨rfl, h⟩ := h
  rfl

theorem eb_span_97_5 {a t k h x : Int32} {I I2 : px_I} {L L2 : px_L} (h : pb_span a t k h I L x I2 L2) : I2 97 5 = I 97 5 := by
  unfold pb_span at h
  obtain ⟨rfl, h⟩ := h
  rfl

theorem ek_span_137_0 {a t k h x : Int32} {I I2 : px_I} {L L2 : px_L} (h : pk_span a t k h I L x I2 L2) : I2 137 0 = I 137 0 := by
  unfold pk_span at h
  exact h.1 137 0 (by omega)

theorem ek_span_137_1 {a t k h x : Int32} {I I2 : px_I} {L L2 : px_L} (h : pk_span a t k h I L x I2 L2) : I2 137 1 = I 137 1 := by
  unfold pk_span at h
  exact h.1 137 1 (by omega)

theorem ek_span_137_2 {a t k h x : Int32} {I I2 : px_I} {L L2 : px_L} (h : pk_span a t k h I L x I2 L2) : I2 137 2 = I 137 2 := by
  unfold pk_span at h
  exact h.1 137 2 (by omega)

theorem ek_span_103_59 {a t k h x : Int32} {I I2 : px_I} {L L2 : px_L} (h : pk_span a t k h I L x I2 L2) : I2 103 59 = I 103 59 := by
  unfold pk_span at h
  exact h.1 103 59 (by omega)

theorem ek_span_103_60 {a t k h x : Int32} {I I2 : px_I} {L L2 : px_L} (h : pk_span a t k h I L x I2 L2) : I2 103 60 = I 103 60 := by
  unfold pk_span at h
  exact h.1 103 60 (by omega)

theorem ek_span_103_61 {a t k h x : Int32} {I I2 : px_I} {L L2 : px_L} (h : pk_span a t k h I L x I2 L2) : I2 103 61 = I 103 61 := by
  unfold pk_span at h
  exact h.1 103 61 (by omega)

theorem eb_gap_98_0 {a f t k h x : Int32} {I I2 : px_I} {L L2 : px_L} (h : pb_gap a f t k h I L x I2 L2) : I2 98 0 = I 98 0 := by
  unfold pb_gap at h
  obtain ⟨rfl, h⟩ := h
  rfl

theorem eb_gap_98_1 {a f t k h x : Int32} {I I2 : px_I} {L L2 : px_L} (h : pb_gap a f t k h I L x I2 L2) : I2 98 1 = I 98 1 := by
  unfold pb_gap at h
  obtain ⟨rfl, h⟩ := h
  rfl

theorem eb_gap_98_2 {a f t k h x : Int32} {I I2 : px_I} {L L2 : px_L} (h : pb_gap a f t k h I L x I2 L2) : I2 98 2 = I 98 2 := by
  unfold pb_gap at h
  obtain ⟨rfl, h⟩ := h
  rfl

theorem eb_gap_97_3 {a f t k h x : Int32} {I I2 : px_I} {L L2 : px_L} (h : pb_gap a f t k h I L x I2 L2) : I2 97 3 = I 97 3 := by
  unfold pb_gap at h
  obtain ⟨rfl, h⟩ := h
  rfl

theorem eb_gap_97_4 {a f t k h x : Int32} {I I2 : px_I} {L L2 : px_L} (h : pb_gap a f t k h I L x I2 L2) : I2 97 4 = I 97 4 := by
  unfold pb_gap at h
  obtain ⟨rfl, h⟩ := h
  rfl

theorem eb_gap_97_5 {a f t k h x : Int32} {I I2 : px_I} {L L2 : px_L} (h : pb_gap a f t k h I L x I2 L2) : I2 97 5 = I 97 5 := by
  unfold pb_gap at h
  obtain ⟨rfl, h⟩ := h
  rfl

theorem ek_gap_137_0 {a f t k h x : Int32} {I I2 : px_I} {L L2 : px_L} (h : pk_gap a f t k h I L x I2 L2) : I2 137 0 = I 137 0 := by
  unfold pk_gap at h
  exact h.1 137 0 (by omega)

theorem ek_gap_137_1 {a f t k h x : Int32} {I I2 : px_I} {L L2 : px_L} (h : pk_gap a f t k h I L x I2 L2) : I2 137 1 = I 137 1 := by
  unfold pk_gap at h
  exact h.1 137 1 (by omega)

theorem ek_gap_137_2 {a f t k h x : Int32} {I I2 : px_I} {L L2 : px_L} (h : pk_gap a f t k h I L x I2 L2) : I2 137 2 = I 137 2 := by
  unfold pk_gap at h
  exact h.1 137 2 (by omega)

theorem ek_gap_103_59 {a f t k h x : Int32} {I I2 : px_I} {L L2 : px_L} (h : pk_gap a f t k h I L x I2 L2) : I2 103 59 = I 103 59 := by
  unfold pk_gap at h
  exact h.1 103 59 (by omega)

theorem ek_gap_103_60 {a f t k h x : Int32} {I I2 : px_I} {L L2 : px_L} (h : pk_gap a f t k h I L x I2 L2) : I2 103 60 = I 103 60 := by
  unfold pk_gap at h
  exact h.1 103 60 (by omega)

theorem ek_gap_103_61 {a f t k h x : Int32} {I I2 : px_I} {L L2 : px_L} (h : pk_gap a f t k h I L x I2 L2) : I2 103 61 = I 103 61 := by
  unfold pk_gap at h
  exact h.1 103 61 (by omega)

theorem eb_blamed_98_0 {a k i x : Int32} {I I2 : px_I} {L L2 : px_L} (h : pb_blamed a k i I L x I2 L2) : I2 98 0 = I 98 0 := by
  unfold pb_blamed at h
  obtain ⟨rfl, h⟩ := h
  rfl

theorem eb_blamed_98_1 {a k i x : Int32} {I I2 : px_I} {L L2 : px_L} (h : pb_blamed a k i I L x I2 L2) : I2 98 1 = I 98 1 := by
  unfold pb_blamed at h
  obtain ⟨rfl, h⟩ := h
  rfl

theorem eb_blamed_98_2 {a k i x : Int32} {I I2 : px_I} {L L2 : px_L} (h : pb_blamed a k i I L x I2 L2) : I2 98 2 = I 98 2 := by
  unfold pb_blamed at h
  obtain ⟨rfl, h⟩ := h
  rfl

theorem eb_blamed_97_3 {a k i x : Int32} {I I2 : px_I} {L L2 : px_L} (h : pb_blamed a k i I L x I2 L2) : I2 97 3 = I 97 3 := by
  unfold pb_blamed at h
  obtain ⟨rfl, h⟩ := h
  rfl

theorem eb_blamed_97_4 {a k i x : Int32} {I I2 : px_I} {L L2 : px_L} (h : pb_blamed a k i I L x I2 L2) : I2 97 4 = I 97 4 := by
  unfold pb_blamed at h
  obtain ⟨rfl, h⟩ := h
  rfl

theorem eb_blamed_97_5 {a k i x : Int32} {I I2 : px_I} {L L2 : px_L} (h : pb_blamed a k i I L x I2 L2) : I2 97 5 = I 97 5 := by
  unfold pb_blamed at h
  obtain ⟨rfl, h⟩ := h
  rfl

theorem ek_blamed_137_0 {a k i x : Int32} {I I2 : px_I} {L L2 : px_L} (h : pk_blamed a k i I L x I2 L2) : I2 137 0 = I 137 0 := by
  unfold pk_blamed at h
  exact h.1 137 0 (by omega)

theorem ek_blamed_137_1 {a k i x : Int32} {I I2 : px_I} {L L2 : px_L} (h : pk_blamed a k i I L x I2 L2) : I2 137 1 = I 137 1 := by
  unfold pk_blamed at h
  exact h.1 137 1 (by omega)

theorem ek_blamed_137_2 {a k i x : Int32} {I I2 : px_I} {L L2 : px_L} (h : pk_blamed a k i I L x I2 L2) : I2 137 2 = I 137 2 := by
  unfold pk_blamed at h
  exact h.1 137 2 (by omega)

theorem ek_blamed_103_59 {a k i x : Int32} {I I2 : px_I} {L L2 : px_L} (h : pk_blamed a k i I L x I2 L2) : I2 103 59 = I 103 59 := by
  unfold pk_blamed at h
  exact h.1 103 59 (by omega)

theorem ek_blamed_103_60 {a k i x : Int32} {I I2 : px_I} {L L2 : px_L} (h : pk_blamed a k i I L x I2 L2) : I2 103 60 = I 103 60 := by
  unfold pk_blamed at h
  exact h.1 103 60 (by omega)

theorem ek_blamed_103_61 {a k i x : Int32} {I I2 : px_I} {L L2 : px_L} (h : pk_blamed a k i I L x I2 L2) : I2 103 61 = I 103 61 := by
  unfold pk_blamed at h
  exact h.1 103 61 (by omega)

theorem eb_reach_98_0 {g lo hi sl fa w st x : Int32} {I I2 : px_I} {L L2 : px_L} (h : pb_reach g lo hi sl fa w st I L x I2 L2) : I2 98 0 = I 98 0 := by
  unfold pb_reach at h
  obtain ⟨rfl, h⟩ := h
  rcases h with ⟨G, ⟨g1, g2, g3⟩, rfl, rfl⟩ | ⟨a1, rfl, rfl⟩
  · have gG : G = 41 ∨ G = 55 := by unfold bG at g1; omega
    rw [cReach_o (by omega)]
  · rfl

theorem eb_reach_98_1 {g lo hi sl fa w st x : Int32} {I I2 : px_I} {L L2 : px_L} (h : pb_reach g lo hi sl fa w st I L x I2 L2) : I2 98 1 = I 98 1 := by
  unfold pb_reach at h
  obtain ⟨rfl, h⟩ := h
  rcases h with ⟨G, ⟨g1, g2, g3⟩, rfl, rfl⟩ | ⟨a1, rfl, rfl⟩
  · have gG : G = 41 ∨ G = 55 := by unfold bG at g1; omega
    rw [cReach_o (by omega)]
  · rfl

theorem eb_reach_98_2 {g lo hi sl fa w st x : Int32} {I I2 : px_I} {L L2 : px_L} (h : pb_reach g lo hi sl fa w st I L x I2 L2) : I2 98 2 = I 98 2 := by
  unfold pb_reach at h
  obtain ⟨rfl, h⟩ := h
  rcases h with ⟨G, ⟨g1, g2, g3⟩, rfl, rfl⟩ | ⟨a1, rfl, rfl⟩
  · have gG : G = 41 ∨ G = 55 := by unfold bG at g1; omega
    rw [cReach_o (by omega)]
  · rfl

theorem eb_reach_97_3 {g lo hi sl fa w st x : Int32} {I I2 : px_I} {L L2 : px_L} (h : pb_reach g lo hi sl fa w st I L x I2 L2) : I2 97 3 = I 97 3 := by
  unfold pb_reach at h
  obtain ⟨rfl, h⟩ := h
  rcases h with ⟨G, ⟨g1, g2, g3⟩, rfl, rfl⟩ | ⟨a1, rfl, rfl⟩
  · have gG : G = 41 ∨ G = 55 := by unfold bG at g1; omega
    rw [cReach_o (by omega)]
  · rfl

theorem eb_reach_97_4 {g lo hi sl fa w st x : Int32} {I I2 : px_I} {L L2 : px_L} (h : pb_reach g lo hi sl fa w st I L x I2 L2) : I2 97 4 = I 97 4 := by
  unfold pb_reach at h
  obtain ⟨rfl, h⟩ := h
  rcases h with ⟨G, ⟨g1, g2, g3⟩, rfl, rfl⟩ | ⟨a1, rfl, rfl⟩
  · have gG : G = 41 ∨ G = 55 := by unfold bG at g1; omega
    rw [cReach_o (by omega)]
  · rfl

theorem eb_reach_97_5 {g lo hi sl fa w st x : Int32} {I I2 : px_I} {L L2 : px_L} (h : pb_reach g lo hi sl fa w st I L x I2 L2) : I2 97 5 = I 97 5 := by
  unfold pb_reach at h
  obtain ⟨rfl, h⟩ := h
  rcases h with ⟨G, ⟨g1, g2, g3⟩, rfl, rfl⟩ | ⟨a1, rfl, rfl⟩
  · have gG : G = 41 ∨ G = 55 := by unfold bG at g1; omega
    rw [cReach_o (by omega)]
  · rfl

theorem ek_reach_137_0 {g lo hi sl fa w st x : Int32} {I I2 : px_I} {L L2 : px_L} (h : pk_reach g lo hi sl fa w st I L x I2 L2) : I2 137 0 = I 137 0 := by
  unfold pk_reach at h
  obtain ⟨rfl, h⟩ := h
  rcases h with ⟨a1, rfl, rfl⟩ | ⟨a1, rfl, rfl⟩
  · unfold mReach; (repeat rw [px_u_out (by omega)])
  · rfl

theorem ek_reach_137_1 {g lo hi sl fa w st x : Int32} {I I2 : px_I} {L L2 : px_L} (h : pk_reach g lo hi sl fa w st I L x I2 L2) : I2 137 1 = I 137 1 := by
  unfold pk_reach at h
  obtain ⟨rfl, h⟩ := h
  rcases h with ⟨a1, rfl, rfl⟩ | ⟨a1, rfl, rfl⟩
  · unfold mReach; (repeat rw [px_u_out (by omega)])
  · rfl

theorem ek_reach_137_2 {g lo hi sl fa w st x : Int32} {I I2 : px_I} {L L2 : px_L} (h : pk_reach g lo hi sl fa w st I L x I2 L2) : I2 137 2 = I 137 2 := by
  unfold pk_reach at h
  obtain ⟨rfl, h⟩ := h
  rcases h with ⟨a1, rfl, rfl⟩ | ⟨a1, rfl, rfl⟩
  · unfold mReach; (repeat rw [px_u_out (by omega)])
  · rfl

theorem ek_reach_103_59 {g lo hi sl fa w st x : Int32} {I I2 : px_I} {L L2 : px_L} (h : pk_reach g lo hi sl fa w st I L x I2 L2) : I2 103 59 = I 103 59 := by
  unfold pk_reach at h
  obtain ⟨rfl, h⟩ := h
  rcases h with ⟨a1, rfl, rfl⟩ | ⟨a1, rfl, rfl⟩
  · unfold mReach; (repeat rw [px_u_out (by omega)])
  · rfl

theorem ek_reach_103_60 {g lo hi sl fa w st x : Int32} {I I2 : px_I} {L L2 : px_L} (h : pk_reach g lo hi sl fa w st I L x I2 L2) : I2 103 60 = I 103 60 := by
  unfold pk_reach at h
  obtain ⟨rfl, h⟩ := h
  rcases h with ⟨a1, rfl, rfl⟩ | ⟨a1, rfl, rfl⟩
  · unfold mReach; (repeat rw [px_u_out (by omega)])
  · rfl

theorem ek_reach_103_61 {g lo hi sl fa w st x : Int32} {I I2 : px_I} {L L2 : px_L} (h : pk_reach g lo hi sl fa w st I L x I2 L2) : I2 103 61 = I 103 61 := by
  unfold pk_reach at h
  obtain ⟨rfl, h⟩ := h
  rcases h with ⟨a1, rfl, rfl⟩ | ⟨a1, rfl, rfl⟩
  · unfold mReach; (repeat rw [px_u_out (by omega)])
  · rfl

theorem eb_mouth_98_0 {g st x : Int32} {I I2 : px_I} {L L2 : px_L} (h : pb_mouth g st I L x I2 L2) : I2 98 0 = I 98 0 := by
  unfold pb_mouth at h
  obtain ⟨rfl, h⟩ := h
  rcases h with ⟨G, g1, rfl⟩ | rfl
  · have gG : G = 41 ∨ G = 55 := by unfold bG at g1; omega
    (repeat rw [px_u_out (by omega)])
  · rfl

theorem eb_mouth_98_1 {g st x : Int32} {I I2 : px_I} {L L2 : px_L} (h : pb_mouth g st I L x I2 L2) : I2 98 1 = I 98 1 := by
  unfold pb_mouth at h
  obtain ⟨rfl, h⟩ := h
  rcases h with ⟨G, g1, rfl⟩ | rfl
  · have gG : G = 41 ∨ G = 55 := by unfold bG at g1; omega
    (repeat rw [px_u_out (by omega)])
  · rfl

theorem eb_mouth_98_2 {g st x : Int32} {I I2 : px_I} {L L2 : px_L} (h : pb_mouth g st I L x I2 L2) : I2 98 2 = I 98 2 := by
  unfold pb_mouth at h
  obtain ⟨rfl, h⟩ := h
  rcases h with ⟨G, g1, rfl⟩ | rfl
  · have gG : G = 41 ∨ G = 55 := by unfold bG at g1; omega
    (repeat rw [px_u_out (by omega)])
  · rfl

theorem eb_mouth_97_3 {g st x : Int32} {I I2 : px_I} {L L2 : px_L} (h : pb_mouth g st I L x I2 L2) : I2 97 3 = I 97 3 := by
  unfold pb_mouth at h
  obtain ⟨rfl, h⟩ := h
  rcases h with ⟨G, g1, rfl⟩ | rfl
  · have gG : G = 41 ∨ G = 55 := by unfold bG at g1; omega
    (repeat rw [px_u_out (by omega)])
  · rfl

theorem eb_mouth_97_4 {g st x : Int32} {I I2 : px_I} {L L2 : px_L} (h : pb_mouth g st I L x I2 L2) : I2 97 4 = I 97 4 := by
  unfold pb_mouth at h
  obtain ⟨rfl, h⟩ := h
  rcases h with ⟨G, g1, rfl⟩ | rfl
  · have gG : G = 41 ∨ G = 55 := by unfold bG at g1; omega
    (repeat rw [px_u_out (by omega)])
  · rfl

theorem eb_mouth_97_5 {g st x : Int32} {I I2 : px_I} {L L2 : px_L} (h : pb_mouth g st I L x I2 L2) : I2 97 5 = I 97 5 := by
  unfold pb_mouth at h
  obtain ⟨rfl, h⟩ := h
  rcases h with ⟨G, g1, rfl⟩ | rfl
  · have gG : G = 41 ∨ G = 55 := by unfold bG at g1; omega
    (repeat rw [px_u_out (by omega)])
  · rfl

theorem ek_mouth_137_0 {g st x : Int32} {I I2 : px_I} {L L2 : px_L} (h : pk_mouth g st I L x I2 L2) : I2 137 0 = I 137 0 := by
  unfold pk_mouth at h
  obtain ⟨rfl, h⟩ := h
  rcases h with ⟨a1, a2, rfl, rfl⟩ | ⟨a1, rfl, rfl⟩
  · (repeat rw [px_u_out (by omega)])
  · rfl

theorem ek_mouth_137_1 {g st x : Int32} {I I2 : px_I} {L L2 : px_L} (h : pk_mouth g st I L x I2 L2) : I2 137 1 = I 137 1 := by
  unfold pk_mouth at h
  obtain ⟨rfl, h⟩ := h
  rcases h with ⟨a1, a2, rfl, rfl⟩ | ⟨a1, rfl, rfl⟩
  · (repeat rw [px_u_out (by omega)])
  · rfl

theorem ek_mouth_137_2 {g st x : Int32} {I I2 : px_I} {L L2 : px_L} (h : pk_mouth g st I L x I2 L2) : I2 137 2 = I 137 2 := by
  unfold pk_mouth at h
  obtain ⟨rfl, h⟩ := h
  rcases h with ⟨a1, a2, rfl, rfl⟩ | ⟨a1, rfl, rfl⟩
  · (repeat rw [px_u_out (by omega)])
  · rfl

theorem ek_mouth_103_59 {g st x : Int32} {I I2 : px_I} {L L2 : px_L} (h : pk_mouth g st I L x I2 L2) : I2 103 59 = I 103 59 := by
  unfold pk_mouth at h
  obtain ⟨rfl, h⟩ := h
  rcases h with ⟨a1, a2, rfl, rfl⟩ | ⟨a1, rfl, rfl⟩
  · (repeat rw [px_u_out (by omega)])
  · rfl

theorem ek_mouth_103_60 {g st x : Int32} {I I2 : px_I} {L L2 : px_L} (h : pk_mouth g st I L x I2 L2) : I2 103 60 = I 103 60 := by
  unfold pk_mouth at h
  obtain ⟨rfl, h⟩ := h
  rcases h with ⟨a1, a2, rfl, rfl⟩ | ⟨a1, rfl, rfl⟩
  · (repeat rw [px_u_out (by omega)])
  · rfl

theorem ek_mouth_103_61 {g st x : Int32} {I I2 : px_I} {L L2 : px_L} (h : pk_mouth g st I L x I2 L2) : I2 103 61 = I 103 61 := by
  unfold pk_mouth at h
  obtain ⟨rfl, h⟩ := h
  rcases h with ⟨a1, a2, rfl, rfl⟩ | ⟨a1, rfl, rfl⟩
  · (repeat rw [px_u_out (by omega)])
  · rfl

theorem eb_mark_98_0 {g p f t x : Int32} {I I2 : px_I} {L L2 : px_L} (h : pb_mark g p f t I L x I2 L2) : I2 98 0 = I 98 0 := by
  unfold pb_mark at h
  obtain ⟨rfl, h⟩ := h
  rcases h with ⟨G, g1, rfl, rfl⟩ | ⟨a1, rfl, rfl⟩
  · have g2 := g1.1
    have gG : G = 41 ∨ G = 55 := by unfold bG at g2; omega
    unfold cMark; (repeat rw [px_u_out (by omega)])
  · rfl

theorem eb_mark_98_1 {g p f t x : Int32} {I I2 : px_I} {L L2 : px_L} (h : pb_mark g p f t I L x I2 L2) : I2 98 1 = I 98 1 := by
  unfold pb_mark at h
  obtain ⟨rfl, h⟩ := h
  rcases h with ⟨G, g1, rfl, rfl⟩ | ⟨a1, rfl, rfl⟩
  · have g2 := g1.1
    have gG : G = 41 ∨ G = 55 := by unfold bG at g2; omega
    unfold cMark; (repeat rw [px_u_out (by omega)])
  · rfl

theorem eb_mark_98_2 {g p f t x : Int32} {I I2 : px_I} {L L2 : px_L} (h : pb_mark g p f t I L x I2 L2) : I2 98 2 = I 98 2 := by
  unfold pb_mark at h
  obtain ⟨rfl, h⟩ := h
  rcases h with ⟨G, g1, rfl, rfl⟩ | ⟨a1, rfl, rfl⟩
  · have g2 := g1.1
    have gG : G = 41 ∨ G = 55 := by unfold bG at g2; omega
    unfold cMark; (repeat rw [px_u_out (by omega)])
  · rfl

theorem eb_mark_97_3 {g p f t x : Int32} {I I2 : px_I} {L L2 : px_L} (h : pb_mark g p f t I L x I2 L2) : I2 97 3 = I 97 3 := by
  unfold pb_mark at h
  obtain ⟨rfl, h⟩ := h
  rcases h with ⟨G, g1, rfl, rfl⟩ | ⟨a1, rfl, rfl⟩
  · have g2 := g1.1
    have gG : G = 41 ∨ G = 55 := by unfold bG at g2; omega
    unfold cMark; (repeat rw [px_u_out (by omega)])
  · rfl

theorem eb_mark_97_4 {g p f t x : Int32} {I I2 : px_I} {L L2 : px_L} (h : pb_mark g p f t I L x I2 L2) : I2 97 4 = I 97 4 := by
  unfold pb_mark at h
  obtain ⟨rfl, h⟩ := h
  rcases h with ⟨G, g1, rfl, rfl⟩ | ⟨a1, rfl, rfl⟩
  · have g2 := g1.1
    have gG : G = 41 ∨ G = 55 := by unfold bG at g2; omega
    unfold cMark; (repeat rw [px_u_out (by omega)])
  · rfl

theorem eb_mark_97_5 {g p f t x : Int32} {I I2 : px_I} {L L2 : px_L} (h : pb_mark g p f t I L x I2 L2) : I2 97 5 = I 97 5 := by
  unfold pb_mark at h
  obtain ⟨rfl, h⟩ := h
  rcases h with ⟨G, g1, rfl, rfl⟩ | ⟨a1, rfl, rfl⟩
  · have g2 := g1.1
    have gG : G = 41 ∨ G = 55 := by unfold bG at g2; omega
    unfold cMark; (repeat rw [px_u_out (by omega)])
  · rfl

theorem ek_mark_137_0 {g p f t x : Int32} {I I2 : px_I} {L L2 : px_L} (h : pk_mark g p f t I L x I2 L2) : I2 137 0 = I 137 0 := by
  unfold pk_mark at h
  obtain ⟨rfl, h⟩ := h
  rcases h with ⟨a1, rfl, rfl⟩ | ⟨a1, rfl, rfl⟩
  · unfold mMark; (repeat rw [px_u_out (by omega)])
  · rfl

theorem ek_mark_137_1 {g p f t x : Int32} {I I2 : px_I} {L L2 : px_L} (h : pk_mark g p f t I L x I2 L2) : I2 137 1 = I 137 1 := by
  unfold pk_mark at h
  obtain ⟨rfl, h⟩ := h
  rcases h with ⟨a1, rfl, rfl⟩ | ⟨a1, rfl, rfl⟩
  · unfold mMark; (repeat rw [px_u_out (by omega)])
  · rfl

theorem ek_mark_137_2 {g p f t x : Int32} {I I2 : px_I} {L L2 : px_L} (h : pk_mark g p f t I L x I2 L2) : I2 137 2 = I 137 2 := by
  unfold pk_mark at h
  obtain ⟨rfl, h⟩ := h
  rcases h with ⟨a1, rfl, rfl⟩ | ⟨a1, rfl, rfl⟩
  · unfold mMark; (repeat rw [px_u_out (by omega)])
  · rfl

theorem ek_mark_103_59 {g p f t x : Int32} {I I2 : px_I} {L L2 : px_L} (h : pk_mark g p f t I L x I2 L2) : I2 103 59 = I 103 59 := by
  unfold pk_mark at h
  obtain ⟨rfl, h⟩ := h
  rcases h with ⟨a1, rfl, rfl⟩ | ⟨a1, rfl, rfl⟩
  · unfold mMark; (repeat rw [px_u_out (by omega)])
  · rfl

theorem ek_mark_103_60 {g p f t x : Int32} {I I2 : px_I} {L L2 : px_L} (h : pk_mark g p f t I L x I2 L2) : I2 103 60 = I 103 60 := by
  unfold pk_mark at h
  obtain ⟨rfl, h⟩ := h
  rcases h with ⟨a1, rfl, rfl⟩ | ⟨a1, rfl, rfl⟩
  · unfold mMark; (repeat rw [px_u_out (by omega)])
  · rfl

theorem ek_mark_103_61 {g p f t x : Int32} {I I2 : px_I} {L L2 : px_L} (h : pk_mark g p f t I L x I2 L2) : I2 103 61 = I 103 61 := by
  unfold pk_mark at h
  obtain ⟨rfl, h⟩ := h
  rcases h with ⟨a1, rfl, rfl⟩ | ⟨a1, rfl, rfl⟩
  · unfold mMark; (repeat rw [px_u_out (by omega)])
  · rfl

theorem eb_when_98_0 {g p h x : Int32} {I I2 : px_I} {L L2 : px_L} (h : pb_when g p h I L x I2 L2) : I2 98 0 = I 98 0 := by
  unfold pb_when at h
  obtain ⟨rfl, h⟩ := h
  rw [h 98 (by decide) (by decide) (by decide) (by decide)]

theorem eb_when_98_1 {g p h x : Int32} {I I2 : px_I} {L L2 : px_L} (h : pb_when g p h I L x I2 L2) : I2 98 1 = I 98 1 := by
  unfold pb_when at h
  obtain ⟨rfl, h⟩ := h
  rw [h 98 (by decide) (by decide) (by decide) (by decide)]

theorem eb_when_98_2 {g p h x : Int32} {I I2 : px_I} {L L2 : px_L} (h : pb_when g p h I L x I2 L2) : I2 98 2 = I 98 2 := by
  unfold pb_when at h
  obtain ⟨rfl, h⟩ := h
  rw [h 98 (by decide) (by decide) (by decide) (by decide)]

theorem eb_when_97_3 {g p h x : Int32} {I I2 : px_I} {L L2 : px_L} (h : pb_when g p h I L x I2 L2) : I2 97 3 = I 97 3 := by
  unfold pb_when at h
  obtain ⟨rfl, h⟩ := h
  rw [h 97 (by decide) (by decide) (by decide) (by decide)]

theorem eb_when_97_4 {g p h x : Int32} {I I2 : px_I} {L L2 : px_L} (h : pb_when g p h I L x I2 L2) : I2 97 4 = I 97 4 := by
  unfold pb_when at h
  obtain ⟨rfl, h⟩ := h
  rw [h 97 (by decide) (by decide) (by decide) (by decide)]

theorem eb_when_97_5 {g p h x : Int32} {I I2 : px_I} {L L2 : px_L} (h : pb_when g p h I L x I2 L2) : I2 97 5 = I 97 5 := by
  unfold pb_when at h
  obtain ⟨rfl, h⟩ := h
  rw [h 97 (by decide) (by decide) (by decide) (by decide)]

theorem ek_when_137_0 {g p h x : Int32} {I I2 : px_I} {L L2 : px_L} (h : pk_when g p h I L x I2 L2) : I2 137 0 = I 137 0 := by
  unfold pk_when at h
  exact h.1 137 0 (by omega)

theorem ek_when_137_1 {g p h x : Int32} {I I2 : px_I} {L L2 : px_L} (h : pk_when g p h I L x I2 L2) : I2 137 1 = I 137 1 := by
  unfold pk_when at h
  exact h.1 137 1 (by omega)

theorem ek_when_137_2 {g p h x : Int32} {I I2 : px_I} {L L2 : px_L} (h : pk_when g p h I L x I2 L2) : I2 137 2 = I 137 2 := by
  unfold pk_when at h
  exact h.1 137 2 (by omega)

theorem ek_when_103_59 {g p h x : Int32} {I I2 : px_I} {L L2 : px_L} (h : pk_when g p h I L x I2 L2) : I2 103 59 = I 103 59 := by
  unfold pk_when at h
  exact h.1 103 59 (by omega)

theorem ek_when_103_60 {g p h x : Int32} {I I2 : px_I} {L L2 : px_L} (h : pk_when g p h I L x I2 L2) : I2 103 60 = I 103 60 := by
  unfold pk_when at h
  exact h.1 103 60 (by omega)

theorem ek_when_103_61 {g p h x : Int32} {I I2 : px_I} {L L2 : px_L} (h : pk_when g p h I L x I2 L2) : I2 103 61 = I 103 61 := by
  unfold pk_when at h
  exact h.1 103 61 (by omega)

theorem eb_between_98_0 {g p q h x : Int32} {I I2 : px_I} {L L2 : px_L} (h : pb_between g p q h I L x I2 L2) : I2 98 0 = I 98 0 := by
  unfold pb_between at h
  obtain ⟨rfl, h⟩ := h
  rw [h 98 (by decide) (by decide) (by decide) (by decide)]

theorem eb_between_98_1 {g p q h x : Int32} {I I2 : px_I} {L L2 : px_L} (h : pb_between g p q h I L x I2 L2) : I2 98 1 = I 98 1 := by
  unfold pb_between at h
  obtain ⟨rfl, h⟩ := h
  rw [h 98 (by decide) (by decide) (by decide) (by decide)]

theorem eb_between_98_2 {g p q h x : Int32} {I I2 : px_I} {L L2 : px_L} (h : pb_between g p q h I L x I2 L2) : I2 98 2 = I 98 2 := by
  unfold pb_between at h
  obtain ⟨rfl, h⟩ := h
  rw [h 98 (by decide) (by decide) (by decide) (by decide)]

theorem eb_between_97_3 {g p q h x : Int32} {I I2 : px_I} {L L2 : px_L} (h : pb_between g p q h I L x I2 L2) : I2 97 3 = I 97 3 := by
  unfold pb_between at h
  obtain ⟨rfl, h⟩ := h
  rw [h 97 (by decide) (by decide) (by decide) (by decide)]

theorem eb_between_97_4 {g p q h x : Int32} {I I2 : px_I} {L L2 : px_L} (h : pb_between g p q h I L x I2 L2) : I2 97 4 = I 97 4 := by
  unfold pb_between at h
  obtain ⟨rfl, h⟩ := h
  rw [h 97 (by decide) (by decide) (by decide) (by decide)]

theorem eb_between_97_5 {g p q h x : Int32} {I I2 : px_I} {L L2 : px_L} (h : pb_between g p q h I L x I2 L2) : I2 97 5 = I 97 5 := by
  unfold pb_between at h
  obtain ⟨rfl, h⟩ := h
  rw [h 97 (by decide) (by decide) (by decide) (by decide)]

theorem ek_between_137_0 {g p t h x : Int32} {I I2 : px_I} {L L2 : px_L} (h : pk_between g p t h I L x I2 L2) : I2 137 0 = I 137 0 := by
  unfold pk_between at h
  exact h.1 137 0 (by omega)

theorem ek_between_137_1 {g p t h x : Int32} {I I2 : px_I} {L L2 : px_L} (h : pk_between g p t h I L x I2 L2) : I2 137 1 = I 137 1 := by
  unfold pk_between at h
  exact h.1 137 1 (by omega)

theorem ek_between_137_2 {g p t h x : Int32} {I I2 : px_I} {L L2 : px_L} (h : pk_between g p t h I L x I2 L2) : I2 137 2 = I 137 2 := by
  unfold pk_between at h
  exact h.1 137 2 (by omega)

theorem ek_between_103_59 {g p t h x : Int32} {I I2 : px_I} {L L2 : px_L} (h : pk_between g p t h I L x I2 L2) : I2 103 59 = I 103 59 := by
  unfold pk_between at h
  exact h.1 103 59 (by omega)

theorem ek_between_103_60 {g p t h x : Int32} {I I2 : px_I} {L L2 : px_L} (h : pk_between g p t h I L x I2 L2) : I2 103 60 = I 103 60 := by
  unfold pk_between at h
  exact h.1 103 60 (by omega)

theorem ek_between_103_61 {g p t h x : Int32} {I I2 : px_I} {L L2 : px_L} (h : pk_between g p t h I L x I2 L2) : I2 103 61 = I 103 61 := by
  unfold pk_between at h
  exact h.1 103 61 (by omega)

theorem eb_lamps_98_0 {g p h lo hi x : Int32} {I I2 : px_I} {L L2 : px_L} (h : pb_lamps g p h lo hi I L x I2 L2) : I2 98 0 = I 98 0 := by
  unfold pb_lamps at h
  rw [h.1]

theorem eb_lamps_98_1 {g p h lo hi x : Int32} {I I2 : px_I} {L L2 : px_L} (h : pb_lamps g p h lo hi I L x I2 L2) : I2 98 1 = I 98 1 := by
  unfold pb_lamps at h
  rw [h.1]

theorem eb_lamps_98_2 {g p h lo hi x : Int32} {I I2 : px_I} {L L2 : px_L} (h : pb_lamps g p h lo hi I L x I2 L2) : I2 98 2 = I 98 2 := by
  unfold pb_lamps at h
  rw [h.1]

theorem eb_lamps_97_3 {g p h lo hi x : Int32} {I I2 : px_I} {L L2 : px_L} (h : pb_lamps g p h lo hi I L x I2 L2) : I2 97 3 = I 97 3 := by
  unfold pb_lamps at h
  rw [h.1]

theorem eb_lamps_97_4 {g p h lo hi x : Int32} {I I2 : px_I} {L L2 : px_L} (h : pb_lamps g p h lo hi I L x I2 L2) : I2 97 4 = I 97 4 := by
  unfold pb_lamps at h
  rw [h.1]

theorem eb_lamps_97_5 {g p h lo hi x : Int32} {I I2 : px_I} {L L2 : px_L} (h : pb_lamps g p h lo hi I L x I2 L2) : I2 97 5 = I 97 5 := by
  unfold pb_lamps at h
  rw [h.1]

theorem ek_lamps_137_0 {g p h lo hi x : Int32} {I I2 : px_I} {L L2 : px_L} (h : pk_lamps g p h lo hi I L x I2 L2) : I2 137 0 = I 137 0 := by
  unfold pk_lamps at h
  rw [h.1]

theorem ek_lamps_137_1 {g p h lo hi x : Int32} {I I2 : px_I} {L L2 : px_L} (h : pk_lamps g p h lo hi I L x I2 L2) : I2 137 1 = I 137 1 := by
  unfold pk_lamps at h
  rw [h.1]

theorem ek_lamps_137_2 {g p h lo hi x : Int32} {I I2 : px_I} {L L2 : px_L} (h : pk_lamps g p h lo hi I L x I2 L2) : I2 137 2 = I 137 2 := by
  unfold pk_lamps at h
  rw [h.1]

theorem ek_lamps_103_59 {g p h lo hi x : Int32} {I I2 : px_I} {L L2 : px_L} (h : pk_lamps g p h lo hi I L x I2 L2) : I2 103 59 = I 103 59 := by
  unfold pk_lamps at h
  rw [h.1]

theorem ek_lamps_103_60 {g p h lo hi x : Int32} {I I2 : px_I} {L L2 : px_L} (h : pk_lamps g p h lo hi I L x I2 L2) : I2 103 60 = I 103 60 := by
  unfold pk_lamps at h
  rw [h.1]

theorem ek_lamps_103_61 {g p h lo hi x : Int32} {I I2 : px_I} {L L2 : px_L} (h : pk_lamps g p h lo hi I L x I2 L2) : I2 103 61 = I 103 61 := by
  unfold pk_lamps at h
  rw [h.1]

theorem eb_count_98_0 {u lo hi x : Int32} {I I2 : px_I} {L L2 : px_L} (h : pb_count u lo hi I L x I2 L2) : I2 98 0 = I 98 0 := by
  unfold pb_count at h
  obtain ⟨rfl, h⟩ := h
  rcases h with ⟨a1, rfl, rfl⟩ | ⟨a1, rfl, rfl⟩
  · (repeat rw [px_u_out (by omega)])
  · rfl

theorem eb_count_98_1 {u lo hi x : Int32} {I I2 : px_I} {L L2 : px_L} (h : pb_count u lo hi I L x I2 L2) : I2 98 1 = I 98 1 := by
  unfold pb_count at h
  obtain ⟨rfl, h⟩ := h
  rcases h with ⟨a1, rfl, rfl⟩ | ⟨a1, rfl, rfl⟩
  · (repeat rw [px_u_out (by omega)])
  · rfl

theorem eb_count_98_2 {u lo hi x : Int32} {I I2 : px_I} {L L2 : px_L} (h : pb_count u lo hi I L x I2 L2) : I2 98 2 = I 98 2 := by
  unfold pb_count at h
  obtain ⟨rfl, h⟩ := h
  rcases h with ⟨a1, rfl, rfl⟩ | ⟨a1, rfl, rfl⟩
  · (repeat rw [px_u_out (by omega)])
  · rfl

theorem eb_count_97_3 {u lo hi x : Int32} {I I2 : px_I} {L L2 : px_L} (h : pb_count u lo hi I L x I2 L2) : I2 97 3 = I 97 3 := by
  unfold pb_count at h
  obtain ⟨rfl, h⟩ := h
  rcases h with ⟨a1, rfl, rfl⟩ | ⟨a1, rfl, rfl⟩
  · (repeat rw [px_u_out (by omega)])
  · rfl

theorem eb_count_97_4 {u lo hi x : Int32} {I I2 : px_I} {L L2 : px_L} (h : pb_count u lo hi I L x I2 L2) : I2 97 4 = I 97 4 := by
  unfold pb_count at h
  obtain ⟨rfl, h⟩ := h
  rcases h with ⟨a1, rfl, rfl⟩ | ⟨a1, rfl, rfl⟩
  · (repeat rw [px_u_out (by omega)])
  · rfl

theorem eb_count_97_5 {u lo hi x : Int32} {I I2 : px_I} {L L2 : px_L} (h : pb_count u lo hi I L x I2 L2) : I2 97 5 = I 97 5 := by
  unfold pb_count at h
  obtain ⟨rfl, h⟩ := h
  rcases h with ⟨a1, rfl, rfl⟩ | ⟨a1, rfl, rfl⟩
  · (repeat rw [px_u_out (by omega)])
  · rfl

theorem ek_count_137_0 {u lo hi x : Int32} {I I2 : px_I} {L L2 : px_L} (h : pk_count u lo hi I L x I2 L2) : I2 137 0 = I 137 0 := by
  unfold pk_count at h
  rcases h with ⟨a1, rfl, rfl, rfl⟩ | ⟨a1, rfl, rfl, rfl⟩
  · (repeat rw [px_u_out (by omega)])
  · rfl

theorem ek_count_137_1 {u lo hi x : Int32} {I I2 : px_I} {L L2 : px_L} (h : pk_count u lo hi I L x I2 L2) : I2 137 1 = I 137 1 := by
  unfold pk_count at h
  rcases h with ⟨a1, rfl, rfl, rfl⟩ | ⟨a1, rfl, rfl, rfl⟩
  · (repeat rw [px_u_out (by omega)])
  · rfl

theorem ek_count_137_2 {u lo hi x : Int32} {I I2 : px_I} {L L2 : px_L} (h : pk_count u lo hi I L x I2 L2) : I2 137 2 = I 137 2 := by
  unfold pk_count at h
  rcases h with ⟨a1, rfl, rfl, rfl⟩ | ⟨a1, rfl, rfl, rfl⟩
  · (repeat rw [px_u_out (by omega)])
  · rfl

theorem ek_count_103_59 {u lo hi x : Int32} {I I2 : px_I} {L L2 : px_L} (h : pk_count u lo hi I L x I2 L2) : I2 103 59 = I 103 59 := by
  unfold pk_count at h
  rcases h with ⟨a1, rfl, rfl, rfl⟩ | ⟨a1, rfl, rfl, rfl⟩
  · (repeat rw [px_u_out (by omega)])
  · rfl

theorem ek_count_103_60 {u lo hi x : Int32} {I I2 : px_I} {L L2 : px_L} (h : pk_count u lo hi I L x I2 L2) : I2 103 60 = I 103 60 := by
  unfold pk_count at h
  rcases h with ⟨a1, rfl, rfl, rfl⟩ | ⟨a1, rfl, rfl, rfl⟩
  · (repeat rw [px_u_out (by omega)])
  · rfl

theorem ek_count_103_61 {u lo hi x : Int32} {I I2 : px_I} {L L2 : px_L} (h : pk_count u lo hi I L x I2 L2) : I2 103 61 = I 103 61 := by
  unfold pk_count at h
  rcases h with ⟨a1, rfl, rfl, rfl⟩ | ⟨a1, rfl, rfl, rfl⟩
  · (repeat rw [px_u_out (by omega)])
  · rfl

theorem eb_unit_98_0 {h x : Int32} {I I2 : px_I} {L L2 : px_L} (h : pb_unit h I L x I2 L2) : I2 98 0 = I 98 0 := by
  unfold pb_unit at h
  rw [h.1]

theorem eb_unit_98_1 {h x : Int32} {I I2 : px_I} {L L2 : px_L} (h : pb_unit h I L x I2 L2) : I2 98 1 = I 98 1 := by
  unfold pb_unit at h
  rw [h.1]

theorem eb_unit_98_2 {h x : Int32} {I I2 : px_I} {L L2 : px_L} (h : pb_unit h I L x I2 L2) : I2 98 2 = I 98 2 := by
  unfold pb_unit at h
  rw [h.1]

theorem eb_unit_97_3 {h x : Int32} {I I2 : px_I} {L L2 : px_L} (h : pb_unit h I L x I2 L2) : I2 97 3 = I 97 3 := by
  unfold pb_unit at h
  rw [h.1]

theorem eb_unit_97_4 {h x : Int32} {I I2 : px_I} {L L2 : px_L} (h : pb_unit h I L x I2 L2) : I2 97 4 = I 97 4 := by
  unfold pb_unit at h
  rw [h.1]

theorem eb_unit_97_5 {h x : Int32} {I I2 : px_I} {L L2 : px_L} (h : pb_unit h I L x I2 L2) : I2 97 5 = I 97 5 := by
  unfold pb_unit at h
  rw [h.1]

theorem ek_unit_137_0 {h x : Int32} {I I2 : px_I} {L L2 : px_L} (h : pk_unit h I L x I2 L2) : I2 137 0 = I 137 0 := by
  unfold pk_unit at h
  rw [h.1]

theorem ek_unit_137_1 {h x : Int32} {I I2 : px_I} {L L2 : px_L} (h : pk_unit h I L x I2 L2) : I2 137 1 = I 137 1 := by
  unfold pk_unit at h
  rw [h.1]

theorem ek_unit_137_2 {h x : Int32} {I I2 : px_I} {L L2 : px_L} (h : pk_unit h I L x I2 L2) : I2 137 2 = I 137 2 := by
  unfold pk_unit at h
  rw [h.1]

theorem ek_unit_103_59 {h x : Int32} {I I2 : px_I} {L L2 : px_L} (h : pk_unit h I L x I2 L2) : I2 103 59 = I 103 59 := by
  unfold pk_unit at h
  rw [h.1]

theorem ek_unit_103_60 {h x : Int32} {I I2 : px_I} {L L2 : px_L} (h : pk_unit h I L x I2 L2) : I2 103 60 = I 103 60 := by
  unfold pk_unit at h
  rw [h.1]

theorem ek_unit_103_61 {h x : Int32} {I I2 : px_I} {L L2 : px_L} (h : pk_unit h I L x I2 L2) : I2 103 61 = I 103 61 := by
  unfold pk_unit at h
  rw [h.1]

theorem eb_feed_98_0 {a b c d e x : Int32} {I I2 : px_I} {L L2 : px_L} (h : pb_feed a b c d e I L x I2 L2) : I2 98 0 = I 98 0 := by
  unfold pb_feed at h
  obtain ⟨rfl, h⟩ := h
  rcases h with ⟨a1, rfl, rfl⟩ | ⟨a1, rfl, rfl⟩
  · rw [cApp_at _ _ 98 0 (by omega) (by omega), cApp_at _ _ 98 0 (by omega) (by omega), cApp_at _ _ 98 0 (by omega) (by omega), cApp_at _ _ 98 0 (by omega) (by omega), cApp_at _ _ 98 0 (by omega) (by omega)]
  · rfl

theorem eb_feed_98_1 {a b c d e x : Int32} {I I2 : px_I} {L L2 : px_L} (h : pb_feed a b c d e I L x I2 L2) : I2 98 1 = I 98 1 := by
  unfold pb_feed at h
  obtain ⟨rfl, h⟩ := h
  rcases h with ⟨a1, rfl, rfl⟩ | ⟨a1, rfl, rfl⟩
  · rw [cApp_at _ _ 98 1 (by omega) (by omega), cApp_at _ _ 98 1 (by omega) (by omega), cApp_at _ _ 98 1 (by omega) (by omega), cApp_at _ _ 98 1 (by omega) (by omega), cApp_at _ _ 98 1 (by omega) (by omega)]
  · rfl

theorem eb_feed_98_2 {a b c d e x : Int32} {I I2 : px_I} {L L2 : px_L} (h : pb_feed a b c d e I L x I2 L2) : I2 98 2 = I 98 2 := by
  unfold pb_feed at h
  obtain ⟨rfl, h⟩ := h
  rcases h with ⟨a1, rfl, rfl⟩ | ⟨a1, rfl, rfl⟩
  · rw [cApp_at _ _ 98 2 (by omega) (by omega), cApp_at _ _ 98 2 (by omega) (by omega), cApp_at _ _ 98 2 (by omega) (by omega), cApp_at _ _ 98 2 (by omega) (by omega), cApp_at _ _ 98 2 (by omega) (by omega)]
  · rfl

theorem eb_feed_97_3 {a b c d e x : Int32} {I I2 : px_I} {L L2 : px_L} (h : pb_feed a b c d e I L x I2 L2) : I2 97 3 = I 97 3 := by
  unfold pb_feed at h
  obtain ⟨rfl, h⟩ := h
  rcases h with ⟨a1, rfl, rfl⟩ | ⟨a1, rfl, rfl⟩
  · rw [cApp_at _ _ 97 3 (by omega) (by omega), cApp_at _ _ 97 3 (by omega) (by omega), cApp_at _ _ 97 3 (by omega) (by omega), cApp_at _ _ 97 3 (by omega) (by omega), cApp_at _ _ 97 3 (by omega) (by omega)]
  · rfl

theorem eb_feed_97_4 {a b c d e x : Int32} {I I2 : px_I} {L L2 : px_L} (h : pb_feed a b c d e I L x I2 L2) : I2 97 4 = I 97 4 := by
  unfold pb_feed at h
  obtain ⟨rfl, h⟩ := h
  rcases h with ⟨a1, rfl, rfl⟩ | ⟨a1, rfl, rfl⟩
  · rw [cApp_at _ _ 97 4 (by omega) (by omega), cApp_at _ _ 97 4 (by omega) (by omega), cApp_at _ _ 97 4 (by omega) (by omega), cApp_at _ _ 97 4 (by omega) (by omega), cApp_at _ _ 97 4 (by omega) (by omega)]
  · rfl

theorem eb_feed_97_5 {a b c d e x : Int32} {I I2 : px_I} {L L2 : px_L} (h : pb_feed a b c d e I L x I2 L2) : I2 97 5 = I 97 5 := by
  unfold pb_feed at h
  obtain ⟨rfl, h⟩ := h
  rcases h with ⟨a1, rfl, rfl⟩ | ⟨a1, rfl, rfl⟩
  · rw [cApp_at _ _ 97 5 (by omega) (by omega), cApp_at _ _ 97 5 (by omega) (by omega), cApp_at _ _ 97 5 (by omega) (by omega), cApp_at _ _ 97 5 (by omega) (by omega), cApp_at _ _ 97 5 (by omega) (by omega)]
  · rfl

theorem ek_feed_137_0 {a b c d e x : Int32} {I I2 : px_I} {L L2 : px_L} (h : pk_feed a b c d e I L x I2 L2) : I2 137 0 = I 137 0 := by
  unfold pk_feed at h
  obtain ⟨rfl, h⟩ := h
  rcases h with ⟨a1, rfl, rfl⟩ | ⟨a1, rfl, rfl⟩
  · rw [mPut_o (by omega) (by omega), mPut_o (by omega) (by omega), mPut_o (by omega) (by omega), mPut_o (by omega) (by omega), mPut_o (by omega) (by omega)]
  · rfl

theorem ek_feed_137_1 {a b c d e x : Int32} {I I2 : px_I} {L L2 : px_L} (h : pk_feed a b c d e I L x I2 L2) : I2 137 1 = I 137 1 := by
  unfold pk_feed at h
  obtain ⟨rfl, h⟩ := h
  rcases h with ⟨a1, rfl, rfl⟩ | ⟨a1, rfl, rfl⟩
  · rw [mPut_o (by omega) (by omega), mPut_o (by omega) (by omega), mPut_o (by omega) (by omega), mPut_o (by omega) (by omega), mPut_o (by omega) (by omega)]
  · rfl

theorem ek_feed_137_2 {a b c d e x : Int32} {I I2 : px_I} {L L2 : px_L} (h : pk_feed a b c d e I L x I2 L2) : I2 137 2 = I 137 2 := by
  unfold pk_feed at h
  obtain ⟨rfl, h⟩ := h
  rcases h with ⟨a1, rfl, rfl⟩ | ⟨a1, rfl, rfl⟩
  · rw [mPut_o (by omega) (by omega), mPut_o (by omega) (by omega), mPut_o (by omega) (by omega), mPut_o (by omega) (by omega), mPut_o (by omega) (by omega)]
  · rfl

theorem ek_feed_103_59 {a b c d e x : Int32} {I I2 : px_I} {L L2 : px_L} (h : pk_feed a b c d e I L x I2 L2) : I2 103 59 = I 103 59 := by
  unfold pk_feed at h
  obtain ⟨rfl, h⟩ := h
  rcases h with ⟨a1, rfl, rfl⟩ | ⟨a1, rfl, rfl⟩
  · rw [mPut_o (by omega) (by omega), mPut_o (by omega) (by omega), mPut_o (by omega) (by omega), mPut_o (by omega) (by omega), mPut_o (by omega) (by omega)]
  · rfl

theorem ek_feed_103_60 {a b c d e x : Int32} {I I2 : px_I} {L L2 : px_L} (h : pk_feed a b c d e I L x I2 L2) : I2 103 60 = I 103 60 := by
  unfold pk_feed at h
  obtain ⟨rfl, h⟩ := h
  rcases h with ⟨a1, rfl, rfl⟩ | ⟨a1, rfl, rfl⟩
  · rw [mPut_o (by omega) (by omega), mPut_o (by omega) (by omega), mPut_o (by omega) (by omega), mPut_o (by omega) (by omega), mPut_o (by omega) (by omega)]
  · rfl

theorem ek_feed_103_61 {a b c d e x : Int32} {I I2 : px_I} {L L2 : px_L} (h : pk_feed a b c d e I L x I2 L2) : I2 103 61 = I 103 61 := by
  unfold pk_feed at h
  obtain ⟨rfl, h⟩ := h
  rcases h with ⟨a1, rfl, rfl⟩ | ⟨a1, rfl, rfl⟩
  · rw [mPut_o (by omega) (by omega), mPut_o (by omega) (by omega), mPut_o (by omega) (by omega), mPut_o (by omega) (by omega), mPut_o (by omega) (by omega)]
  · rfl

theorem eb_end_98_0 {x9 x : Int32} {I I2 : px_I} {L L2 : px_L} (h : pb_end x9 I L x I2 L2) : I2 98 0 = I 98 0 := by
  unfold pb_end at h
  obtain ⟨rfl, h⟩ := h
  rcases h with ⟨a1, rfl, rfl⟩ | ⟨a1, rfl, rfl⟩
  · (repeat rw [px_u_out (by omega)])
  · rfl

theorem eb_end_98_1 {x9 x : Int32} {I I2 : px_I} {L L2 : px_L} (h : pb_end x9 I L x I2 L2) : I2 98 1 = I 98 1 := by
  unfold pb_end at h
  obtain ⟨rfl, h⟩ := h
  rcases h with ⟨a1, rfl, rfl⟩ | ⟨a1, rfl, rfl⟩
  · (repeat rw [px_u_out (by omega)])
  · rfl

theorem eb_end_98_2 {x9 x : Int32} {I I2 : px_I} {L L2 : px_L} (h : pb_end x9 I L x I2 L2) : I2 98 2 = I 98 2 := by
  unfold pb_end at h
  obtain ⟨rfl, h⟩ := h
  rcases h with ⟨a1, rfl, rfl⟩ | ⟨a1, rfl, rfl⟩
  · (repeat rw [px_u_out (by omega)])
  · rfl

theorem eb_end_97_3 {x9 x : Int32} {I I2 : px_I} {L L2 : px_L} (h : pb_end x9 I L x I2 L2) : I2 97 3 = I 97 3 := by
  unfold pb_end at h
  obtain ⟨rfl, h⟩ := h
  rcases h with ⟨a1, rfl, rfl⟩ | ⟨a1, rfl, rfl⟩
  · (repeat rw [px_u_out (by omega)])
  · rfl

theorem eb_end_97_4 {x9 x : Int32} {I I2 : px_I} {L L2 : px_L} (h : pb_end x9 I L x I2 L2) : I2 97 4 = I 97 4 := by
  unfold pb_end at h
  obtain ⟨rfl, h⟩ := h
  rcases h with ⟨a1, rfl, rfl⟩ | ⟨a1, rfl, rfl⟩
  · (repeat rw [px_u_out (by omega)])
  · rfl

theorem eb_end_97_5 {x9 x : Int32} {I I2 : px_I} {L L2 : px_L} (h : pb_end x9 I L x I2 L2) : I2 97 5 = I 97 5 := by
  unfold pb_end at h
  obtain ⟨rfl, h⟩ := h
  rcases h with ⟨a1, rfl, rfl⟩ | ⟨a1, rfl, rfl⟩
  · (repeat rw [px_u_out (by omega)])
  · rfl

theorem ek_end_137_0 {x9 x : Int32} {I I2 : px_I} {L L2 : px_L} (h : pk_end x9 I L x I2 L2) : I2 137 0 = I 137 0 := by
  unfold pk_end at h
  obtain ⟨rfl, h⟩ := h
  rcases h with ⟨a1, a2, rfl, rfl⟩ | ⟨a1, rfl, rfl⟩
  · (repeat rw [px_u_out (by omega)])
  · rfl

theorem ek_end_137_1 {x9 x : Int32} {I I2 : px_I} {L L2 : px_L} (h : pk_end x9 I L x I2 L2) : I2 137 1 = I 137 1 := by
  unfold pk_end at h
  obtain ⟨rfl, h⟩ := h
  rcases h with ⟨a1, a2, rfl, rfl⟩ | ⟨a1, rfl, rfl⟩
  · (repeat rw [px_u_out (by omega)])
  · rfl

theorem ek_end_137_2 {x9 x : Int32} {I I2 : px_I} {L L2 : px_L} (h : pk_end x9 I L x I2 L2) : I2 137 2 = I 137 2 := by
  unfold pk_end at h
  obtain ⟨rfl, h⟩ := h
  rcases h with ⟨a1, a2, rfl, rfl⟩ | ⟨a1, rfl, rfl⟩
  · (repeat rw [px_u_out (by omega)])
  · rfl

theorem ek_end_103_59 {x9 x : Int32} {I I2 : px_I} {L L2 : px_L} (h : pk_end x9 I L x I2 L2) : I2 103 59 = I 103 59 := by
  unfold pk_end at h
  obtain ⟨rfl, h⟩ := h
  rcases h with ⟨a1, a2, rfl, rfl⟩ | ⟨a1, rfl, rfl⟩
  · (repeat rw [px_u_out (by omega)])
  · rfl

theorem ek_end_103_60 {x9 x : Int32} {I I2 : px_I} {L L2 : px_L} (h : pk_end x9 I L x I2 L2) : I2 103 60 = I 103 60 := by
  unfold pk_end at h
  obtain ⟨rfl, h⟩ := h
  rcases h with ⟨a1, a2, rfl, rfl⟩ | ⟨a1, rfl, rfl⟩
  · (repeat rw [px_u_out (by omega)])
  · rfl

theorem ek_end_103_61 {x9 x : Int32} {I I2 : px_I} {L L2 : px_L} (h : pk_end x9 I L x I2 L2) : I2 103 61 = I 103 61 := by
  unfold pk_end at h
  obtain ⟨rfl, h⟩ := h
  rcases h with ⟨a1, a2, rfl, rfl⟩ | ⟨a1, rfl, rfl⟩
  · (repeat rw [px_u_out (by omega)])
  · rfl

theorem eb_way_98_0 {i x : Int32} {I I2 : px_I} {L L2 : px_L} (h : pb_way i I L x I2 L2) : I2 98 0 = I 98 0 := by
  unfold pb_way at h
  exact h.1 98 0 (by omega) (by omega) (by omega) (by omega) (by omega)

theorem eb_way_98_1 {i x : Int32} {I I2 : px_I} {L L2 : px_L} (h : pb_way i I L x I2 L2) : I2 98 1 = I 98 1 := by
  unfold pb_way at h
  exact h.1 98 1 (by omega) (by omega) (by omega) (by omega) (by omega)

theorem eb_way_98_2 {i x : Int32} {I I2 : px_I} {L L2 : px_L} (h : pb_way i I L x I2 L2) : I2 98 2 = I 98 2 := by
  unfold pb_way at h
  exact h.1 98 2 (by omega) (by omega) (by omega) (by omega) (by omega)

theorem eb_way_97_3 {i x : Int32} {I I2 : px_I} {L L2 : px_L} (h : pb_way i I L x I2 L2) : I2 97 3 = I 97 3 := by
  unfold pb_way at h
  exact h.1 97 3 (by omega) (by omega) (by omega) (by omega) (by omega)

theorem eb_way_97_4 {i x : Int32} {I I2 : px_I} {L L2 : px_L} (h : pb_way i I L x I2 L2) : I2 97 4 = I 97 4 := by
  unfold pb_way at h
  exact h.1 97 4 (by omega) (by omega) (by omega) (by omega) (by omega)

theorem eb_way_97_5 {i x : Int32} {I I2 : px_I} {L L2 : px_L} (h : pb_way i I L x I2 L2) : I2 97 5 = I 97 5 := by
  unfold pb_way at h
  exact h.1 97 5 (by omega) (by omega) (by omega) (by omega) (by omega)

theorem ek_way_137_0 {w x : Int32} {I I2 : px_I} {L L2 : px_L} (h : pk_way w I L x I2 L2) : I2 137 0 = I 137 0 := by
  unfold pk_way at h
  obtain ⟨rfl, h⟩ := h
  rcases h with ⟨a1, a2, rfl⟩ | ⟨a1, a2, a3⟩
  · rfl
  · exact a2 137 0 (by omega) (by omega)

theorem ek_way_137_1 {w x : Int32} {I I2 : px_I} {L L2 : px_L} (h : pk_way w I L x I2 L2) : I2 137 1 = I 137 1 := by
  unfold pk_way at h
  obtain ⟨rfl, h⟩ := h
  rcases h with ⟨a1, a2, rfl⟩ | ⟨a1, a2, a3⟩
  · rfl
  · exact a2 137 1 (by omega) (by omega)

theorem ek_way_137_2 {w x : Int32} {I I2 : px_I} {L L2 : px_L} (h : pk_way w I L x I2 L2) : I2 137 2 = I 137 2 := by
  unfold pk_way at h
  obtain ⟨rfl, h⟩ := h
  rcases h with ⟨a1, a2, rfl⟩ | ⟨a1, a2, a3⟩
  · rfl
  · exact a2 137 2 (by omega) (by omega)

theorem ek_way_103_59 {w x : Int32} {I I2 : px_I} {L L2 : px_L} (h : pk_way w I L x I2 L2) : I2 103 59 = I 103 59 := by
  unfold pk_way at h
  obtain ⟨rfl, h⟩ := h
  rcases h with ⟨a1, a2, rfl⟩ | ⟨a1, a2, a3⟩
  · rfl
  · exact a2 103 59 (by omega) (by omega)

theorem ek_way_103_60 {w x : Int32} {I I2 : px_I} {L L2 : px_L} (h : pk_way w I L x I2 L2) : I2 103 60 = I 103 60 := by
  unfold pk_way at h
  obtain ⟨rfl, h⟩ := h
  rcases h with ⟨a1, a2, rfl⟩ | ⟨a1, a2, a3⟩
  · rfl
  · exact a2 103 60 (by omega) (by omega)

theorem ek_way_103_61 {w x : Int32} {I I2 : px_I} {L L2 : px_L} (h : pk_way w I L x I2 L2) : I2 103 61 = I 103 61 := by
  unfold pk_way at h
  obtain ⟨rfl, h⟩ := h
  rcases h with ⟨a1, a2, rfl⟩ | ⟨a1, a2, a3⟩
  · rfl
  · exact a2 103 61 (by omega) (by omega)

theorem eb_fault_98_0 {x9 x : Int32} {I I2 : px_I} {L L2 : px_L} (h : pb_fault x9 I L x I2 L2) : I2 98 0 = I 98 0 := by
  unfold pb_fault at h
  rw [h.1]

theorem eb_fault_98_1 {x9 x : Int32} {I I2 : px_I} {L L2 : px_L} (h : pb_fault x9 I L x I2 L2) : I2 98 1 = I 98 1 := by
  unfold pb_fault at h
  rw [h.1]

theorem eb_fault_98_2 {x9 x : Int32} {I I2 : px_I} {L L2 : px_L} (h : pb_fault x9 I L x I2 L2) : I2 98 2 = I 98 2 := by
  unfold pb_fault at h
  rw [h.1]

theorem eb_fault_97_3 {x9 x : Int32} {I I2 : px_I} {L L2 : px_L} (h : pb_fault x9 I L x I2 L2) : I2 97 3 = I 97 3 := by
  unfold pb_fault at h
  rw [h.1]

theorem eb_fault_97_4 {x9 x : Int32} {I I2 : px_I} {L L2 : px_L} (h : pb_fault x9 I L x I2 L2) : I2 97 4 = I 97 4 := by
  unfold pb_fault at h
  rw [h.1]

theorem eb_fault_97_5 {x9 x : Int32} {I I2 : px_I} {L L2 : px_L} (h : pb_fault x9 I L x I2 L2) : I2 97 5 = I 97 5 := by
  unfold pb_fault at h
  rw [h.1]

theorem ek_fault_137_0 {x9 x : Int32} {I I2 : px_I} {L L2 : px_L} (h : pk_fault x9 I L x I2 L2) : I2 137 0 = I 137 0 := by
  unfold pk_fault at h
  rw [h.1]

theorem ek_fault_137_1 {x9 x : Int32} {I I2 : px_I} {L L2 : px_L} (h : pk_fault x9 I L x I2 L2) : I2 137 1 = I 137 1 := by
  unfold pk_fault at h
  rw [h.1]

theorem ek_fault_137_2 {x9 x : Int32} {I I2 : px_I} {L L2 : px_L} (h : pk_fault x9 I L x I2 L2) : I2 137 2 = I 137 2 := by
  unfold pk_fault at h
  rw [h.1]

theorem ek_fault_103_59 {x9 x : Int32} {I I2 : px_I} {L L2 : px_L} (h : pk_fault x9 I L x I2 L2) : I2 103 59 = I 103 59 := by
  unfold pk_fault at h
  rw [h.1]

theorem ek_fault_103_60 {x9 x : Int32} {I I2 : px_I} {L L2 : px_L} (h : pk_fault x9 I L x I2 L2) : I2 103 60 = I 103 60 := by
  unfold pk_fault at h
  rw [h.1]

theorem ek_fault_103_61 {x9 x : Int32} {I I2 : px_I} {L L2 : px_L} (h : pk_fault x9 I L x I2 L2) : I2 103 61 = I 103 61 := by
  unfold pk_fault at h
  rw [h.1]

theorem eb_tools_98_0 {a b c d e x : Int32} {I I2 : px_I} {L L2 : px_L} (h : pb_tools a b c d e I L x I2 L2) : I2 98 0 = I 98 0 := by
  unfold pb_tools at h
  obtain ⟨rfl, h⟩ := h
  rcases h with ⟨a1, rfl, a2⟩ | ⟨a1, rfl, rfl⟩
  · rw [a2 98 (by decide)]; (repeat rw [px_u_out (by omega)])
  · rfl

theorem eb_tools_98_1 {a b c d e x : Int32} {I I2 : px_I} {L L2 : px_L} (h : pb_tools a b c d e I L x I2 L2) : I2 98 1 = I 98 1 := by
  unfold pb_tools at h
  obtain ⟨rfl, h⟩ := h
  rcases h with ⟨a1, rfl, a2⟩ | ⟨a1, rfl, rfl⟩
  · rw [a2 98 (by decide)]; (repeat rw [px_u_out (by omega)])
  · rfl

theorem eb_tools_98_2 {a b c d e x : Int32} {I I2 : px_I} {L L2 : px_L} (h : pb_tools a b c d e I L x I2 L2) : I2 98 2 = I 98 2 := by
  unfold pb_tools at h
  obtain ⟨rfl, h⟩ := h
  rcases h with ⟨a1, rfl, a2⟩ | ⟨a1, rfl, rfl⟩
  · rw [a2 98 (by decide)]; (repeat rw [px_u_out (by omega)])
  · rfl

theorem eb_tools_97_3 {a b c d e x : Int32} {I I2 : px_I} {L L2 : px_L} (h : pb_tools a b c d e I L x I2 L2) : I2 97 3 = I 97 3 := by
  unfold pb_tools at h
  obtain ⟨rfl, h⟩ := h
  rcases h with ⟨a1, rfl, a2⟩ | ⟨a1, rfl, rfl⟩
  · rw [a2 97 (by decide)]; (repeat rw [px_u_out (by omega)])
  · rfl

theorem eb_tools_97_4 {a b c d e x : Int32} {I I2 : px_I} {L L2 : px_L} (h : pb_tools a b c d e I L x I2 L2) : I2 97 4 = I 97 4 := by
  unfold pb_tools at h
  obtain ⟨rfl, h⟩ := h
  rcases h with ⟨a1, rfl, a2⟩ | ⟨a1, rfl, rfl⟩
  · rw [a2 97 (by decide)]; (repeat rw [px_u_out (by omega)])
  · rfl

theorem eb_tools_97_5 {a b c d e x : Int32} {I I2 : px_I} {L L2 : px_L} (h : pb_tools a b c d e I L x I2 L2) : I2 97 5 = I 97 5 := by
  unfold pb_tools at h
  obtain ⟨rfl, h⟩ := h
  rcases h with ⟨a1, rfl, a2⟩ | ⟨a1, rfl, rfl⟩
  · rw [a2 97 (by decide)]; (repeat rw [px_u_out (by omega)])
  · rfl

theorem ek_tools_137_0 {a b c d e x : Int32} {I I2 : px_I} {L L2 : px_L} (h : pk_tools a b c d e I L x I2 L2) : I2 137 0 = I 137 0 := by
  unfold pk_tools at h
  obtain ⟨rfl, h⟩ := h
  rcases h with ⟨a1, rfl, rfl⟩ | ⟨a1, rfl, rfl⟩
  · (repeat rw [px_u_out (by omega)])
  · rfl

theorem ek_tools_137_1 {a b c d e x : Int32} {I I2 : px_I} {L L2 : px_L} (h : pk_tools a b c d e I L x I2 L2) : I2 137 1 = I 137 1 := by
  unfold pk_tools at h
  obtain ⟨rfl, h⟩ := h
  rcases h with ⟨a1, rfl, rfl⟩ | ⟨a1, rfl, rfl⟩
  · (repeat rw [px_u_out (by omega)])
  · rfl

theorem ek_tools_137_2 {a b c d e x : Int32} {I I2 : px_I} {L L2 : px_L} (h : pk_tools a b c d e I L x I2 L2) : I2 137 2 = I 137 2 := by
  unfold pk_tools at h
  obtain ⟨rfl, h⟩ := h
  rcases h with ⟨a1, rfl, rfl⟩ | ⟨a1, rfl, rfl⟩
  · (repeat rw [px_u_out (by omega)])
  · rfl

theorem ek_tools_103_59 {a b c d e x : Int32} {I I2 : px_I} {L L2 : px_L} (h : pk_tools a b c d e I L x I2 L2) : I2 103 59 = I 103 59 := by
  unfold pk_tools at h
  obtain ⟨rfl, h⟩ := h
  rcases h with ⟨a1, rfl, rfl⟩ | ⟨a1, rfl, rfl⟩
  · (repeat rw [px_u_out (by omega)])
  · rfl

theorem ek_tools_103_60 {a b c d e x : Int32} {I I2 : px_I} {L L2 : px_L} (h : pk_tools a b c d e I L x I2 L2) : I2 103 60 = I 103 60 := by
  unfold pk_tools at h
  obtain ⟨rfl, h⟩ := h
  rcases h with ⟨a1, rfl, rfl⟩ | ⟨a1, rfl, rfl⟩
  · (repeat rw [px_u_out (by omega)])
  · rfl

theorem ek_tools_103_61 {a b c d e x : Int32} {I I2 : px_I} {L L2 : px_L} (h : pk_tools a b c d e I L x I2 L2) : I2 103 61 = I 103 61 := by
  unfold pk_tools at h
  obtain ⟨rfl, h⟩ := h
  rcases h with ⟨a1, rfl, rfl⟩ | ⟨a1, rfl, rfl⟩
  · (repeat rw [px_u_out (by omega)])
  · rfl

theorem eb_run_98_0 {w h a x : Int32} {I I2 : px_I} {L L2 : px_L} (h : pb_run w h a I L x I2 L2) : I2 98 0 = I 98 0 := by
  unfold pb_run at h
  exact h.1 98 0 (by omega) (by omega) (by omega) (by omega) (by omega) (by omega) (by omega)

theorem eb_run_98_1 {w h a x : Int32} {I I2 : px_I} {L L2 : px_L} (h : pb_run w h a I L x I2 L2) : I2 98 1 = I 98 1 := by
  unfold pb_run at h
  exact h.1 98 1 (by omega) (by omega) (by omega) (by omega) (by omega) (by omega) (by omega)

theorem eb_run_98_2 {w h a x : Int32} {I I2 : px_I} {L L2 : px_L} (h : pb_run w h a I L x I2 L2) : I2 98 2 = I 98 2 := by
  unfold pb_run at h
  exact h.1 98 2 (by omega) (by omega) (by omega) (by omega) (by omega) (by omega) (by omega)

theorem eb_run_97_3 {w h a x : Int32} {I I2 : px_I} {L L2 : px_L} (h : pb_run w h a I L x I2 L2) : I2 97 3 = I 97 3 := by
  unfold pb_run at h
  exact h.1 97 3 (by omega) (by omega) (by omega) (by omega) (by omega) (by omega) (by omega)

theorem eb_run_97_4 {w h a x : Int32} {I I2 : px_I} {L L2 : px_L} (h : pb_run w h a I L x I2 L2) : I2 97 4 = I 97 4 := by
  unfold pb_run at h
  exact h.1 97 4 (by omega) (by omega) (by omega) (by omega) (by omega) (by omega) (by omega)

theorem eb_run_97_5 {w h a x : Int32} {I I2 : px_I} {L L2 : px_L} (h : pb_run w h a I L x I2 L2) : I2 97 5 = I 97 5 := by
  unfold pb_run at h
  exact h.1 97 5 (by omega) (by omega) (by omega) (by omega) (by omega) (by omega) (by omega)

theorem ek_run_137_0 {w h a x : Int32} {I I2 : px_I} {L L2 : px_L} (h : pk_run w h a I L x I2 L2) : I2 137 0 = I 137 0 := by
  unfold pk_run at h
  exact h.1 137 0 (by omega) (by omega) (by omega)

theorem ek_run_137_1 {w h a x : Int32} {I I2 : px_I} {L L2 : px_L} (h : pk_run w h a I L x I2 L2) : I2 137 1 = I 137 1 := by
  unfold pk_run at h
  exact h.1 137 1 (by omega) (by omega) (by omega)

theorem ek_run_137_2 {w h a x : Int32} {I I2 : px_I} {L L2 : px_L} (h : pk_run w h a I L x I2 L2) : I2 137 2 = I 137 2 := by
  unfold pk_run at h
  exact h.1 137 2 (by omega) (by omega) (by omega)

theorem ek_run_103_59 {w h a x : Int32} {I I2 : px_I} {L L2 : px_L} (h : pk_run w h a I L x I2 L2) : I2 103 59 = I 103 59 := by
  unfold pk_run at h
  exact h.1 103 59 (by omega) (by omega) (by omega)

theorem ek_run_103_60 {w h a x : Int32} {I I2 : px_I} {L L2 : px_L} (h : pk_run w h a I L x I2 L2) : I2 103 60 = I 103 60 := by
  unfold pk_run at h
  exact h.1 103 60 (by omega) (by omega) (by omega)

theorem ek_run_103_61 {w h a x : Int32} {I I2 : px_I} {L L2 : px_L} (h : pk_run w h a I L x I2 L2) : I2 103 61 = I 103 61 := by
  unfold pk_run at h
  exact h.1 103 61 (by omega) (by omega) (by omega)

theorem eb_meeting_98_0 {a f b t x9 h x : Int32} {I I2 : px_I} {L L2 : px_L} (h : pb_meeting a f b t x9 h I L x I2 L2) : I2 98 0 = I 98 0 := by
  unfold pb_meeting at h
  exact h.1 98 0 (by omega) (by omega) (by omega) (by omega) (by omega) (by omega) (by omega)

theorem eb_meeting_98_1 {a f b t x9 h x : Int32} {I I2 : px_I} {L L2 : px_L} (h : pb_meeting a f b t x9 h I L x I2 L2) : I2 98 1 = I 98 1 := by
  unfold pb_meeting at h
  exact h.1 98 1 (by omega) (by omega) (by omega) (by omega) (by omega) (by omega) (by omega)

theorem eb_meeting_98_2 {a f b t x9 h x : Int32} {I I2 : px_I} {L L2 : px_L} (h : pb_meeting a f b t x9 h I L x I2 L2) : I2 98 2 = I 98 2 := by
  unfold pb_meeting at h
  exact h.1 98 2 (by omega) (by omega) (by omega) (by omega) (by omega) (by omega) (by omega)

theorem eb_meeting_97_3 {a f b t x9 h x : Int32} {I I2 : px_I} {L L2 : px_L} (h : pb_meeting a f b t x9 h I L x I2 L2) : I2 97 3 = I 97 3 := by
  unfold pb_meeting at h
  exact h.1 97 3 (by omega) (by omega) (by omega) (by omega) (by omega) (by omega) (by omega)

theorem eb_meeting_97_4 {a f b t x9 h x : Int32} {I I2 : px_I} {L L2 : px_L} (h : pb_meeting a f b t x9 h I L x I2 L2) : I2 97 4 = I 97 4 := by
  unfold pb_meeting at h
  exact h.1 97 4 (by omega) (by omega) (by omega) (by omega) (by omega) (by omega) (by omega)

theorem eb_meeting_97_5 {a f b t x9 h x : Int32} {I I2 : px_I} {L L2 : px_L} (h : pb_meeting a f b t x9 h I L x I2 L2) : I2 97 5 = I 97 5 := by
  unfold pb_meeting at h
  exact h.1 97 5 (by omega) (by omega) (by omega) (by omega) (by omega) (by omega) (by omega)

theorem ek_meeting_137_0 {a f b t x9 h x : Int32} {I I2 : px_I} {L L2 : px_L} (h : pk_meeting a f b t x9 h I L x I2 L2) : I2 137 0 = I 137 0 := by
  unfold pk_meeting at h
  exact h.1 137 0 (by omega) (by omega) (by omega)

theorem ek_meeting_137_1 {a f b t x9 h x : Int32} {I I2 : px_I} {L L2 : px_L} (h : pk_meeting a f b t x9 h I L x I2 L2) : I2 137 1 = I 137 1 := by
  unfold pk_meeting at h
  exact h.1 137 1 (by omega) (by omega) (by omega)

theorem ek_meeting_137_2 {a f b t x9 h x : Int32} {I I2 : px_I} {L L2 : px_L} (h : pk_meeting a f b t x9 h I L x I2 L2) : I2 137 2 = I 137 2 := by
  unfold pk_meeting at h
  exact h.1 137 2 (by omega) (by omega) (by omega)

theorem ek_meeting_103_59 {a f b t x9 h x : Int32} {I I2 : px_I} {L L2 : px_L} (h : pk_meeting a f b t x9 h I L x I2 L2) : I2 103 59 = I 103 59 := by
  unfold pk_meeting at h
  exact h.1 103 59 (by omega) (by omega) (by omega)

theorem ek_meeting_103_60 {a f b t x9 h x : Int32} {I I2 : px_I} {L L2 : px_L} (h : pk_meeting a f b t x9 h I L x I2 L2) : I2 103 60 = I 103 60 := by
  unfold pk_meeting at h
  exact h.1 103 60 (by omega) (by omega) (by omega)

theorem ek_meeting_103_61 {a f b t x9 h x : Int32} {I I2 : px_I} {L L2 : px_L} (h : pk_meeting a f b t x9 h I L x I2 L2) : I2 103 61 = I 103 61 := by
  unfold pk_meeting at h
  exact h.1 103 61 (by omega) (by omega) (by omega)

theorem eb_there_98_0 {a lo hi x : Int32} {I I2 : px_I} {L L2 : px_L} (h : pb_there a lo hi I L x I2 L2) : I2 98 0 = I 98 0 := by
  unfold pb_there at h
  obtain ⟨rfl, h⟩ := h
  rcases h with ⟨a1, rfl, rfl⟩ | ⟨a1, rfl, rfl⟩
  · (repeat rw [px_u_out (by omega)])
  · rfl

theorem eb_there_98_1 {a lo hi x : Int32} {I I2 : px_I} {L L2 : px_L} (h : pb_there a lo hi I L x I2 L2) : I2 98 1 = I 98 1 := by
  unfold pb_there at h
  obtain ⟨rfl, h⟩ := h
  rcases h with ⟨a1, rfl, rfl⟩ | ⟨a1, rfl, rfl⟩
  · (repeat rw [px_u_out (by omega)])
  · rfl

theorem eb_there_98_2 {a lo hi x : Int32} {I I2 : px_I} {L L2 : px_L} (h : pb_there a lo hi I L x I2 L2) : I2 98 2 = I 98 2 := by
  unfold pb_there at h
  obtain ⟨rfl, h⟩ := h
  rcases h with ⟨a1, rfl, rfl⟩ | ⟨a1, rfl, rfl⟩
  · (repeat rw [px_u_out (by omega)])
  · rfl

theorem eb_there_97_3 {a lo hi x : Int32} {I I2 : px_I} {L L2 : px_L} (h : pb_there a lo hi I L x I2 L2) : I2 97 3 = I 97 3 := by
  unfold pb_there at h
  obtain ⟨rfl, h⟩ := h
  rcases h with ⟨a1, rfl, rfl⟩ | ⟨a1, rfl, rfl⟩
  · (repeat rw [px_u_out (by omega)])
  · rfl

theorem eb_there_97_4 {a lo hi x : Int32} {I I2 : px_I} {L L2 : px_L} (h : pb_there a lo hi I L x I2 L2) : I2 97 4 = I 97 4 := by
  unfold pb_there at h
  obtain ⟨rfl, h⟩ := h
  rcases h with ⟨a1, rfl, rfl⟩ | ⟨a1, rfl, rfl⟩
  · (repeat rw [px_u_out (by omega)])
  · rfl

theorem eb_there_97_5 {a lo hi x : Int32} {I I2 : px_I} {L L2 : px_L} (h : pb_there a lo hi I L x I2 L2) : I2 97 5 = I 97 5 := by
  unfold pb_there at h
  obtain ⟨rfl, h⟩ := h
  rcases h with ⟨a1, rfl, rfl⟩ | ⟨a1, rfl, rfl⟩
  · (repeat rw [px_u_out (by omega)])
  · rfl

theorem ek_there_137_0 {a lo hi x : Int32} {I I2 : px_I} {L L2 : px_L} (h : pk_there a lo hi I L x I2 L2) : I2 137 0 = I 137 0 := by
  unfold pk_there at h
  obtain ⟨rfl, h⟩ := h
  rcases h with ⟨a1, rfl, rfl⟩ | ⟨a1, rfl, rfl⟩
  · (repeat rw [px_u_out (by omega)])
  · rfl

theorem ek_there_137_1 {a lo hi x : Int32} {I I2 : px_I} {L L2 : px_L} (h : pk_there a lo hi I L x I2 L2) : I2 137 1 = I 137 1 := by
  unfold pk_there at h
  obtain ⟨rfl, h⟩ := h
  rcases h with ⟨a1, rfl, rfl⟩ | ⟨a1, rfl, rfl⟩
  · (repeat rw [px_u_out (by omega)])
  · rfl

theorem ek_there_137_2 {a lo hi x : Int32} {I I2 : px_I} {L L2 : px_L} (h : pk_there a lo hi I L x I2 L2) : I2 137 2 = I 137 2 := by
  unfold pk_there at h
  obtain ⟨rfl, h⟩ := h
  rcases h with ⟨a1, rfl, rfl⟩ | ⟨a1, rfl, rfl⟩
  · (repeat rw [px_u_out (by omega)])
  · rfl

theorem ek_there_103_59 {a lo hi x : Int32} {I I2 : px_I} {L L2 : px_L} (h : pk_there a lo hi I L x I2 L2) : I2 103 59 = I 103 59 := by
  unfold pk_there at h
  obtain ⟨rfl, h⟩ := h
  rcases h with ⟨a1, rfl, rfl⟩ | ⟨a1, rfl, rfl⟩
  · (repeat rw [px_u_out (by omega)])
  · rfl

theorem ek_there_103_60 {a lo hi x : Int32} {I I2 : px_I} {L L2 : px_L} (h : pk_there a lo hi I L x I2 L2) : I2 103 60 = I 103 60 := by
  unfold pk_there at h
  obtain ⟨rfl, h⟩ := h
  rcases h with ⟨a1, rfl, rfl⟩ | ⟨a1, rfl, rfl⟩
  · (repeat rw [px_u_out (by omega)])
  · rfl

theorem ek_there_103_61 {a lo hi x : Int32} {I I2 : px_I} {L L2 : px_L} (h : pk_there a lo hi I L x I2 L2) : I2 103 61 = I 103 61 := by
  unfold pk_there at h
  obtain ⟨rfl, h⟩ := h
  rcases h with ⟨a1, rfl, rfl⟩ | ⟨a1, rfl, rfl⟩
  · (repeat rw [px_u_out (by omega)])
  · rfl

theorem eb_fits_98_0 {a f b t x : Int32} {I I2 : px_I} {L L2 : px_L} (h : pb_fits a f b t I L x I2 L2) : I2 98 0 = I 98 0 := by
  unfold pb_fits at h
  exact h.1 98 0 (by omega) (by omega) (by omega) (by omega) (by omega) (by omega) (by omega)

theorem eb_fits_98_1 {a f b t x : Int32} {I I2 : px_I} {L L2 : px_L} (h : pb_fits a f b t I L x I2 L2) : I2 98 1 = I 98 1 := by
  unfold pb_fits at h
  exact h.1 98 1 (by omega) (by omega) (by omega) (by omega) (by omega) (by omega) (by omega)

theorem eb_fits_98_2 {a f b t x : Int32} {I I2 : px_I} {L L2 : px_L} (h : pb_fits a f b t I L x I2 L2) : I2 98 2 = I 98 2 := by
  unfold pb_fits at h
  exact h.1 98 2 (by omega) (by omega) (by omega) (by omega) (by omega) (by omega) (by omega)

theorem eb_fits_97_3 {a f b t x : Int32} {I I2 : px_I} {L L2 : px_L} (h : pb_fits a f b t I L x I2 L2) : I2 97 3 = I 97 3 := by
  unfold pb_fits at h
  exact h.1 97 3 (by omega) (by omega) (by omega) (by omega) (by omega) (by omega) (by omega)

theorem eb_fits_97_4 {a f b t x : Int32} {I I2 : px_I} {L L2 : px_L} (h : pb_fits a f b t I L x I2 L2) : I2 97 4 = I 97 4 := by
  unfold pb_fits at h
  exact h.1 97 4 (by omega) (by omega) (by omega) (by omega) (by omega) (by omega) (by omega)

theorem eb_fits_97_5 {a f b t x : Int32} {I I2 : px_I} {L L2 : px_L} (h : pb_fits a f b t I L x I2 L2) : I2 97 5 = I 97 5 := by
  unfold pb_fits at h
  exact h.1 97 5 (by omega) (by omega) (by omega) (by omega) (by omega) (by omega) (by omega)

theorem ek_fits_137_0 {a f b t x : Int32} {I I2 : px_I} {L L2 : px_L} (h : pk_fits a f b t I L x I2 L2) : I2 137 0 = I 137 0 := by
  unfold pk_fits at h
  exact h.1 137 0 (by omega) (by omega) (by omega)

theorem ek_fits_137_1 {a f b t x : Int32} {I I2 : px_I} {L L2 : px_L} (h : pk_fits a f b t I L x I2 L2) : I2 137 1 = I 137 1 := by
  unfold pk_fits at h
  exact h.1 137 1 (by omega) (by omega) (by omega)

theorem ek_fits_137_2 {a f b t x : Int32} {I I2 : px_I} {L L2 : px_L} (h : pk_fits a f b t I L x I2 L2) : I2 137 2 = I 137 2 := by
  unfold pk_fits at h
  exact h.1 137 2 (by omega) (by omega) (by omega)

theorem ek_fits_103_59 {a f b t x : Int32} {I I2 : px_I} {L L2 : px_L} (h : pk_fits a f b t I L x I2 L2) : I2 103 59 = I 103 59 := by
  unfold pk_fits at h
  exact h.1 103 59 (by omega) (by omega) (by omega)

theorem ek_fits_103_60 {a f b t x : Int32} {I I2 : px_I} {L L2 : px_L} (h : pk_fits a f b t I L x I2 L2) : I2 103 60 = I 103 60 := by
  unfold pk_fits at h
  exact h.1 103 60 (by omega) (by omega) (by omega)

theorem ek_fits_103_61 {a f b t x : Int32} {I I2 : px_I} {L L2 : px_L} (h : pk_fits a f b t I L x I2 L2) : I2 103 61 = I 103 61 := by
  unfold pk_fits at h
  exact h.1 103 61 (by omega) (by omega) (by omega)

theorem eb_ways_98_0 {a f b t x9 x : Int32} {I I2 : px_I} {L L2 : px_L} (h : pb_ways a f b t x9 I L x I2 L2) : I2 98 0 = I 98 0 := by
  unfold pb_ways at h
  exact h.1 98 0 (by omega) (by omega) (by omega) (by omega) (by omega) (by omega) (by omega)

theorem eb_ways_98_1 {a f b t x9 x : Int32} {I I2 : px_I} {L L2 : px_L} (h : pb_ways a f b t x9 I L x I2 L2) : I2 98 1 = I 98 1 := by
  unfold pb_ways at h
  exact h.1 98 1 (by omega) (by omega) (by omega) (by omega) (by omega) (by omega) (by omega)

theorem eb_ways_98_2 {a f b t x9 x : Int32} {I I2 : px_I} {L L2 : px_L} (h : pb_ways a f b t x9 I L x I2 L2) : I2 98 2 = I 98 2 := by
  unfold pb_ways at h
  exact h.1 98 2 (by omega) (by omega) (by omega) (by omega) (by omega) (by omega) (by omega)

theorem eb_ways_97_3 {a f b t x9 x : Int32} {I I2 : px_I} {L L2 : px_L} (h : pb_ways a f b t x9 I L x I2 L2) : I2 97 3 = I 97 3 := by
  unfold pb_ways at h
  exact h.1 97 3 (by omega) (by omega) (by omega) (by omega) (by omega) (by omega) (by omega)

theorem eb_ways_97_4 {a f b t x9 x : Int32} {I I2 : px_I} {L L2 : px_L} (h : pb_ways a f b t x9 I L x I2 L2) : I2 97 4 = I 97 4 := by
  unfold pb_ways at h
  exact h.1 97 4 (by omega) (by omega) (by omega) (by omega) (by omega) (by omega) (by omega)

theorem eb_ways_97_5 {a f b t x9 x : Int32} {I I2 : px_I} {L L2 : px_L} (h : pb_ways a f b t x9 I L x I2 L2) : I2 97 5 = I 97 5 := by
  unfold pb_ways at h
  exact h.1 97 5 (by omega) (by omega) (by omega) (by omega) (by omega) (by omega) (by omega)

theorem ek_ways_137_0 {a f b t x9 x : Int32} {I I2 : px_I} {L L2 : px_L} (h : pk_ways a f b t x9 I L x I2 L2) : I2 137 0 = I 137 0 := by
  unfold pk_ways at h
  exact h.1 137 0 (by omega) (by omega) (by omega)

theorem ek_ways_137_1 {a f b t x9 x : Int32} {I I2 : px_I} {L L2 : px_L} (h : pk_ways a f b t x9 I L x I2 L2) : I2 137 1 = I 137 1 := by
  unfold pk_ways at h
  exact h.1 137 1 (by omega) (by omega) (by omega)

theorem ek_ways_137_2 {a f b t x9 x : Int32} {I I2 : px_I} {L L2 : px_L} (h : pk_ways a f b t x9 I L x I2 L2) : I2 137 2 = I 137 2 := by
  unfold pk_ways at h
  exact h.1 137 2 (by omega) (by omega) (by omega)

theorem ek_ways_103_59 {a f b t x9 x : Int32} {I I2 : px_I} {L L2 : px_L} (h : pk_ways a f b t x9 I L x I2 L2) : I2 103 59 = I 103 59 := by
  unfold pk_ways at h
  exact h.1 103 59 (by omega) (by omega) (by omega)

theorem ek_ways_103_60 {a f b t x9 x : Int32} {I I2 : px_I} {L L2 : px_L} (h : pk_ways a f b t x9 I L x I2 L2) : I2 103 60 = I 103 60 := by
  unfold pk_ways at h
  exact h.1 103 60 (by omega) (by omega) (by omega)

theorem ek_ways_103_61 {a f b t x9 x : Int32} {I I2 : px_I} {L L2 : px_L} (h : pk_ways a f b t x9 I L x I2 L2) : I2 103 61 = I 103 61 := by
  unfold pk_ways at h
  exact h.1 103 61 (by omega) (by omega) (by omega)

theorem eb_detour_98_0 {a o h x : Int32} {I I2 : px_I} {L L2 : px_L} (h : pb_detour a o h I L x I2 L2) : I2 98 0 = I 98 0 := by
  unfold pb_detour at h
  rw [h.1]

theorem eb_detour_98_1 {a o h x : Int32} {I I2 : px_I} {L L2 : px_L} (h : pb_detour a o h I L x I2 L2) : I2 98 1 = I 98 1 := by
  unfold pb_detour at h
  rw [h.1]

theorem eb_detour_98_2 {a o h x : Int32} {I I2 : px_I} {L L2 : px_L} (h : pb_detour a o h I L x I2 L2) : I2 98 2 = I 98 2 := by
  unfold pb_detour at h
  rw [h.1]

theorem eb_detour_97_3 {a o h x : Int32} {I I2 : px_I} {L L2 : px_L} (h : pb_detour a o h I L x I2 L2) : I2 97 3 = I 97 3 := by
  unfold pb_detour at h
  rw [h.1]

theorem eb_detour_97_4 {a o h x : Int32} {I I2 : px_I} {L L2 : px_L} (h : pb_detour a o h I L x I2 L2) : I2 97 4 = I 97 4 := by
  unfold pb_detour at h
  rw [h.1]

theorem eb_detour_97_5 {a o h x : Int32} {I I2 : px_I} {L L2 : px_L} (h : pb_detour a o h I L x I2 L2) : I2 97 5 = I 97 5 := by
  unfold pb_detour at h
  rw [h.1]

theorem ek_detour_137_0 {a o lo x : Int32} {I I2 : px_I} {L L2 : px_L} (h : pk_detour a o lo I L x I2 L2) : I2 137 0 = I 137 0 := by
  unfold pk_detour at h
  rw [h.1]

theorem ek_detour_137_1 {a o lo x : Int32} {I I2 : px_I} {L L2 : px_L} (h : pk_detour a o lo I L x I2 L2) : I2 137 1 = I 137 1 := by
  unfold pk_detour at h
  rw [h.1]

theorem ek_detour_137_2 {a o lo x : Int32} {I I2 : px_I} {L L2 : px_L} (h : pk_detour a o lo I L x I2 L2) : I2 137 2 = I 137 2 := by
  unfold pk_detour at h
  rw [h.1]

theorem ek_detour_103_59 {a o lo x : Int32} {I I2 : px_I} {L L2 : px_L} (h : pk_detour a o lo I L x I2 L2) : I2 103 59 = I 103 59 := by
  unfold pk_detour at h
  rw [h.1]

theorem ek_detour_103_60 {a o lo x : Int32} {I I2 : px_I} {L L2 : px_L} (h : pk_detour a o lo I L x I2 L2) : I2 103 60 = I 103 60 := by
  unfold pk_detour at h
  rw [h.1]

theorem ek_detour_103_61 {a o lo x : Int32} {I I2 : px_I} {L L2 : px_L} (h : pk_detour a o lo I L x I2 L2) : I2 103 61 = I 103 61 := by
  unfold pk_detour at h
  rw [h.1]

theorem eb_table_98_0 {c v x : Int32} {I I2 : px_I} {L L2 : px_L} (h : pb_table c v I L x I2 L2) : I2 98 0 = I 98 0 := by
  unfold pb_table at h
  obtain ⟨rfl, h⟩ := h
  rcases h with ⟨a1, rfl, rfl⟩ | ⟨a1, rfl, rfl⟩
  · (repeat rw [px_u_out (by omega)])
  · rfl

theorem eb_table_98_1 {c v x : Int32} {I I2 : px_I} {L L2 : px_L} (h : pb_table c v I L x I2 L2) : I2 98 1 = I 98 1 := by
  unfold pb_table at h
  obtain ⟨rfl, h⟩ := h
  rcases h with ⟨a1, rfl, rfl⟩ | ⟨a1, rfl, rfl⟩
  · (repeat rw [px_u_out (by omega)])
  · rfl

theorem eb_table_98_2 {c v x : Int32} {I I2 : px_I} {L L2 : px_L} (h : pb_table c v I L x I2 L2) : I2 98 2 = I 98 2 := by
  unfold pb_table at h
  obtain ⟨rfl, h⟩ := h
  rcases h with ⟨a1, rfl, rfl⟩ | ⟨a1, rfl, rfl⟩
  · (repeat rw [px_u_out (by omega)])
  · rfl

theorem eb_table_97_3 {c v x : Int32} {I I2 : px_I} {L L2 : px_L} (h : pb_table c v I L x I2 L2) : I2 97 3 = I 97 3 := by
  unfold pb_table at h
  obtain ⟨rfl, h⟩ := h
  rcases h with ⟨a1, rfl, rfl⟩ | ⟨a1, rfl, rfl⟩
  · (repeat rw [px_u_out (by omega)])
  · rfl

theorem eb_table_97_4 {c v x : Int32} {I I2 : px_I} {L L2 : px_L} (h : pb_table c v I L x I2 L2) : I2 97 4 = I 97 4 := by
  unfold pb_table at h
  obtain ⟨rfl, h⟩ := h
  rcases h with ⟨a1, rfl, rfl⟩ | ⟨a1, rfl, rfl⟩
  · (repeat rw [px_u_out (by omega)])
  · rfl

theorem eb_table_97_5 {c v x : Int32} {I I2 : px_I} {L L2 : px_L} (h : pb_table c v I L x I2 L2) : I2 97 5 = I 97 5 := by
  unfold pb_table at h
  obtain ⟨rfl, h⟩ := h
  rcases h with ⟨a1, rfl, rfl⟩ | ⟨a1, rfl, rfl⟩
  · (repeat rw [px_u_out (by omega)])
  · rfl

theorem ek_table_137_0 {c v x : Int32} {I I2 : px_I} {L L2 : px_L} (h : pk_table c v I L x I2 L2) : I2 137 0 = I 137 0 := by
  unfold pk_table at h
  obtain ⟨rfl, h⟩ := h
  rcases h with ⟨a1, rfl, rfl⟩ | ⟨a1, rfl, rfl⟩
  · (repeat rw [px_u_out (by omega)])
  · rfl

theorem ek_table_137_1 {c v x : Int32} {I I2 : px_I} {L L2 : px_L} (h : pk_table c v I L x I2 L2) : I2 137 1 = I 137 1 := by
  unfold pk_table at h
  obtain ⟨rfl, h⟩ := h
  rcases h with ⟨a1, rfl, rfl⟩ | ⟨a1, rfl, rfl⟩
  · (repeat rw [px_u_out (by omega)])
  · rfl

theorem ek_table_137_2 {c v x : Int32} {I I2 : px_I} {L L2 : px_L} (h : pk_table c v I L x I2 L2) : I2 137 2 = I 137 2 := by
  unfold pk_table at h
  obtain ⟨rfl, h⟩ := h
  rcases h with ⟨a1, rfl, rfl⟩ | ⟨a1, rfl, rfl⟩
  · (repeat rw [px_u_out (by omega)])
  · rfl

theorem ek_table_103_59 {c v x : Int32} {I I2 : px_I} {L L2 : px_L} (h : pk_table c v I L x I2 L2) : I2 103 59 = I 103 59 := by
  unfold pk_table at h
  obtain ⟨rfl, h⟩ := h
  rcases h with ⟨a1, rfl, rfl⟩ | ⟨a1, rfl, rfl⟩
  · (repeat rw [px_u_out (by omega)])
  · rfl

theorem ek_table_103_60 {c v x : Int32} {I I2 : px_I} {L L2 : px_L} (h : pk_table c v I L x I2 L2) : I2 103 60 = I 103 60 := by
  unfold pk_table at h
  obtain ⟨rfl, h⟩ := h
  rcases h with ⟨a1, rfl, rfl⟩ | ⟨a1, rfl, rfl⟩
  · (repeat rw [px_u_out (by omega)])
  · rfl

theorem ek_table_103_61 {c v x : Int32} {I I2 : px_I} {L L2 : px_L} (h : pk_table c v I L x I2 L2) : I2 103 61 = I 103 61 := by
  unfold pk_table at h
  obtain ⟨rfl, h⟩ := h
  rcases h with ⟨a1, rfl, rfl⟩ | ⟨a1, rfl, rfl⟩
  · (repeat rw [px_u_out (by omega)])
  · rfl

theorem eb_repair_98_0 {g p y x : Int32} {I I2 : px_I} {L L2 : px_L} (h : pb_repair g p y I L x I2 L2) : I2 98 0 = I 98 0 := by
  unfold pb_repair at h
  obtain ⟨rfl, h⟩ := h
  rcases h with ⟨G, g1, rfl, rfl⟩ | ⟨a1, rfl, rfl⟩
  · have g2 := g1.1
    have gG : G = 41 ∨ G = 55 := by unfold bG at g2; omega
    unfold cRep; (repeat rw [px_u_out (by omega)])
  · rfl

theorem eb_repair_98_1 {g p y x : Int32} {I I2 : px_I} {L L2 : px_L} (h : pb_repair g p y I L x I2 L2) : I2 98 1 = I 98 1 := by
  unfold pb_repair at h
  obtain ⟨rfl, h⟩ := h
  rcases h with ⟨G, g1, rfl, rfl⟩ | ⟨a1, rfl, rfl⟩
  · have g2 := g1.1
    have gG : G = 41 ∨ G = 55 := by unfold bG at g2; omega
    unfold cRep; (repeat rw [px_u_out (by omega)])
  · rfl

theorem eb_repair_98_2 {g p y x : Int32} {I I2 : px_I} {L L2 : px_L} (h : pb_repair g p y I L x I2 L2) : I2 98 2 = I 98 2 := by
  unfold pb_repair at h
  obtain ⟨rfl, h⟩ := h
  rcases h with ⟨G, g1, rfl, rfl⟩ | ⟨a1, rfl, rfl⟩
  · have g2 := g1.1
    have gG : G = 41 ∨ G = 55 := by unfold bG at g2; omega
    unfold cRep; (repeat rw [px_u_out (by omega)])
  · rfl

theorem eb_repair_97_3 {g p y x : Int32} {I I2 : px_I} {L L2 : px_L} (h : pb_repair g p y I L x I2 L2) : I2 97 3 = I 97 3 := by
  unfold pb_repair at h
  obtain ⟨rfl, h⟩ := h
  rcases h with ⟨G, g1, rfl, rfl⟩ | ⟨a1, rfl, rfl⟩
  · have g2 := g1.1
    have gG : G = 41 ∨ G = 55 := by unfold bG at g2; omega
    unfold cRep; (repeat rw [px_u_out (by omega)])
  · rfl

theorem eb_repair_97_4 {g p y x : Int32} {I I2 : px_I} {L L2 : px_L} (h : pb_repair g p y I L x I2 L2) : I2 97 4 = I 97 4 := by
  unfold pb_repair at h
  obtain ⟨rfl, h⟩ := h
  rcases h with ⟨G, g1, rfl, rfl⟩ | ⟨a1, rfl, rfl⟩
  · have g2 := g1.1
    have gG : G = 41 ∨ G = 55 := by unfold bG at g2; omega
    unfold cRep; (repeat rw [px_u_out (by omega)])
  · rfl

theorem eb_repair_97_5 {g p y x : Int32} {I I2 : px_I} {L L2 : px_L} (h : pb_repair g p y I L x I2 L2) : I2 97 5 = I 97 5 := by
  unfold pb_repair at h
  obtain ⟨rfl, h⟩ := h
  rcases h with ⟨G, g1, rfl, rfl⟩ | ⟨a1, rfl, rfl⟩
  · have g2 := g1.1
    have gG : G = 41 ∨ G = 55 := by unfold bG at g2; omega
    unfold cRep; (repeat rw [px_u_out (by omega)])
  · rfl

theorem ek_repair_137_0 {g p y x : Int32} {I I2 : px_I} {L L2 : px_L} (h : pk_repair g p y I L x I2 L2) : I2 137 0 = I 137 0 := by
  unfold pk_repair at h
  obtain ⟨rfl, h⟩ := h
  rcases h with ⟨a1, rfl, rfl⟩ | ⟨a1, rfl, rfl⟩
  · (repeat rw [px_u_out (by omega)])
  · rfl

theorem ek_repair_137_1 {g p y x : Int32} {I I2 : px_I} {L L2 : px_L} (h : pk_repair g p y I L x I2 L2) : I2 137 1 = I 137 1 := by
  unfold pk_repair at h
  obtain ⟨rfl, h⟩ := h
  rcases h with ⟨a1, rfl, rfl⟩ | ⟨a1, rfl, rfl⟩
  · (repeat rw [px_u_out (by omega)])
  · rfl

theorem ek_repair_137_2 {g p y x : Int32} {I I2 : px_I} {L L2 : px_L} (h : pk_repair g p y I L x I2 L2) : I2 137 2 = I 137 2 := by
  unfold pk_repair at h
  obtain ⟨rfl, h⟩ := h
  rcases h with ⟨a1, rfl, rfl⟩ | ⟨a1, rfl, rfl⟩
  · (repeat rw [px_u_out (by omega)])
  · rfl

theorem ek_repair_103_59 {g p y x : Int32} {I I2 : px_I} {L L2 : px_L} (h : pk_repair g p y I L x I2 L2) : I2 103 59 = I 103 59 := by
  unfold pk_repair at h
  obtain ⟨rfl, h⟩ := h
  rcases h with ⟨a1, rfl, rfl⟩ | ⟨a1, rfl, rfl⟩
  · (repeat rw [px_u_out (by omega)])
  · rfl

theorem ek_repair_103_60 {g p y x : Int32} {I I2 : px_I} {L L2 : px_L} (h : pk_repair g p y I L x I2 L2) : I2 103 60 = I 103 60 := by
  unfold pk_repair at h
  obtain ⟨rfl, h⟩ := h
  rcases h with ⟨a1, rfl, rfl⟩ | ⟨a1, rfl, rfl⟩
  · (repeat rw [px_u_out (by omega)])
  · rfl

theorem ek_repair_103_61 {g p y x : Int32} {I I2 : px_I} {L L2 : px_L} (h : pk_repair g p y I L x I2 L2) : I2 103 61 = I 103 61 := by
  unfold pk_repair at h
  obtain ⟨rfl, h⟩ := h
  rcases h with ⟨a1, rfl, rfl⟩ | ⟨a1, rfl, rfl⟩
  · (repeat rw [px_u_out (by omega)])
  · rfl

theorem eb_lime_98_0 {v x : Int32} {I I2 : px_I} {L L2 : px_L} (h : pb_lime v I L x I2 L2) : I2 98 0 = I 98 0 := by
  unfold pb_lime at h
  obtain ⟨rfl, h⟩ := h
  rcases h with ⟨a1, rfl, rfl⟩ | ⟨a1, rfl, rfl⟩
  · (repeat rw [px_u_out (by omega)])
  · rfl

theorem eb_lime_98_1 {v x : Int32} {I I2 : px_I} {L L2 : px_L} (h : pb_lime v I L x I2 L2) : I2 98 1 = I 98 1 := by
  unfold pb_lime at h
  obtain ⟨rfl, h⟩ := h
  rcases h with ⟨a1, rfl, rfl⟩ | ⟨a1, rfl, rfl⟩
  · (repeat rw [px_u_out (by omega)])
  · rfl

theorem eb_lime_98_2 {v x : Int32} {I I2 : px_I} {L L2 : px_L} (h : pb_lime v I L x I2 L2) : I2 98 2 = I 98 2 := by
  unfold pb_lime at h
  obtain ⟨rfl, h⟩ := h
  rcases h with ⟨a1, rfl, rfl⟩ | ⟨a1, rfl, rfl⟩
  · (repeat rw [px_u_out (by omega)])
  · rfl

theorem eb_lime_97_3 {v x : Int32} {I I2 : px_I} {L L2 : px_L} (h : pb_lime v I L x I2 L2) : I2 97 3 = I 97 3 := by
  unfold pb_lime at h
  obtain ⟨rfl, h⟩ := h
  rcases h with ⟨a1, rfl, rfl⟩ | ⟨a1, rfl, rfl⟩
  · (repeat rw [px_u_out (by omega)])
  · rfl

theorem eb_lime_97_4 {v x : Int32} {I I2 : px_I} {L L2 : px_L} (h : pb_lime v I L x I2 L2) : I2 97 4 = I 97 4 := by
  unfold pb_lime at h
  obtain ⟨rfl, h⟩ := h
  rcases h with ⟨a1, rfl, rfl⟩ | ⟨a1, rfl, rfl⟩
  · (repeat rw [px_u_out (by omega)])
  · rfl

theorem eb_lime_97_5 {v x : Int32} {I I2 : px_I} {L L2 : px_L} (h : pb_lime v I L x I2 L2) : I2 97 5 = I 97 5 := by
  unfold pb_lime at h
  obtain ⟨rfl, h⟩ := h
  rcases h with ⟨a1, rfl, rfl⟩ | ⟨a1, rfl, rfl⟩
  · (repeat rw [px_u_out (by omega)])
  · rfl

theorem ek_lime_137_0 {v x : Int32} {I I2 : px_I} {L L2 : px_L} (h : pk_lime v I L x I2 L2) : I2 137 0 = I 137 0 := by
  unfold pk_lime at h
  obtain ⟨rfl, h⟩ := h
  rcases h with ⟨a1, a2, rfl, rfl⟩ | ⟨a1, rfl, rfl⟩
  · (repeat rw [px_u_out (by omega)])
  · rfl

theorem ek_lime_137_1 {v x : Int32} {I I2 : px_I} {L L2 : px_L} (h : pk_lime v I L x I2 L2) : I2 137 1 = I 137 1 := by
  unfold pk_lime at h
  obtain ⟨rfl, h⟩ := h
  rcases h with ⟨a1, a2, rfl, rfl⟩ | ⟨a1, rfl, rfl⟩
  · (repeat rw [px_u_out (by omega)])
  · rfl

theorem ek_lime_137_2 {v x : Int32} {I I2 : px_I} {L L2 : px_L} (h : pk_lime v I L x I2 L2) : I2 137 2 = I 137 2 := by
  unfold pk_lime at h
  obtain ⟨rfl, h⟩ := h
  rcases h with ⟨a1, a2, rfl, rfl⟩ | ⟨a1, rfl, rfl⟩
  · (repeat rw [px_u_out (by omega)])
  · rfl

theorem ek_lime_103_59 {v x : Int32} {I I2 : px_I} {L L2 : px_L} (h : pk_lime v I L x I2 L2) : I2 103 59 = I 103 59 := by
  unfold pk_lime at h
  obtain ⟨rfl, h⟩ := h
  rcases h with ⟨a1, a2, rfl, rfl⟩ | ⟨a1, rfl, rfl⟩
  · (repeat rw [px_u_out (by omega)])
  · rfl

theorem ek_lime_103_60 {v x : Int32} {I I2 : px_I} {L L2 : px_L} (h : pk_lime v I L x I2 L2) : I2 103 60 = I 103 60 := by
  unfold pk_lime at h
  obtain ⟨rfl, h⟩ := h
  rcases h with ⟨a1, a2, rfl, rfl⟩ | ⟨a1, rfl, rfl⟩
  · (repeat rw [px_u_out (by omega)])
  · rfl

theorem ek_lime_103_61 {v x : Int32} {I I2 : px_I} {L L2 : px_L} (h : pk_lime v I L x I2 L2) : I2 103 61 = I 103 61 := by
  unfold pk_lime at h
  obtain ⟨rfl, h⟩ := h
  rcases h with ⟨a1, a2, rfl, rfl⟩ | ⟨a1, rfl, rfl⟩
  · (repeat rw [px_u_out (by omega)])
  · rfl

theorem eb_flow_98_0 {g y k h x : Int32} {I I2 : px_I} {L L2 : px_L} (h : pb_flow g y k h I L x I2 L2) : I2 98 0 = I 98 0 := by
  unfold pb_flow at h
  exact h.1 98 0 (by omega)

theorem eb_flow_98_1 {g y k h x : Int32} {I I2 : px_I} {L L2 : px_L} (h : pb_flow g y k h I L x I2 L2) : I2 98 1 = I 98 1 := by
  unfold pb_flow at h
  exact h.1 98 1 (by omega)

theorem eb_flow_98_2 {g y k h x : Int32} {I I2 : px_I} {L L2 : px_L} (h : pb_flow g y k h I L x I2 L2) : I2 98 2 = I 98 2 := by
  unfold pb_flow at h
  exact h.1 98 2 (by omega)

theorem eb_flow_97_3 {g y k h x : Int32} {I I2 : px_I} {L L2 : px_L} (h : pb_flow g y k h I L x I2 L2) : I2 97 3 = I 97 3 := by
  unfold pb_flow at h
  exact h.1 97 3 (by omega)

theorem eb_flow_97_4 {g y k h x : Int32} {I I2 : px_I} {L L2 : px_L} (h : pb_flow g y k h I L x I2 L2) : I2 97 4 = I 97 4 := by
  unfold pb_flow at h
  exact h.1 97 4 (by omega)

theorem eb_flow_97_5 {g y k h x : Int32} {I I2 : px_I} {L L2 : px_L} (h : pb_flow g y k h I L x I2 L2) : I2 97 5 = I 97 5 := by
  unfold pb_flow at h
  exact h.1 97 5 (by omega)

theorem ek_flow_137_0 {g y k h x : Int32} {I I2 : px_I} {L L2 : px_L} (h : pk_flow g y k h I L x I2 L2) : I2 137 0 = I 137 0 := by
  unfold pk_flow at h
  exact h.1 137 0 (by omega)

theorem ek_flow_137_1 {g y k h x : Int32} {I I2 : px_I} {L L2 : px_L} (h : pk_flow g y k h I L x I2 L2) : I2 137 1 = I 137 1 := by
  unfold pk_flow at h
  exact h.1 137 1 (by omega)

theorem ek_flow_137_2 {g y k h x : Int32} {I I2 : px_I} {L L2 : px_L} (h : pk_flow g y k h I L x I2 L2) : I2 137 2 = I 137 2 := by
  unfold pk_flow at h
  exact h.1 137 2 (by omega)

theorem ek_flow_103_59 {g y k h x : Int32} {I I2 : px_I} {L L2 : px_L} (h : pk_flow g y k h I L x I2 L2) : I2 103 59 = I 103 59 := by
  unfold pk_flow at h
  exact h.1 103 59 (by omega)

theorem ek_flow_103_60 {g y k h x : Int32} {I I2 : px_I} {L L2 : px_L} (h : pk_flow g y k h I L x I2 L2) : I2 103 60 = I 103 60 := by
  unfold pk_flow at h
  exact h.1 103 60 (by omega)

theorem ek_flow_103_61 {g y k h x : Int32} {I I2 : px_I} {L L2 : px_L} (h : pk_flow g y k h I L x I2 L2) : I2 103 61 = I 103 61 := by
  unfold pk_flow at h
  exact h.1 103 61 (by omega)

theorem eb_narrow_98_0 {g y k x : Int32} {I I2 : px_I} {L L2 : px_L} (h : pb_narrow g y k I L x I2 L2) : I2 98 0 = I 98 0 := by
  unfold pb_narrow at h
  exact h.1 98 0 (by omega)

theorem eb_narrow_98_1 {g y k x : Int32} {I I2 : px_I} {L L2 : px_L} (h : pb_narrow g y k I L x I2 L2) : I2 98 1 = I 98 1 := by
  unfold pb_narrow at h
  exact h.1 98 1 (by omega)

theorem eb_narrow_98_2 {g y k x : Int32} {I I2 : px_I} {L L2 : px_L} (h : pb_narrow g y k I L x I2 L2) : I2 98 2 = I 98 2 := by
  unfold pb_narrow at h
  exact h.1 98 2 (by omega)

theorem eb_narrow_97_3 {g y k x : Int32} {I I2 : px_I} {L L2 : px_L} (h : pb_narrow g y k I L x I2 L2) : I2 97 3 = I 97 3 := by
  unfold pb_narrow at h
  exact h.1 97 3 (by omega)

theorem eb_narrow_97_4 {g y k x : Int32} {I I2 : px_I} {L L2 : px_L} (h : pb_narrow g y k I L x I2 L2) : I2 97 4 = I 97 4 := by
  unfold pb_narrow at h
  exact h.1 97 4 (by omega)

theorem eb_narrow_97_5 {g y k x : Int32} {I I2 : px_I} {L L2 : px_L} (h : pb_narrow g y k I L x I2 L2) : I2 97 5 = I 97 5 := by
  unfold pb_narrow at h
  exact h.1 97 5 (by omega)

theorem ek_narrow_137_0 {g y k x : Int32} {I I2 : px_I} {L L2 : px_L} (h : pk_narrow g y k I L x I2 L2) : I2 137 0 = I 137 0 := by
  unfold pk_narrow at h
  exact h.1 137 0 (by omega)

theorem ek_narrow_137_1 {g y k x : Int32} {I I2 : px_I} {L L2 : px_L} (h : pk_narrow g y k I L x I2 L2) : I2 137 1 = I 137 1 := by
  unfold pk_narrow at h
  exact h.1 137 1 (by omega)

theorem ek_narrow_137_2 {g y k x : Int32} {I I2 : px_I} {L L2 : px_L} (h : pk_narrow g y k I L x I2 L2) : I2 137 2 = I 137 2 := by
  unfold pk_narrow at h
  exact h.1 137 2 (by omega)

theorem ek_narrow_103_59 {g y k x : Int32} {I I2 : px_I} {L L2 : px_L} (h : pk_narrow g y k I L x I2 L2) : I2 103 59 = I 103 59 := by
  unfold pk_narrow at h
  exact h.1 103 59 (by omega)

theorem ek_narrow_103_60 {g y k x : Int32} {I I2 : px_I} {L L2 : px_L} (h : pk_narrow g y k I L x I2 L2) : I2 103 60 = I 103 60 := by
  unfold pk_narrow at h
  exact h.1 103 60 (by omega)

theorem ek_narrow_103_61 {g y k x : Int32} {I I2 : px_I} {L L2 : px_L} (h : pk_narrow g y k I L x I2 L2) : I2 103 61 = I 103 61 := by
  unfold pk_narrow at h
  exact h.1 103 61 (by omega)

theorem eb_about_98_0 {w x : Int32} {I I2 : px_I} {L L2 : px_L} (h : pb_about w I L x I2 L2) : I2 98 0 = I 98 0 := by
  unfold pb_about at h
  rw [h.1]

theorem eb_about_98_1 {w x : Int32} {I I2 : px_I} {L L2 : px_L} (h : pb_about w I L x I2 L2) : I2 98 1 = I 98 1 := by
  unfold pb_about at h
  rw [h.1]

theorem eb_about_98_2 {w x : Int32} {I I2 : px_I} {L L2 : px_L} (h : pb_about w I L x I2 L2) : I2 98 2 = I 98 2 := by
  unfold pb_about at h
  rw [h.1]

theorem eb_about_97_3 {w x : Int32} {I I2 : px_I} {L L2 : px_L} (h : pb_about w I L x I2 L2) : I2 97 3 = I 97 3 := by
  unfold pb_about at h
  rw [h.1]

theorem eb_about_97_4 {w x : Int32} {I I2 : px_I} {L L2 : px_L} (h : pb_about w I L x I2 L2) : I2 97 4 = I 97 4 := by
  unfold pb_about at h
  rw [h.1]

theorem eb_about_97_5 {w x : Int32} {I I2 : px_I} {L L2 : px_L} (h : pb_about w I L x I2 L2) : I2 97 5 = I 97 5 := by
  unfold pb_about at h
  rw [h.1]

theorem ek_about_137_0 {w x : Int32} {I I2 : px_I} {L L2 : px_L} (h : pk_about w I L x I2 L2) : I2 137 0 = I 137 0 := by
  unfold pk_about at h
  rw [h.1]

theorem ek_about_137_1 {w x : Int32} {I I2 : px_I} {L L2 : px_L} (h : pk_about w I L x I2 L2) : I2 137 1 = I 137 1 := by
  unfold pk_about at h
  rw [h.1]

theorem ek_about_137_2 {w x : Int32} {I I2 : px_I} {L L2 : px_L} (h : pk_about w I L x I2 L2) : I2 137 2 = I 137 2 := by
  unfold pk_about at h
  rw [h.1]

theorem ek_about_103_59 {w x : Int32} {I I2 : px_I} {L L2 : px_L} (h : pk_about w I L x I2 L2) : I2 103 59 = I 103 59 := by
  unfold pk_about at h
  rw [h.1]

theorem ek_about_103_60 {w x : Int32} {I I2 : px_I} {L L2 : px_L} (h : pk_about w I L x I2 L2) : I2 103 60 = I 103 60 := by
  unfold pk_about at h
  rw [h.1]

theorem ek_about_103_61 {w x : Int32} {I I2 : px_I} {L L2 : px_L} (h : pk_about w I L x I2 L2) : I2 103 61 = I 103 61 := by
  unfold pk_about at h
  rw [h.1]

def rel (I : px_I) (L : px_L) : Prop := I 98 0 = I 137 0 ∧ I 98 1 = I 137 1 ∧ I 98 2 = I 137 2 ∧ I 97 3 = I 103 59 ∧ I 97 4 = I 103 60 ∧ I 97 5 = I 103 61

theorem rel_hx {n : Nat} {I : px_I} {L : px_L} {R : px_R} (hj : jJ n I R) (hr : rel I L) : cW I := (by have hW := hj.m.2.2.2.2.1; obtain ⟨s0, s1, s2, s3, s4, s5⟩ := hr; unfold mW at hW; unfold cW; rw [s0, s1, s2, s4, s5]; exact ⟨hW.1, hW.2.1, hW.2.2.1, hW.2.2.2.1, hW.2.2.2.2.2.1, hW.2.2.2.2.2.2⟩)

theorem rel.days {v0 : Int32} {x y : Int32} {n : Nat} {I I2 I3 : px_I} {L L2 L3 : px_L} {R : px_R} (hj : jJ n I R) (hr : rel I L) (f1 : frB I I2 L L2) (p1 : pb_days v0 I L x I2 L2) (f2 : frK I2 I3 L2 L3) (p2 : pk_days v0 I2 L2 y I3 L3) : rel I3 L3 := by
  have f_98_0 : I3 98 0 = I 98 0 := by rw [f2.1 98 (by omega), eb_days_98_0 p1]
  have f_98_1 : I3 98 1 = I 98 1 := by rw [f2.1 98 (by omega), eb_days_98_1 p1]
  have f_98_2 : I3 98 2 = I 98 2 := by rw [f2.1 98 (by omega), eb_days_98_2 p1]
  have f_97_3 : I3 97 3 = I 97 3 := by rw [f2.1 97 (by omega), eb_days_97_3 p1]
  have f_97_4 : I3 97 4 = I 97 4 := by rw [f2.1 97 (by omega), eb_days_97_4 p1]
  have f_97_5 : I3 97 5 = I 97 5 := by rw [f2.1 97 (by omega), eb_days_97_5 p1]
  have f_137_0 : I3 137 0 = I 137 0 := by rw [ek_days_137_0 p2, f1.1 137 (by omega) (by omega)]
  have f_137_1 : I3 137 1 = I 137 1 := by rw [ek_days_137_1 p2, f1.1 137 (by omega) (by omega)]
  have f_137_2 : I3 137 2 = I 137 2 := by rw [ek_days_137_2 p2, f1.1 137 (by omega) (by omega)]
  have f_103_59 : I3 103 59 = I 103 59 := by rw [ek_days_103_59 p2, f1.1 103 (by omega) (by omega)]
  have f_103_60 : I3 103 60 = I 103 60 := by rw [ek_days_103_60 p2, f1.1 103 (by omega) (by omega)]
  have f_103_61 : I3 103 61 = I 103 61 := by rw [ek_days_103_61 p2, f1.1 103 (by omega) (by omega)]
  exact (by unfold rel; rw [f_98_0, f_98_1, f_98_2, f_97_3, f_97_4, f_97_5, f_137_0, f_137_1, f_137_2, f_103_59, f_103_60, f_103_61]; exact hr)

theorem rel.station {x y : Int32} {n : Nat} {I I2 I3 : px_I} {L L2 L3 : px_L} {R : px_R} (hj : jJ n I R) (hr : rel I L) (f1 : frB I I2 L L2) (p1 : pb_station  I L x I2 L2) (f2 : frK I2 I3 L2 L3) (p2 : pk_station  I2 L2 y I3 L3) : rel I3 L3 := by
  have f_98_0 : I3 98 0 = I 98 0 := by rw [f2.1 98 (by omega), eb_station_98_0 p1]
  have f_98_1 : I3 98 1 = I 98 1 := by rw [f2.1 98 (by omega), eb_station_98_1 p1]
  have f_98_2 : I3 98 2 = I 98 2 := by rw [f2.1 98 (by omega), eb_station_98_2 p1]
  have f_97_3 : I3 97 3 = I 97 3 := by rw [f2.1 97 (by omega), eb_station_97_3 p1]
  have f_97_4 : I3 97 4 = I 97 4 := by rw [f2.1 97 (by omega), eb_station_97_4 p1]
  have f_97_5 : I3 97 5 = I 97 5 := by rw [f2.1 97 (by omega), eb_station_97_5 p1]
  have f_137_0 : I3 137 0 = I 137 0 := by rw [ek_station_137_0 p2, f1.1 137 (by omega) (by omega)]
  have f_137_1 : I3 137 1 = I 137 1 := by rw [ek_station_137_1 p2, f1.1 137 (by omega) (by omega)]
  have f_137_2 : I3 137 2 = I 137 2 := by rw [ek_station_137_2 p2, f1.1 137 (by omega) (by omega)]
  have f_103_59 : I3 103 59 = I 103 59 := by rw [ek_station_103_59 p2, f1.1 103 (by omega) (by omega)]
  have f_103_60 : I3 103 60 = I 103 60 := by rw [ek_station_103_60 p2, f1.1 103 (by omega) (by omega)]
  have f_103_61 : I3 103 61 = I 103 61 := by rw [ek_station_103_61 p2, f1.1 103 (by omega) (by omega)]
  exact (by unfold rel; rw [f_98_0, f_98_1, f_98_2, f_97_3, f_97_4, f_97_5, f_137_0, f_137_1, f_137_2, f_103_59, f_103_60, f_103_61]; exact hr)

theorem rel.sight {v0 v1 v2 v3 v4 : Int32} {x y : Int32} {n : Nat} {I I2 I3 : px_I} {L L2 L3 : px_L} {R : px_R} (hj : jJ n I R) (hr : rel I L) (f1 : frB I I2 L L2) (p1 : pb_sight v0 v1 v2 v3 v4 I L x I2 L2) (f2 : frK I2 I3 L2 L3) (p2 : pk_sight v0 v1 v2 v3 v4 I2 L2 y I3 L3) : rel I3 L3 := by
  have f_98_0 : I3 98 0 = I 98 0 := by rw [f2.1 98 (by omega), eb_sight_98_0 p1]
  have f_98_1 : I3 98 1 = I 98 1 := by rw [f2.1 98 (by omega), eb_sight_98_1 p1]
  have f_98_2 : I3 98 2 = I 98 2 := by rw [f2.1 98 (by omega), eb_sight_98_2 p1]
  have f_97_3 : I3 97 3 = I 97 3 := by rw [f2.1 97 (by omega), eb_sight_97_3 p1]
  have f_97_4 : I3 97 4 = I 97 4 := by rw [f2.1 97 (by omega), eb_sight_97_4 p1]
  have f_97_5 : I3 97 5 = I 97 5 := by rw [f2.1 97 (by omega), eb_sight_97_5 p1]
  have f_137_0 : I3 137 0 = I 137 0 := by rw [ek_sight_137_0 p2, f1.1 137 (by omega) (by omega)]
  have f_137_1 : I3 137 1 = I 137 1 := by rw [ek_sight_137_1 p2, f1.1 137 (by omega) (by omega)]
  have f_137_2 : I3 137 2 = I 137 2 := by rw [ek_sight_137_2 p2, f1.1 137 (by omega) (by omega)]
  have f_103_59 : I3 103 59 = I 103 59 := by rw [ek_sight_103_59 p2, f1.1 103 (by omega) (by omega)]
  have f_103_60 : I3 103 60 = I 103 60 := by rw [ek_sight_103_60 p2, f1.1 103 (by omega) (by omega)]
  have f_103_61 : I3 103 61 = I 103 61 := by rw [ek_sight_103_61 p2, f1.1 103 (by omega) (by omega)]
  exact (by unfold rel; rw [f_98_0, f_98_1, f_98_2, f_97_3, f_97_4, f_97_5, f_137_0, f_137_1, f_137_2, f_103_59, f_103_60, f_103_61]; exact hr)

theorem rel.closed {v0 v1 : Int32} {x y : Int32} {n : Nat} {I I2 I3 : px_I} {L L2 L3 : px_L} {R : px_R} (hj : jJ n I R) (hr : rel I L) (f1 : frB I I2 L L2) (p1 : pb_closed v0 v1 I L x I2 L2) (f2 : frK I2 I3 L2 L3) (p2 : pk_closed v0 v1 I2 L2 y I3 L3) : rel I3 L3 := by
  have f_98_0 : I3 98 0 = I 98 0 := by rw [f2.1 98 (by omega), eb_closed_98_0 p1]
  have f_98_1 : I3 98 1 = I 98 1 := by rw [f2.1 98 (by omega), eb_closed_98_1 p1]
  have f_98_2 : I3 98 2 = I 98 2 := by rw [f2.1 98 (by omega), eb_closed_98_2 p1]
  have f_97_3 : I3 97 3 = I 97 3 := by rw [f2.1 97 (by omega), eb_closed_97_3 p1]
  have f_97_4 : I3 97 4 = I 97 4 := by rw [f2.1 97 (by omega), eb_closed_97_4 p1]
  have f_97_5 : I3 97 5 = I 97 5 := by rw [f2.1 97 (by omega), eb_closed_97_5 p1]
  have f_137_0 : I3 137 0 = I 137 0 := by rw [ek_closed_137_0 p2, f1.1 137 (by omega) (by omega)]
  have f_137_1 : I3 137 1 = I 137 1 := by rw [ek_closed_137_1 p2, f1.1 137 (by omega) (by omega)]
  have f_137_2 : I3 137 2 = I 137 2 := by rw [ek_closed_137_2 p2, f1.1 137 (by omega) (by omega)]
  have f_103_59 : I3 103 59 = I 103 59 := by rw [ek_closed_103_59 p2, f1.1 103 (by omega) (by omega)]
  have f_103_60 : I3 103 60 = I 103 60 := by rw [ek_closed_103_60 p2, f1.1 103 (by omega) (by omega)]
  have f_103_61 : I3 103 61 = I 103 61 := by rw [ek_closed_103_61 p2, f1.1 103 (by omega) (by omega)]
  exact (by unfold rel; rw [f_98_0, f_98_1, f_98_2, f_97_3, f_97_4, f_97_5, f_137_0, f_137_1, f_137_2, f_103_59, f_103_60, f_103_61]; exact hr)

theorem rel.span {v0 v1 v2 v3 : Int32} {x y : Int32} {n : Nat} {I I2 I3 : px_I} {L L2 L3 : px_L} {R : px_R} (hj : jJ n I R) (hr : rel I L) (f1 : frB I I2 L L2) (p1 : pb_span v0 v1 v2 v3 I L x I2 L2) (f2 : frK I2 I3 L2 L3) (p2 : pk_span v0 v1 v2 v3 I2 L2 y I3 L3) : rel I3 L3 := by
  have f_98_0 : I3 98 0 = I 98 0 := by rw [f2.1 98 (by omega), eb_span_98_0 p1]
  have f_98_1 : I3 98 1 = I 98 1 := by rw [f2.1 98 (by omega), eb_span_98_1 p1]
  have f_98_2 : I3 98 2 = I 98 2 := by rw [f2.1 98 (by omega), eb_span_98_2 p1]
  have f_97_3 : I3 97 3 = I 97 3 := by rw [f2.1 97 (by omega), eb_span_97_3 p1]
  have f_97_4 : I3 97 4 = I 97 4 := by rw [f2.1 97 (by omega), eb_span_97_4 p1]
  have f_97_5 : I3 97 5 = I 97 5 := by rw [f2.1 97 (by omega), eb_span_97_5 p1]
  have f_137_0 : I3 137 0 = I 137 0 := by rw [ek_span_137_0 p2, f1.1 137 (by omega) (by omega)]
  have f_137_1 : I3 137 1 = I 137 1 := by rw [ek_span_137_1 p2, f1.1 137 (by omega) (by omega)]
  have f_137_2 : I3 137 2 = I 137 2 := by rw [ek_span_137_2 p2, f1.1 137 (by omega) (by omega)]
  have f_103_59 : I3 103 59 = I 103 59 := by rw [ek_span_103_59 p2, f1.1 103 (by omega) (by omega)]
  have f_103_60 : I3 103 60 = I 103 60 := by rw [ek_span_103_60 p2, f1.1 103 (by omega) (by omega)]
  have f_103_61 : I3 103 61 = I 103 61 := by rw [ek_span_103_61 p2, f1.1 103 (by omega) (by omega)]
  exact (by unfold rel; rw [f_98_0, f_98_1, f_98_2, f_97_3, f_97_4, f_97_5, f_137_0, f_137_1, f_137_2, f_103_59, f_103_60, f_103_61]; exact hr)

theorem rel.gap {v0 v1 v2 v3 v4 : Int32} {x y : Int32} {n : Nat} {I I2 I3 : px_I} {L L2 L3 : px_L} {R : px_R} (hj : jJ n I R) (hr : rel I L) (f1 : frB I I2 L L2) (p1 : pb_gap v0 v1 v2 v3 v4 I L x I2 L2) (f2 : frK I2 I3 L2 L3) (p2 : pk_gap v0 v1 v2 v3 v4 I2 L2 y I3 L3) : rel I3 L3 := by
  have f_98_0 : I3 98 0 = I 98 0 := by rw [f2.1 98 (by omega), eb_gap_98_0 p1]
  have f_98_1 : I3 98 1 = I 98 1 := by rw [f2.1 98 (by omega), eb_gap_98_1 p1]
  have f_98_2 : I3 98 2 = I 98 2 := by rw [f2.1 98 (by omega), eb_gap_98_2 p1]
  have f_97_3 : I3 97 3 = I 97 3 := by rw [f2.1 97 (by omega), eb_gap_97_3 p1]
  have f_97_4 : I3 97 4 = I 97 4 := by rw [f2.1 97 (by omega), eb_gap_97_4 p1]
  have f_97_5 : I3 97 5 = I 97 5 := by rw [f2.1 97 (by omega), eb_gap_97_5 p1]
  have f_137_0 : I3 137 0 = I 137 0 := by rw [ek_gap_137_0 p2, f1.1 137 (by omega) (by omega)]
  have f_137_1 : I3 137 1 = I 137 1 := by rw [ek_gap_137_1 p2, f1.1 137 (by omega) (by omega)]
  have f_137_2 : I3 137 2 = I 137 2 := by rw [ek_gap_137_2 p2, f1.1 137 (by omega) (by omega)]
  have f_103_59 : I3 103 59 = I 103 59 := by rw [ek_gap_103_59 p2, f1.1 103 (by omega) (by omega)]
  have f_103_60 : I3 103 60 = I 103 60 := by rw [ek_gap_103_60 p2, f1.1 103 (by omega) (by omega)]
  have f_103_61 : I3 103 61 = I 103 61 := by rw [ek_gap_103_61 p2, f1.1 103 (by omega) (by omega)]
  exact (by unfold rel; rw [f_98_0, f_98_1, f_98_2, f_97_3, f_97_4, f_97_5, f_137_0, f_137_1, f_137_2, f_103_59, f_103_60, f_103_61]; exact hr)

theorem rel.blamed {v0 v1 v2 : Int32} {x y : Int32} {n : Nat} {I I2 I3 : px_I} {L L2 L3 : px_L} {R : px_R} (hj : jJ n I R) (hr : rel I L) (f1 : frB I I2 L L2) (p1 : pb_blamed v0 v1 v2 I L x I2 L2) (f2 : frK I2 I3 L2 L3) (p2 : pk_blamed v0 v1 v2 I2 L2 y I3 L3) : rel I3 L3 := by
  have f_98_0 : I3 98 0 = I 98 0 := by rw [f2.1 98 (by omega), eb_blamed_98_0 p1]
  have f_98_1 : I3 98 1 = I 98 1 := by rw [f2.1 98 (by omega), eb_blamed_98_1 p1]
  have f_98_2 : I3 98 2 = I 98 2 := by rw [f2.1 98 (by omega), eb_blamed_98_2 p1]
  have f_97_3 : I3 97 3 = I 97 3 := by rw [f2.1 97 (by omega), eb_blamed_97_3 p1]
  have f_97_4 : I3 97 4 = I 97 4 := by rw [f2.1 97 (by omega), eb_blamed_97_4 p1]
  have f_97_5 : I3 97 5 = I 97 5 := by rw [f2.1 97 (by omega), eb_blamed_97_5 p1]
  have f_137_0 : I3 137 0 = I 137 0 := by rw [ek_blamed_137_0 p2, f1.1 137 (by omega) (by omega)]
  have f_137_1 : I3 137 1 = I 137 1 := by rw [ek_blamed_137_1 p2, f1.1 137 (by omega) (by omega)]
  have f_137_2 : I3 137 2 = I 137 2 := by rw [ek_blamed_137_2 p2, f1.1 137 (by omega) (by omega)]
  have f_103_59 : I3 103 59 = I 103 59 := by rw [ek_blamed_103_59 p2, f1.1 103 (by omega) (by omega)]
  have f_103_60 : I3 103 60 = I 103 60 := by rw [ek_blamed_103_60 p2, f1.1 103 (by omega) (by omega)]
  have f_103_61 : I3 103 61 = I 103 61 := by rw [ek_blamed_103_61 p2, f1.1 103 (by omega) (by omega)]
  exact (by unfold rel; rw [f_98_0, f_98_1, f_98_2, f_97_3, f_97_4, f_97_5, f_137_0, f_137_1, f_137_2, f_103_59, f_103_60, f_103_61]; exact hr)

theorem rel.reach {v0 v1 v2 v3 v4 v5 v6 : Int32} {x y : Int32} {n : Nat} {I I2 I3 : px_I} {L L2 L3 : px_L} {R : px_R} (hj : jJ n I R) (hr : rel I L) (f1 : frB I I2 L L2) (p1 : pb_reach v0 v1 v2 v3 v4 v5 v6 I L x I2 L2) (f2 : frK I2 I3 L2 L3) (p2 : pk_reach v0 v1 v2 v3 v4 v5 v6 I2 L2 y I3 L3) : rel I3 L3 := by
  have f_98_0 : I3 98 0 = I 98 0 := by rw [f2.1 98 (by omega), eb_reach_98_0 p1]
  have f_98_1 : I3 98 1 = I 98 1 := by rw [f2.1 98 (by omega), eb_reach_98_1 p1]
  have f_98_2 : I3 98 2 = I 98 2 := by rw [f2.1 98 (by omega), eb_reach_98_2 p1]
  have f_97_3 : I3 97 3 = I 97 3 := by rw [f2.1 97 (by omega), eb_reach_97_3 p1]
  have f_97_4 : I3 97 4 = I 97 4 := by rw [f2.1 97 (by omega), eb_reach_97_4 p1]
  have f_97_5 : I3 97 5 = I 97 5 := by rw [f2.1 97 (by omega), eb_reach_97_5 p1]
  have f_137_0 : I3 137 0 = I 137 0 := by rw [ek_reach_137_0 p2, f1.1 137 (by omega) (by omega)]
  have f_137_1 : I3 137 1 = I 137 1 := by rw [ek_reach_137_1 p2, f1.1 137 (by omega) (by omega)]
  have f_137_2 : I3 137 2 = I 137 2 := by rw [ek_reach_137_2 p2, f1.1 137 (by omega) (by omega)]
  have f_103_59 : I3 103 59 = I 103 59 := by rw [ek_reach_103_59 p2, f1.1 103 (by omega) (by omega)]
  have f_103_60 : I3 103 60 = I 103 60 := by rw [ek_reach_103_60 p2, f1.1 103 (by omega) (by omega)]
  have f_103_61 : I3 103 61 = I 103 61 := by rw [ek_reach_103_61 p2, f1.1 103 (by omega) (by omega)]
  exact (by unfold rel; rw [f_98_0, f_98_1, f_98_2, f_97_3, f_97_4, f_97_5, f_137_0, f_137_1, f_137_2, f_103_59, f_103_60, f_103_61]; exact hr)

theorem rel.mouth {v0 v1 : Int32} {x y : Int32} {n : Nat} {I I2 I3 : px_I} {L L2 L3 : px_L} {R : px_R} (hj : jJ n I R) (hr : rel I L) (f1 : frB I I2 L L2) (p1 : pb_mouth v0 v1 I L x I2 L2) (f2 : frK I2 I3 L2 L3) (p2 : pk_mouth v0 v1 I2 L2 y I3 L3) : rel I3 L3 := by
  have f_98_0 : I3 98 0 = I 98 0 := by rw [f2.1 98 (by omega), eb_mouth_98_0 p1]
  have f_98_1 : I3 98 1 = I 98 1 := by rw [f2.1 98 (by omega), eb_mouth_98_1 p1]
  have f_98_2 : I3 98 2 = I 98 2 := by rw [f2.1 98 (by omega), eb_mouth_98_2 p1]
  have f_97_3 : I3 97 3 = I 97 3 := by rw [f2.1 97 (by omega), eb_mouth_97_3 p1]
  have f_97_4 : I3 97 4 = I 97 4 := by rw [f2.1 97 (by omega), eb_mouth_97_4 p1]
  have f_97_5 : I3 97 5 = I 97 5 := by rw [f2.1 97 (by omega), eb_mouth_97_5 p1]
  have f_137_0 : I3 137 0 = I 137 0 := by rw [ek_mouth_137_0 p2, f1.1 137 (by omega) (by omega)]
  have f_137_1 : I3 137 1 = I 137 1 := by rw [ek_mouth_137_1 p2, f1.1 137 (by omega) (by omega)]
  have f_137_2 : I3 137 2 = I 137 2 := by rw [ek_mouth_137_2 p2, f1.1 137 (by omega) (by omega)]
  have f_103_59 : I3 103 59 = I 103 59 := by rw [ek_mouth_103_59 p2, f1.1 103 (by omega) (by omega)]
  have f_103_60 : I3 103 60 = I 103 60 := by rw [ek_mouth_103_60 p2, f1.1 103 (by omega) (by omega)]
  have f_103_61 : I3 103 61 = I 103 61 := by rw [ek_mouth_103_61 p2, f1.1 103 (by omega) (by omega)]
  exact (by unfold rel; rw [f_98_0, f_98_1, f_98_2, f_97_3, f_97_4, f_97_5, f_137_0, f_137_1, f_137_2, f_103_59, f_103_60, f_103_61]; exact hr)

theorem rel.mark {v0 v1 v2 v3 : Int32} {x y : Int32} {n : Nat} {I I2 I3 : px_I} {L L2 L3 : px_L} {R : px_R} (hj : jJ n I R) (hr : rel I L) (f1 : frB I I2 L L2) (p1 : pb_mark v0 v1 v2 v3 I L x I2 L2) (f2 : frK I2 I3 L2 L3) (p2 : pk_mark v0 v1 v2 v3 I2 L2 y I3 L3) : rel I3 L3 := by
  have f_98_0 : I3 98 0 = I 98 0 := by rw [f2.1 98 (by omega), eb_mark_98_0 p1]
  have f_98_1 : I3 98 1 = I 98 1 := by rw [f2.1 98 (by omega), eb_mark_98_1 p1]
  have f_98_2 : I3 98 2 = I 98 2 := by rw [f2.1 98 (by omega), eb_mark_98_2 p1]
  have f_97_3 : I3 97 3 = I 97 3 := by rw [f2.1 97 (by omega), eb_mark_97_3 p1]
  have f_97_4 : I3 97 4 = I 97 4 := by rw [f2.1 97 (by omega), eb_mark_97_4 p1]
  have f_97_5 : I3 97 5 = I 97 5 := by rw [f2.1 97 (by omega), eb_mark_97_5 p1]
  have f_137_0 : I3 137 0 = I 137 0 := by rw [ek_mark_137_0 p2, f1.1 137 (by omega) (by omega)]
  have f_137_1 : I3 137 1 = I 137 1 := by rw [ek_mark_137_1 p2, f1.1 137 (by omega) (by omega)]
  have f_137_2 : I3 137 2 = I 137 2 := by rw [ek_mark_137_2 p2, f1.1 137 (by omega) (by omega)]
  have f_103_59 : I3 103 59 = I 103 59 := by rw [ek_mark_103_59 p2, f1.1 103 (by omega) (by omega)]
  have f_103_60 : I3 103 60 = I 103 60 := by rw [ek_mark_103_60 p2, f1.1 103 (by omega) (by omega)]
  have f_103_61 : I3 103 61 = I 103 61 := by rw [ek_mark_103_61 p2, f1.1 103 (by omega) (by omega)]
  exact (by unfold rel; rw [f_98_0, f_98_1, f_98_2, f_97_3, f_97_4, f_97_5, f_137_0, f_137_1, f_137_2, f_103_59, f_103_60, f_103_61]; exact hr)

theorem rel.when {v0 v1 v2 : Int32} {x y : Int32} {n : Nat} {I I2 I3 : px_I} {L L2 L3 : px_L} {R : px_R} (hj : jJ n I R) (hr : rel I L) (f1 : frB I I2 L L2) (p1 : pb_when v0 v1 v2 I L x I2 L2) (f2 : frK I2 I3 L2 L3) (p2 : pk_when v0 v1 v2 I2 L2 y I3 L3) : rel I3 L3 := by
  have f_98_0 : I3 98 0 = I 98 0 := by rw [f2.1 98 (by omega), eb_when_98_0 p1]
  have f_98_1 : I3 98 1 = I 98 1 := by rw [f2.1 98 (by omega), eb_when_98_1 p1]
  have f_98_2 : I3 98 2 = I 98 2 := by rw [f2.1 98 (by omega), eb_when_98_2 p1]
  have f_97_3 : I3 97 3 = I 97 3 := by rw [f2.1 97 (by omega), eb_when_97_3 p1]
  have f_97_4 : I3 97 4 = I 97 4 := by rw [f2.1 97 (by omega), eb_when_97_4 p1]
  have f_97_5 : I3 97 5 = I 97 5 := by rw [f2.1 97 (by omega), eb_when_97_5 p1]
  have f_137_0 : I3 137 0 = I 137 0 := by rw [ek_when_137_0 p2, f1.1 137 (by omega) (by omega)]
  have f_137_1 : I3 137 1 = I 137 1 := by rw [ek_when_137_1 p2, f1.1 137 (by omega) (by omega)]
  have f_137_2 : I3 137 2 = I 137 2 := by rw [ek_when_137_2 p2, f1.1 137 (by omega) (by omega)]
  have f_103_59 : I3 103 59 = I 103 59 := by rw [ek_when_103_59 p2, f1.1 103 (by omega) (by omega)]
  have f_103_60 : I3 103 60 = I 103 60 := by rw [ek_when_103_60 p2, f1.1 103 (by omega) (by omega)]
  have f_103_61 : I3 103 61 = I 103 61 := by rw [ek_when_103_61 p2, f1.1 103 (by omega) (by omega)]
  exact (by unfold rel; rw [f_98_0, f_98_1, f_98_2, f_97_3, f_97_4, f_97_5, f_137_0, f_137_1, f_137_2, f_103_59, f_103_60, f_103_61]; exact hr)

theorem rel.between {v0 v1 v2 v3 : Int32} {x y : Int32} {n : Nat} {I I2 I3 : px_I} {L L2 L3 : px_L} {R : px_R} (hj : jJ n I R) (hr : rel I L) (f1 : frB I I2 L L2) (p1 : pb_between v0 v1 v2 v3 I L x I2 L2) (f2 : frK I2 I3 L2 L3) (p2 : pk_between v0 v1 v2 v3 I2 L2 y I3 L3) : rel I3 L3 := by
  have f_98_0 : I3 98 0 = I 98 0 := by rw [f2.1 98 (by omega), eb_between_98_0 p1]
  have f_98_1 : I3 98 1 = I 98 1 := by rw [f2.1 98 (by omega), eb_between_98_1 p1]
  have f_98_2 : I3 98 2 = I 98 2 := by rw [f2.1 98 (by omega), eb_between_98_2 p1]
  have f_97_3 : I3 97 3 = I 97 3 := by rw [f2.1 97 (by omega), eb_between_97_3 p1]
  have f_97_4 : I3 97 4 = I 97 4 := by rw [f2.1 97 (by omega), eb_between_97_4 p1]
  have f_97_5 : I3 97 5 = I 97 5 := by rw [f2.1 97 (by omega), eb_between_97_5 p1]
  have f_137_0 : I3 137 0 = I 137 0 := by rw [ek_between_137_0 p2, f1.1 137 (by omega) (by omega)]
  have f_137_1 : I3 137 1 = I 137 1 := by rw [ek_between_137_1 p2, f1.1 137 (by omega) (by omega)]
  have f_137_2 : I3 137 2 = I 137 2 := by rw [ek_between_137_2 p2, f1.1 137 (by omega) (by omega)]
  have f_103_59 : I3 103 59 = I 103 59 := by rw [ek_between_103_59 p2, f1.1 103 (by omega) (by omega)]
  have f_103_60 : I3 103 60 = I 103 60 := by rw [ek_between_103_60 p2, f1.1 103 (by omega) (by omega)]
  have f_103_61 : I3 103 61 = I 103 61 := by rw [ek_between_103_61 p2, f1.1 103 (by omega) (by omega)]
  exact (by unfold rel; rw [f_98_0, f_98_1, f_98_2, f_97_3, f_97_4, f_97_5, f_137_0, f_137_1, f_137_2, f_103_59, f_103_60, f_103_61]; exact hr)

theorem rel.lamps {v0 v1 v2 v3 v4 : Int32} {x y : Int32} {n : Nat} {I I2 I3 : px_I} {L L2 L3 : px_L} {R : px_R} (hj : jJ n I R) (hr : rel I L) (f1 : frB I I2 L L2) (p1 : pb_lamps v0 v1 v2 v3 v4 I L x I2 L2) (f2 : frK I2 I3 L2 L3) (p2 : pk_lamps v0 v1 v2 v3 v4 I2 L2 y I3 L3) : rel I3 L3 := by
  have f_98_0 : I3 98 0 = I 98 0 := by rw [f2.1 98 (by omega), eb_lamps_98_0 p1]
  have f_98_1 : I3 98 1 = I 98 1 := by rw [f2.1 98 (by omega), eb_lamps_98_1 p1]
  have f_98_2 : I3 98 2 = I 98 2 := by rw [f2.1 98 (by omega), eb_lamps_98_2 p1]
  have f_97_3 : I3 97 3 = I 97 3 := by rw [f2.1 97 (by omega), eb_lamps_97_3 p1]
  have f_97_4 : I3 97 4 = I 97 4 := by rw [f2.1 97 (by omega), eb_lamps_97_4 p1]
  have f_97_5 : I3 97 5 = I 97 5 := by rw [f2.1 97 (by omega), eb_lamps_97_5 p1]
  have f_137_0 : I3 137 0 = I 137 0 := by rw [ek_lamps_137_0 p2, f1.1 137 (by omega) (by omega)]
  have f_137_1 : I3 137 1 = I 137 1 := by rw [ek_lamps_137_1 p2, f1.1 137 (by omega) (by omega)]
  have f_137_2 : I3 137 2 = I 137 2 := by rw [ek_lamps_137_2 p2, f1.1 137 (by omega) (by omega)]
  have f_103_59 : I3 103 59 = I 103 59 := by rw [ek_lamps_103_59 p2, f1.1 103 (by omega) (by omega)]
  have f_103_60 : I3 103 60 = I 103 60 := by rw [ek_lamps_103_60 p2, f1.1 103 (by omega) (by omega)]
  have f_103_61 : I3 103 61 = I 103 61 := by rw [ek_lamps_103_61 p2, f1.1 103 (by omega) (by omega)]
  exact (by unfold rel; rw [f_98_0, f_98_1, f_98_2, f_97_3, f_97_4, f_97_5, f_137_0, f_137_1, f_137_2, f_103_59, f_103_60, f_103_61]; exact hr)

theorem rel.count {v0 v1 v2 : Int32} {x y : Int32} {n : Nat} {I I2 I3 : px_I} {L L2 L3 : px_L} {R : px_R} (hj : jJ n I R) (hr : rel I L) (f1 : frB I I2 L L2) (p1 : pb_count v0 v1 v2 I L x I2 L2) (f2 : frK I2 I3 L2 L3) (p2 : pk_count v0 v1 v2 I2 L2 y I3 L3) : rel I3 L3 := by
  have f_98_0 : I3 98 0 = I 98 0 := by rw [f2.1 98 (by omega), eb_count_98_0 p1]
  have f_98_1 : I3 98 1 = I 98 1 := by rw [f2.1 98 (by omega), eb_count_98_1 p1]
  have f_98_2 : I3 98 2 = I 98 2 := by rw [f2.1 98 (by omega), eb_count_98_2 p1]
  have f_97_3 : I3 97 3 = I 97 3 := by rw [f2.1 97 (by omega), eb_count_97_3 p1]
  have f_97_4 : I3 97 4 = I 97 4 := by rw [f2.1 97 (by omega), eb_count_97_4 p1]
  have f_97_5 : I3 97 5 = I 97 5 := by rw [f2.1 97 (by omega), eb_count_97_5 p1]
  have f_137_0 : I3 137 0 = I 137 0 := by rw [ek_count_137_0 p2, f1.1 137 (by omega) (by omega)]
  have f_137_1 : I3 137 1 = I 137 1 := by rw [ek_count_137_1 p2, f1.1 137 (by omega) (by omega)]
  have f_137_2 : I3 137 2 = I 137 2 := by rw [ek_count_137_2 p2, f1.1 137 (by omega) (by omega)]
  have f_103_59 : I3 103 59 = I 103 59 := by rw [ek_count_103_59 p2, f1.1 103 (by omega) (by omega)]
  have f_103_60 : I3 103 60 = I 103 60 := by rw [ek_count_103_60 p2, f1.1 103 (by omega) (by omega)]
  have f_103_61 : I3 103 61 = I 103 61 := by rw [ek_count_103_61 p2, f1.1 103 (by omega) (by omega)]
  exact (by unfold rel; rw [f_98_0, f_98_1, f_98_2, f_97_3, f_97_4, f_97_5, f_137_0, f_137_1, f_137_2, f_103_59, f_103_60, f_103_61]; exact hr)

theorem rel.unit {v0 : Int32} {x y : Int32} {n : Nat} {I I2 I3 : px_I} {L L2 L3 : px_L} {R : px_R} (hj : jJ n I R) (hr : rel I L) (f1 : frB I I2 L L2) (p1 : pb_unit v0 I L x I2 L2) (f2 : frK I2 I3 L2 L3) (p2 : pk_unit v0 I2 L2 y I3 L3) : rel I3 L3 := by
  have f_98_0 : I3 98 0 = I 98 0 := by rw [f2.1 98 (by omega), eb_unit_98_0 p1]
  have f_98_1 : I3 98 1 = I 98 1 := by rw [f2.1 98 (by omega), eb_unit_98_1 p1]
  have f_98_2 : I3 98 2 = I 98 2 := by rw [f2.1 98 (by omega), eb_unit_98_2 p1]
  have f_97_3 : I3 97 3 = I 97 3 := by rw [f2.1 97 (by omega), eb_unit_97_3 p1]
  have f_97_4 : I3 97 4 = I 97 4 := by rw [f2.1 97 (by omega), eb_unit_97_4 p1]
  have f_97_5 : I3 97 5 = I 97 5 := by rw [f2.1 97 (by omega), eb_unit_97_5 p1]
  have f_137_0 : I3 137 0 = I 137 0 := by rw [ek_unit_137_0 p2, f1.1 137 (by omega) (by omega)]
  have f_137_1 : I3 137 1 = I 137 1 := by rw [ek_unit_137_1 p2, f1.1 137 (by omega) (by omega)]
  have f_137_2 : I3 137 2 = I 137 2 := by rw [ek_unit_137_2 p2, f1.1 137 (by omega) (by omega)]
  have f_103_59 : I3 103 59 = I 103 59 := by rw [ek_unit_103_59 p2, f1.1 103 (by omega) (by omega)]
  have f_103_60 : I3 103 60 = I 103 60 := by rw [ek_unit_103_60 p2, f1.1 103 (by omega) (by omega)]
  have f_103_61 : I3 103 61 = I 103 61 := by rw [ek_unit_103_61 p2, f1.1 103 (by omega) (by omega)]
  exact (by unfold rel; rw [f_98_0, f_98_1, f_98_2, f_97_3, f_97_4, f_97_5, f_137_0, f_137_1, f_137_2, f_103_59, f_103_60, f_103_61]; exact hr)

theorem rel.feed {v0 v1 v2 v3 v4 : Int32} {x y : Int32} {n : Nat} {I I2 I3 : px_I} {L L2 L3 : px_L} {R : px_R} (hj : jJ n I R) (hr : rel I L) (f1 : frB I I2 L L2) (p1 : pb_feed v0 v1 v2 v3 v4 I L x I2 L2) (f2 : frK I2 I3 L2 L3) (p2 : pk_feed v0 v1 v2 v3 v4 I2 L2 y I3 L3) : rel I3 L3 := by
  have f_98_0 : I3 98 0 = I 98 0 := by rw [f2.1 98 (by omega), eb_feed_98_0 p1]
  have f_98_1 : I3 98 1 = I 98 1 := by rw [f2.1 98 (by omega), eb_feed_98_1 p1]
  have f_98_2 : I3 98 2 = I 98 2 := by rw [f2.1 98 (by omega), eb_feed_98_2 p1]
  have f_97_3 : I3 97 3 = I 97 3 := by rw [f2.1 97 (by omega), eb_feed_97_3 p1]
  have f_97_4 : I3 97 4 = I 97 4 := by rw [f2.1 97 (by omega), eb_feed_97_4 p1]
  have f_97_5 : I3 97 5 = I 97 5 := by rw [f2.1 97 (by omega), eb_feed_97_5 p1]
  have f_137_0 : I3 137 0 = I 137 0 := by rw [ek_feed_137_0 p2, f1.1 137 (by omega) (by omega)]
  have f_137_1 : I3 137 1 = I 137 1 := by rw [ek_feed_137_1 p2, f1.1 137 (by omega) (by omega)]
  have f_137_2 : I3 137 2 = I 137 2 := by rw [ek_feed_137_2 p2, f1.1 137 (by omega) (by omega)]
  have f_103_59 : I3 103 59 = I 103 59 := by rw [ek_feed_103_59 p2, f1.1 103 (by omega) (by omega)]
  have f_103_60 : I3 103 60 = I 103 60 := by rw [ek_feed_103_60 p2, f1.1 103 (by omega) (by omega)]
  have f_103_61 : I3 103 61 = I 103 61 := by rw [ek_feed_103_61 p2, f1.1 103 (by omega) (by omega)]
  exact (by unfold rel; rw [f_98_0, f_98_1, f_98_2, f_97_3, f_97_4, f_97_5, f_137_0, f_137_1, f_137_2, f_103_59, f_103_60, f_103_61]; exact hr)

theorem rel.end {v0 : Int32} {x y : Int32} {n : Nat} {I I2 I3 : px_I} {L L2 L3 : px_L} {R : px_R} (hj : jJ n I R) (hr : rel I L) (f1 : frB I I2 L L2) (p1 : pb_end v0 I L x I2 L2) (f2 : frK I2 I3 L2 L3) (p2 : pk_end v0 I2 L2 y I3 L3) : rel I3 L3 := by
  have f_98_0 : I3 98 0 = I 98 0 := by rw [f2.1 98 (by omega), eb_end_98_0 p1]
  have f_98_1 : I3 98 1 = I 98 1 := by rw [f2.1 98 (by omega), eb_end_98_1 p1]
  have f_98_2 : I3 98 2 = I 98 2 := by rw [f2.1 98 (by omega), eb_end_98_2 p1]
  have f_97_3 : I3 97 3 = I 97 3 := by rw [f2.1 97 (by omega), eb_end_97_3 p1]
  have f_97_4 : I3 97 4 = I 97 4 := by rw [f2.1 97 (by omega), eb_end_97_4 p1]
  have f_97_5 : I3 97 5 = I 97 5 := by rw [f2.1 97 (by omega), eb_end_97_5 p1]
  have f_137_0 : I3 137 0 = I 137 0 := by rw [ek_end_137_0 p2, f1.1 137 (by omega) (by omega)]
  have f_137_1 : I3 137 1 = I 137 1 := by rw [ek_end_137_1 p2, f1.1 137 (by omega) (by omega)]
  have f_137_2 : I3 137 2 = I 137 2 := by rw [ek_end_137_2 p2, f1.1 137 (by omega) (by omega)]
  have f_103_59 : I3 103 59 = I 103 59 := by rw [ek_end_103_59 p2, f1.1 103 (by omega) (by omega)]
  have f_103_60 : I3 103 60 = I 103 60 := by rw [ek_end_103_60 p2, f1.1 103 (by omega) (by omega)]
  have f_103_61 : I3 103 61 = I 103 61 := by rw [ek_end_103_61 p2, f1.1 103 (by omega) (by omega)]
  exact (by unfold rel; rw [f_98_0, f_98_1, f_98_2, f_97_3, f_97_4, f_97_5, f_137_0, f_137_1, f_137_2, f_103_59, f_103_60, f_103_61]; exact hr)

theorem rel.way {v0 : Int32} {x y : Int32} {n : Nat} {I I2 I3 : px_I} {L L2 L3 : px_L} {R : px_R} (hj : jJ n I R) (hr : rel I L) (f1 : frB I I2 L L2) (p1 : pb_way v0 I L x I2 L2) (f2 : frK I2 I3 L2 L3) (p2 : pk_way v0 I2 L2 y I3 L3) : rel I3 L3 := by
  have f_98_0 : I3 98 0 = I 98 0 := by rw [f2.1 98 (by omega), eb_way_98_0 p1]
  have f_98_1 : I3 98 1 = I 98 1 := by rw [f2.1 98 (by omega), eb_way_98_1 p1]
  have f_98_2 : I3 98 2 = I 98 2 := by rw [f2.1 98 (by omega), eb_way_98_2 p1]
  have f_97_3 : I3 97 3 = I 97 3 := by rw [f2.1 97 (by omega), eb_way_97_3 p1]
  have f_97_4 : I3 97 4 = I 97 4 := by rw [f2.1 97 (by omega), eb_way_97_4 p1]
  have f_97_5 : I3 97 5 = I 97 5 := by rw [f2.1 97 (by omega), eb_way_97_5 p1]
  have f_137_0 : I3 137 0 = I 137 0 := by rw [ek_way_137_0 p2, f1.1 137 (by omega) (by omega)]
  have f_137_1 : I3 137 1 = I 137 1 := by rw [ek_way_137_1 p2, f1.1 137 (by omega) (by omega)]
  have f_137_2 : I3 137 2 = I 137 2 := by rw [ek_way_137_2 p2, f1.1 137 (by omega) (by omega)]
  have f_103_59 : I3 103 59 = I 103 59 := by rw [ek_way_103_59 p2, f1.1 103 (by omega) (by omega)]
  have f_103_60 : I3 103 60 = I 103 60 := by rw [ek_way_103_60 p2, f1.1 103 (by omega) (by omega)]
  have f_103_61 : I3 103 61 = I 103 61 := by rw [ek_way_103_61 p2, f1.1 103 (by omega) (by omega)]
  exact (by unfold rel; rw [f_98_0, f_98_1, f_98_2, f_97_3, f_97_4, f_97_5, f_137_0, f_137_1, f_137_2, f_103_59, f_103_60, f_103_61]; exact hr)

theorem rel.fault {v0 : Int32} {x y : Int32} {n : Nat} {I I2 I3 : px_I} {L L2 L3 : px_L} {R : px_R} (hj : jJ n I R) (hr : rel I L) (f1 : frB I I2 L L2) (p1 : pb_fault v0 I L x I2 L2) (f2 : frK I2 I3 L2 L3) (p2 : pk_fault v0 I2 L2 y I3 L3) : rel I3 L3 := by
  have f_98_0 : I3 98 0 = I 98 0 := by rw [f2.1 98 (by omega), eb_fault_98_0 p1]
  have f_98_1 : I3 98 1 = I 98 1 := by rw [f2.1 98 (by omega), eb_fault_98_1 p1]
  have f_98_2 : I3 98 2 = I 98 2 := by rw [f2.1 98 (by omega), eb_fault_98_2 p1]
  have f_97_3 : I3 97 3 = I 97 3 := by rw [f2.1 97 (by omega), eb_fault_97_3 p1]
  have f_97_4 : I3 97 4 = I 97 4 := by rw [f2.1 97 (by omega), eb_fault_97_4 p1]
  have f_97_5 : I3 97 5 = I 97 5 := by rw [f2.1 97 (by omega), eb_fault_97_5 p1]
  have f_137_0 : I3 137 0 = I 137 0 := by rw [ek_fault_137_0 p2, f1.1 137 (by omega) (by omega)]
  have f_137_1 : I3 137 1 = I 137 1 := by rw [ek_fault_137_1 p2, f1.1 137 (by omega) (by omega)]
  have f_137_2 : I3 137 2 = I 137 2 := by rw [ek_fault_137_2 p2, f1.1 137 (by omega) (by omega)]
  have f_103_59 : I3 103 59 = I 103 59 := by rw [ek_fault_103_59 p2, f1.1 103 (by omega) (by omega)]
  have f_103_60 : I3 103 60 = I 103 60 := by rw [ek_fault_103_60 p2, f1.1 103 (by omega) (by omega)]
  have f_103_61 : I3 103 61 = I 103 61 := by rw [ek_fault_103_61 p2, f1.1 103 (by omega) (by omega)]
  exact (by unfold rel; rw [f_98_0, f_98_1, f_98_2, f_97_3, f_97_4, f_97_5, f_137_0, f_137_1, f_137_2, f_103_59, f_103_60, f_103_61]; exact hr)

theorem rel.tools {v0 v1 v2 v3 v4 : Int32} {x y : Int32} {n : Nat} {I I2 I3 : px_I} {L L2 L3 : px_L} {R : px_R} (hj : jJ n I R) (hr : rel I L) (f1 : frB I I2 L L2) (p1 : pb_tools v0 v1 v2 v3 v4 I L x I2 L2) (f2 : frK I2 I3 L2 L3) (p2 : pk_tools v0 v1 v2 v3 v4 I2 L2 y I3 L3) : rel I3 L3 := by
  have f_98_0 : I3 98 0 = I 98 0 := by rw [f2.1 98 (by omega), eb_tools_98_0 p1]
  have f_98_1 : I3 98 1 = I 98 1 := by rw [f2.1 98 (by omega), eb_tools_98_1 p1]
  have f_98_2 : I3 98 2 = I 98 2 := by rw [f2.1 98 (by omega), eb_tools_98_2 p1]
  have f_97_3 : I3 97 3 = I 97 3 := by rw [f2.1 97 (by omega), eb_tools_97_3 p1]
  have f_97_4 : I3 97 4 = I 97 4 := by rw [f2.1 97 (by omega), eb_tools_97_4 p1]
  have f_97_5 : I3 97 5 = I 97 5 := by rw [f2.1 97 (by omega), eb_tools_97_5 p1]
  have f_137_0 : I3 137 0 = I 137 0 := by rw [ek_tools_137_0 p2, f1.1 137 (by omega) (by omega)]
  have f_137_1 : I3 137 1 = I 137 1 := by rw [ek_tools_137_1 p2, f1.1 137 (by omega) (by omega)]
  have f_137_2 : I3 137 2 = I 137 2 := by rw [ek_tools_137_2 p2, f1.1 137 (by omega) (by omega)]
  have f_103_59 : I3 103 59 = I 103 59 := by rw [ek_tools_103_59 p2, f1.1 103 (by omega) (by omega)]
  have f_103_60 : I3 103 60 = I 103 60 := by rw [ek_tools_103_60 p2, f1.1 103 (by omega) (by omega)]
  have f_103_61 : I3 103 61 = I 103 61 := by rw [ek_tools_103_61 p2, f1.1 103 (by omega) (by omega)]
  exact (by unfold rel; rw [f_98_0, f_98_1, f_98_2, f_97_3, f_97_4, f_97_5, f_137_0, f_137_1, f_137_2, f_103_59, f_103_60, f_103_61]; exact hr)

theorem rel.run {v0 v1 v2 : Int32} {x y : Int32} {n : Nat} {I I2 I3 : px_I} {L L2 L3 : px_L} {R : px_R} (hj : jJ n I R) (hr : rel I L) (f1 : frB I I2 L L2) (p1 : pb_run v0 v1 v2 I L x I2 L2) (f2 : frK I2 I3 L2 L3) (p2 : pk_run v0 v1 v2 I2 L2 y I3 L3) : rel I3 L3 := by
  have f_98_0 : I3 98 0 = I 98 0 := by rw [f2.1 98 (by omega), eb_run_98_0 p1]
  have f_98_1 : I3 98 1 = I 98 1 := by rw [f2.1 98 (by omega), eb_run_98_1 p1]
  have f_98_2 : I3 98 2 = I 98 2 := by rw [f2.1 98 (by omega), eb_run_98_2 p1]
  have f_97_3 : I3 97 3 = I 97 3 := by rw [f2.1 97 (by omega), eb_run_97_3 p1]
  have f_97_4 : I3 97 4 = I 97 4 := by rw [f2.1 97 (by omega), eb_run_97_4 p1]
  have f_97_5 : I3 97 5 = I 97 5 := by rw [f2.1 97 (by omega), eb_run_97_5 p1]
  have f_137_0 : I3 137 0 = I 137 0 := by rw [ek_run_137_0 p2, f1.1 137 (by omega) (by omega)]
  have f_137_1 : I3 137 1 = I 137 1 := by rw [ek_run_137_1 p2, f1.1 137 (by omega) (by omega)]
  have f_137_2 : I3 137 2 = I 137 2 := by rw [ek_run_137_2 p2, f1.1 137 (by omega) (by omega)]
  have f_103_59 : I3 103 59 = I 103 59 := by rw [ek_run_103_59 p2, f1.1 103 (by omega) (by omega)]
  have f_103_60 : I3 103 60 = I 103 60 := by rw [ek_run_103_60 p2, f1.1 103 (by omega) (by omega)]
  have f_103_61 : I3 103 61 = I 103 61 := by rw [ek_run_103_61 p2, f1.1 103 (by omega) (by omega)]
  exact (by unfold rel; rw [f_98_0, f_98_1, f_98_2, f_97_3, f_97_4, f_97_5, f_137_0, f_137_1, f_137_2, f_103_59, f_103_60, f_103_61]; exact hr)

theorem rel.meeting {v0 v1 v2 v3 v4 v5 : Int32} {x y : Int32} {n : Nat} {I I2 I3 : px_I} {L L2 L3 : px_L} {R : px_R} (hj : jJ n I R) (hr : rel I L) (f1 : frB I I2 L L2) (p1 : pb_meeting v0 v1 v2 v3 v4 v5 I L x I2 L2) (f2 : frK I2 I3 L2 L3) (p2 : pk_meeting v0 v1 v2 v3 v4 v5 I2 L2 y I3 L3) : rel I3 L3 := by
  have f_98_0 : I3 98 0 = I 98 0 := by rw [f2.1 98 (by omega), eb_meeting_98_0 p1]
  have f_98_1 : I3 98 1 = I 98 1 := by rw [f2.1 98 (by omega), eb_meeting_98_1 p1]
  have f_98_2 : I3 98 2 = I 98 2 := by rw [f2.1 98 (by omega), eb_meeting_98_2 p1]
  have f_97_3 : I3 97 3 = I 97 3 := by rw [f2.1 97 (by omega), eb_meeting_97_3 p1]
  have f_97_4 : I3 97 4 = I 97 4 := by rw [f2.1 97 (by omega), eb_meeting_97_4 p1]
  have f_97_5 : I3 97 5 = I 97 5 := by rw [f2.1 97 (by omega), eb_meeting_97_5 p1]
  have f_137_0 : I3 137 0 = I 137 0 := by rw [ek_meeting_137_0 p2, f1.1 137 (by omega) (by omega)]
  have f_137_1 : I3 137 1 = I 137 1 := by rw [ek_meeting_137_1 p2, f1.1 137 (by omega) (by omega)]
  have f_137_2 : I3 137 2 = I 137 2 := by rw [ek_meeting_137_2 p2, f1.1 137 (by omega) (by omega)]
  have f_103_59 : I3 103 59 = I 103 59 := by rw [ek_meeting_103_59 p2, f1.1 103 (by omega) (by omega)]
  have f_103_60 : I3 103 60 = I 103 60 := by rw [ek_meeting_103_60 p2, f1.1 103 (by omega) (by omega)]
  have f_103_61 : I3 103 61 = I 103 61 := by rw [ek_meeting_103_61 p2, f1.1 103 (by omega) (by omega)]
  exact (by unfold rel; rw [f_98_0, f_98_1, f_98_2, f_97_3, f_97_4, f_97_5, f_137_0, f_137_1, f_137_2, f_103_59, f_103_60, f_103_61]; exact hr)

theorem rel.there {v0 v1 v2 : Int32} {x y : Int32} {n : Nat} {I I2 I3 : px_I} {L L2 L3 : px_L} {R : px_R} (hj : jJ n I R) (hr : rel I L) (f1 : frB I I2 L L2) (p1 : pb_there v0 v1 v2 I L x I2 L2) (f2 : frK I2 I3 L2 L3) (p2 : pk_there v0 v1 v2 I2 L2 y I3 L3) : rel I3 L3 := by
  have f_98_0 : I3 98 0 = I 98 0 := by rw [f2.1 98 (by omega), eb_there_98_0 p1]
  have f_98_1 : I3 98 1 = I 98 1 := by rw [f2.1 98 (by omega), eb_there_98_1 p1]
  have f_98_2 : I3 98 2 = I 98 2 := by rw [f2.1 98 (by omega), eb_there_98_2 p1]
  have f_97_3 : I3 97 3 = I 97 3 := by rw [f2.1 97 (by omega), eb_there_97_3 p1]
  have f_97_4 : I3 97 4 = I 97 4 := by rw [f2.1 97 (by omega), eb_there_97_4 p1]
  have f_97_5 : I3 97 5 = I 97 5 := by rw [f2.1 97 (by omega), eb_there_97_5 p1]
  have f_137_0 : I3 137 0 = I 137 0 := by rw [ek_there_137_0 p2, f1.1 137 (by omega) (by omega)]
  have f_137_1 : I3 137 1 = I 137 1 := by rw [ek_there_137_1 p2, f1.1 137 (by omega) (by omega)]
  have f_137_2 : I3 137 2 = I 137 2 := by rw [ek_there_137_2 p2, f1.1 137 (by omega) (by omega)]
  have f_103_59 : I3 103 59 = I 103 59 := by rw [ek_there_103_59 p2, f1.1 103 (by omega) (by omega)]
  have f_103_60 : I3 103 60 = I 103 60 := by rw [ek_there_103_60 p2, f1.1 103 (by omega) (by omega)]
  have f_103_61 : I3 103 61 = I 103 61 := by rw [ek_there_103_61 p2, f1.1 103 (by omega) (by omega)]
  exact (by unfold rel; rw [f_98_0, f_98_1, f_98_2, f_97_3, f_97_4, f_97_5, f_137_0, f_137_1, f_137_2, f_103_59, f_103_60, f_103_61]; exact hr)

theorem rel.fits {v0 v1 v2 v3 : Int32} {x y : Int32} {n : Nat} {I I2 I3 : px_I} {L L2 L3 : px_L} {R : px_R} (hj : jJ n I R) (hr : rel I L) (f1 : frB I I2 L L2) (p1 : pb_fits v0 v1 v2 v3 I L x I2 L2) (f2 : frK I2 I3 L2 L3) (p2 : pk_fits v0 v1 v2 v3 I2 L2 y I3 L3) : rel I3 L3 := by
  have f_98_0 : I3 98 0 = I 98 0 := by rw [f2.1 98 (by omega), eb_fits_98_0 p1]
  have f_98_1 : I3 98 1 = I 98 1 := by rw [f2.1 98 (by omega), eb_fits_98_1 p1]
  have f_98_2 : I3 98 2 = I 98 2 := by rw [f2.1 98 (by omega), eb_fits_98_2 p1]
  have f_97_3 : I3 97 3 = I 97 3 := by rw [f2.1 97 (by omega), eb_fits_97_3 p1]
  have f_97_4 : I3 97 4 = I 97 4 := by rw [f2.1 97 (by omega), eb_fits_97_4 p1]
  have f_97_5 : I3 97 5 = I 97 5 := by rw [f2.1 97 (by omega), eb_fits_97_5 p1]
  have f_137_0 : I3 137 0 = I 137 0 := by rw [ek_fits_137_0 p2, f1.1 137 (by omega) (by omega)]
  have f_137_1 : I3 137 1 = I 137 1 := by rw [ek_fits_137_1 p2, f1.1 137 (by omega) (by omega)]
  have f_137_2 : I3 137 2 = I 137 2 := by rw [ek_fits_137_2 p2, f1.1 137 (by omega) (by omega)]
  have f_103_59 : I3 103 59 = I 103 59 := by rw [ek_fits_103_59 p2, f1.1 103 (by omega) (by omega)]
  have f_103_60 : I3 103 60 = I 103 60 := by rw [ek_fits_103_60 p2, f1.1 103 (by omega) (by omega)]
  have f_103_61 : I3 103 61 = I 103 61 := by rw [ek_fits_103_61 p2, f1.1 103 (by omega) (by omega)]
  exact (by unfold rel; rw [f_98_0, f_98_1, f_98_2, f_97_3, f_97_4, f_97_5, f_137_0, f_137_1, f_137_2, f_103_59, f_103_60, f_103_61]; exact hr)

theorem rel.ways {v0 v1 v2 v3 v4 : Int32} {x y : Int32} {n : Nat} {I I2 I3 : px_I} {L L2 L3 : px_L} {R : px_R} (hj : jJ n I R) (hr : rel I L) (f1 : frB I I2 L L2) (p1 : pb_ways v0 v1 v2 v3 v4 I L x I2 L2) (f2 : frK I2 I3 L2 L3) (p2 : pk_ways v0 v1 v2 v3 v4 I2 L2 y I3 L3) : rel I3 L3 := by
  have f_98_0 : I3 98 0 = I 98 0 := by rw [f2.1 98 (by omega), eb_ways_98_0 p1]
  have f_98_1 : I3 98 1 = I 98 1 := by rw [f2.1 98 (by omega), eb_ways_98_1 p1]
  have f_98_2 : I3 98 2 = I 98 2 := by rw [f2.1 98 (by omega), eb_ways_98_2 p1]
  have f_97_3 : I3 97 3 = I 97 3 := by rw [f2.1 97 (by omega), eb_ways_97_3 p1]
  have f_97_4 : I3 97 4 = I 97 4 := by rw [f2.1 97 (by omega), eb_ways_97_4 p1]
  have f_97_5 : I3 97 5 = I 97 5 := by rw [f2.1 97 (by omega), eb_ways_97_5 p1]
  have f_137_0 : I3 137 0 = I 137 0 := by rw [ek_ways_137_0 p2, f1.1 137 (by omega) (by omega)]
  have f_137_1 : I3 137 1 = I 137 1 := by rw [ek_ways_137_1 p2, f1.1 137 (by omega) (by omega)]
  have f_137_2 : I3 137 2 = I 137 2 := by rw [ek_ways_137_2 p2, f1.1 137 (by omega) (by omega)]
  have f_103_59 : I3 103 59 = I 103 59 := by rw [ek_ways_103_59 p2, f1.1 103 (by omega) (by omega)]
  have f_103_60 : I3 103 60 = I 103 60 := by rw [ek_ways_103_60 p2, f1.1 103 (by omega) (by omega)]
  have f_103_61 : I3 103 61 = I 103 61 := by rw [ek_ways_103_61 p2, f1.1 103 (by omega) (by omega)]
  exact (by unfold rel; rw [f_98_0, f_98_1, f_98_2, f_97_3, f_97_4, f_97_5, f_137_0, f_137_1, f_137_2, f_103_59, f_103_60, f_103_61]; exact hr)

theorem relq_seek {v0 v1 v2 v3 v4 v5 : Int32} {x y : Int32} {n : Nat} {I I2 I3 : px_I} {L L2 L3 : px_L} {R : px_R} (hj : jJ n I R) (hr : rel I L) (f1 : frB I I2 L L2) (p1 : pb_seek v0 v1 v2 v3 v4 v5 I L x I2 L2) (f2 : frK I2 I3 L2 L3) (p2 : pk_seek v0 v1 v2 v3 v4 v5 I2 L2 y I3 L3) : x = y ∧ (I3 98 0 = I3 137 0 ∧ I3 98 1 = I3 137 1 ∧ I3 98 2 = I3 137 2 ∧ I3 97 3 = I3 103 59 ∧ I3 97 4 = I3 103 60 ∧ I3 97 5 = I3 103 61) := by
  have h_sk : I 98 0 = I 137 0 ∧ I 98 1 = I 137 1 ∧ I 98 2 = I 137 2 ∧ I 97 3 = I 103 59 ∧ I 97 4 = I 103 60 ∧ I 97 5 = I 103 61 := hr
  unfold pb_seek at p1
  unfold pk_seek at p2
  have e1 : ∀ b, 103 ≤ b → b < 147 → I2 b = I b := f1.1
  have e5 : ∀ b, b < 103 → I3 b = I2 b := fun b hb => f2.1 b (Or.inl hb)
  rcases p1.2 with ⟨a1, a2, a3⟩ | ⟨a1, a2, a3⟩
  · rcases p2.2 with ⟨b1, b2, b3⟩ | ⟨b1, b2, b3⟩
    · refine ⟨by rw [a2, b2], ?_⟩
      rw [e5 98 (by omega), e5 97 (by omega), a3, b3]
      simp [px_ur]
    · exact absurd a1 b1
  · rcases p2.2 with ⟨b1, b2, b3⟩ | ⟨b1, b2, b3⟩
    · exact absurd b1 a1
    · refine ⟨by rw [a2, b2], ?_⟩
      rw [e5 98 (by omega), e5 97 (by omega), a3, b3, e1 137 (by omega) (by omega), e1 103 (by omega) (by omega)]
      exact h_sk

theorem rel.seek {v0 v1 v2 v3 v4 v5 : Int32} {x y : Int32} {n : Nat} {I I2 I3 : px_I} {L L2 L3 : px_L} {R : px_R} (hj : jJ n I R) (hr : rel I L) (f1 : frB I I2 L L2) (p1 : pb_seek v0 v1 v2 v3 v4 v5 I L x I2 L2) (f2 : frK I2 I3 L2 L3) (p2 : pk_seek v0 v1 v2 v3 v4 v5 I2 L2 y I3 L3) : rel I3 L3 := by
  have hq0 := (relq_seek hj hr f1 p1 f2 p2).2
  exact hq0

theorem relq_chance {v0 v1 v2 : Int32} {x y : Int64} {n : Nat} {I I2 I3 : px_I} {L L2 L3 : px_L} {R : px_R} (hj : jJ n I R) (hr : rel I L) (f1 : frB I I2 L L2) (p1 : pbs_chance v0 v1 v2 I L x I2 L2) (f2 : frK I2 I3 L2 L3) (p2 : pks_chance v0 v1 v2 I2 L2 y I3 L3) : x = y := by
  have h_sk : I 98 0 = I 137 0 ∧ I 98 1 = I 137 1 ∧ I 98 2 = I 137 2 ∧ I 97 3 = I 103 59 ∧ I 97 4 = I 103 60 ∧ I 97 5 = I 103 61 := hr
  unfold pbs_chance at p1
  unfold pks_chance at p2
  have cr : ∀ b, 103 ≤ b → b < 147 → I2 b = I b := f1.1
  have hW : mW I2 := by
    have := hj.m.2.2.2.2.1
    exact this.k (by rw [cr 103 (by omega) (by omega)]) (by rw [cr 103 (by omega) (by omega)]) (by rw [cr 103 (by omega) (by omega)]) (cr 137 (by omega) (by omega))
  obtain ⟨s0, s1, s2, s3, s4, s5⟩ := h_sk
  rcases p1.2 with ⟨a1, a2⟩ | ⟨a1, a2⟩
  · rcases p2.2 with ⟨b1, b2⟩ | ⟨b1, b2⟩
    · rw [a2, b2]
      exact sh_eq hW a1.1 a1.2 (by rw [cr 137 (by omega) (by omega)]; exact s0) (by rw [cr 137 (by omega) (by omega)]; exact s1) (by rw [cr 137 (by omega) (by omega)]; exact s2) (by rw [cr 103 (by omega) (by omega)]; exact s3) (by rw [cr 103 (by omega) (by omega)]; exact s4) (by rw [cr 103 (by omega) (by omega)]; exact s5)
    · exact absurd a1 b1
  · rcases p2.2 with ⟨b1, b2⟩ | ⟨b1, b2⟩
    · exact absurd b1 a1
    · rw [a2, b2]

theorem rel.chance {v0 v1 v2 : Int32} {x y : Int64} {n : Nat} {I I2 I3 : px_I} {L L2 L3 : px_L} {R : px_R} (hj : jJ n I R) (hr : rel I L) (f1 : frB I I2 L L2) (p1 : pbs_chance v0 v1 v2 I L x I2 L2) (f2 : frK I2 I3 L2 L3) (p2 : pks_chance v0 v1 v2 I2 L2 y I3 L3) : x = y ∧ rel I3 L3 := by
  have f_98_0 : I3 98 0 = I 98 0 := by rw [f2.1 98 (by omega), (pbs_chance.old p1).1]
  have f_98_1 : I3 98 1 = I 98 1 := by rw [f2.1 98 (by omega), (pbs_chance.old p1).1]
  have f_98_2 : I3 98 2 = I 98 2 := by rw [f2.1 98 (by omega), (pbs_chance.old p1).1]
  have f_97_3 : I3 97 3 = I 97 3 := by rw [f2.1 97 (by omega), (pbs_chance.old p1).1]
  have f_97_4 : I3 97 4 = I 97 4 := by rw [f2.1 97 (by omega), (pbs_chance.old p1).1]
  have f_97_5 : I3 97 5 = I 97 5 := by rw [f2.1 97 (by omega), (pbs_chance.old p1).1]
  have f_137_0 : I3 137 0 = I 137 0 := by rw [(pks_chance.old p2).1, f1.1 137 (by omega) (by omega)]
  have f_137_1 : I3 137 1 = I 137 1 := by rw [(pks_chance.old p2).1, f1.1 137 (by omega) (by omega)]
  have f_137_2 : I3 137 2 = I 137 2 := by rw [(pks_chance.old p2).1, f1.1 137 (by omega) (by omega)]
  have f_103_59 : I3 103 59 = I 103 59 := by rw [(pks_chance.old p2).1, f1.1 103 (by omega) (by omega)]
  have f_103_60 : I3 103 60 = I 103 60 := by rw [(pks_chance.old p2).1, f1.1 103 (by omega) (by omega)]
  have f_103_61 : I3 103 61 = I 103 61 := by rw [(pks_chance.old p2).1, f1.1 103 (by omega) (by omega)]
  exact ⟨(relq_chance hj hr f1 p1 f2 p2), (by unfold rel; rw [f_98_0, f_98_1, f_98_2, f_97_3, f_97_4, f_97_5, f_137_0, f_137_1, f_137_2, f_103_59, f_103_60, f_103_61]; exact hr)⟩

theorem rel.detour {v0 v1 v2 : Int32} {x y : Int32} {n : Nat} {I I2 I3 : px_I} {L L2 L3 : px_L} {R : px_R} (hj : jJ n I R) (hr : rel I L) (f1 : frB I I2 L L2) (p1 : pb_detour v0 v1 v2 I L x I2 L2) (f2 : frK I2 I3 L2 L3) (p2 : pk_detour v0 v1 v2 I2 L2 y I3 L3) : rel I3 L3 := by
  have f_98_0 : I3 98 0 = I 98 0 := by rw [f2.1 98 (by omega), eb_detour_98_0 p1]
  have f_98_1 : I3 98 1 = I 98 1 := by rw [f2.1 98 (by omega), eb_detour_98_1 p1]
  have f_98_2 : I3 98 2 = I 98 2 := by rw [f2.1 98 (by omega), eb_detour_98_2 p1]
  have f_97_3 : I3 97 3 = I 97 3 := by rw [f2.1 97 (by omega), eb_detour_97_3 p1]
  have f_97_4 : I3 97 4 = I 97 4 := by rw [f2.1 97 (by omega), eb_detour_97_4 p1]
  have f_97_5 : I3 97 5 = I 97 5 := by rw [f2.1 97 (by omega), eb_detour_97_5 p1]
  have f_137_0 : I3 137 0 = I 137 0 := by rw [ek_detour_137_0 p2, f1.1 137 (by omega) (by omega)]
  have f_137_1 : I3 137 1 = I 137 1 := by rw [ek_detour_137_1 p2, f1.1 137 (by omega) (by omega)]
  have f_137_2 : I3 137 2 = I 137 2 := by rw [ek_detour_137_2 p2, f1.1 137 (by omega) (by omega)]
  have f_103_59 : I3 103 59 = I 103 59 := by rw [ek_detour_103_59 p2, f1.1 103 (by omega) (by omega)]
  have f_103_60 : I3 103 60 = I 103 60 := by rw [ek_detour_103_60 p2, f1.1 103 (by omega) (by omega)]
  have f_103_61 : I3 103 61 = I 103 61 := by rw [ek_detour_103_61 p2, f1.1 103 (by omega) (by omega)]
  exact (by unfold rel; rw [f_98_0, f_98_1, f_98_2, f_97_3, f_97_4, f_97_5, f_137_0, f_137_1, f_137_2, f_103_59, f_103_60, f_103_61]; exact hr)

theorem rel.table {v0 v1 : Int32} {x y : Int32} {n : Nat} {I I2 I3 : px_I} {L L2 L3 : px_L} {R : px_R} (hj : jJ n I R) (hr : rel I L) (f1 : frB I I2 L L2) (p1 : pb_table v0 v1 I L x I2 L2) (f2 : frK I2 I3 L2 L3) (p2 : pk_table v0 v1 I2 L2 y I3 L3) : rel I3 L3 := by
  have f_98_0 : I3 98 0 = I 98 0 := by rw [f2.1 98 (by omega), eb_table_98_0 p1]
  have f_98_1 : I3 98 1 = I 98 1 := by rw [f2.1 98 (by omega), eb_table_98_1 p1]
  have f_98_2 : I3 98 2 = I 98 2 := by rw [f2.1 98 (by omega), eb_table_98_2 p1]
  have f_97_3 : I3 97 3 = I 97 3 := by rw [f2.1 97 (by omega), eb_table_97_3 p1]
  have f_97_4 : I3 97 4 = I 97 4 := by rw [f2.1 97 (by omega), eb_table_97_4 p1]
  have f_97_5 : I3 97 5 = I 97 5 := by rw [f2.1 97 (by omega), eb_table_97_5 p1]
  have f_137_0 : I3 137 0 = I 137 0 := by rw [ek_table_137_0 p2, f1.1 137 (by omega) (by omega)]
  have f_137_1 : I3 137 1 = I 137 1 := by rw [ek_table_137_1 p2, f1.1 137 (by omega) (by omega)]
  have f_137_2 : I3 137 2 = I 137 2 := by rw [ek_table_137_2 p2, f1.1 137 (by omega) (by omega)]
  have f_103_59 : I3 103 59 = I 103 59 := by rw [ek_table_103_59 p2, f1.1 103 (by omega) (by omega)]
  have f_103_60 : I3 103 60 = I 103 60 := by rw [ek_table_103_60 p2, f1.1 103 (by omega) (by omega)]
  have f_103_61 : I3 103 61 = I 103 61 := by rw [ek_table_103_61 p2, f1.1 103 (by omega) (by omega)]
  exact (by unfold rel; rw [f_98_0, f_98_1, f_98_2, f_97_3, f_97_4, f_97_5, f_137_0, f_137_1, f_137_2, f_103_59, f_103_60, f_103_61]; exact hr)

theorem rel.repair {v0 v1 v2 : Int32} {x y : Int32} {n : Nat} {I I2 I3 : px_I} {L L2 L3 : px_L} {R : px_R} (hj : jJ n I R) (hr : rel I L) (f1 : frB I I2 L L2) (p1 : pb_repair v0 v1 v2 I L x I2 L2) (f2 : frK I2 I3 L2 L3) (p2 : pk_repair v0 v1 v2 I2 L2 y I3 L3) : rel I3 L3 := by
  have f_98_0 : I3 98 0 = I 98 0 := by rw [f2.1 98 (by omega), eb_repair_98_0 p1]
  have f_98_1 : I3 98 1 = I 98 1 := by rw [f2.1 98 (by omega), eb_repair_98_1 p1]
  have f_98_2 : I3 98 2 = I 98 2 := by rw [f2.1 98 (by omega), eb_repair_98_2 p1]
  have f_97_3 : I3 97 3 = I 97 3 := by rw [f2.1 97 (by omega), eb_repair_97_3 p1]
  have f_97_4 : I3 97 4 = I 97 4 := by rw [f2.1 97 (by omega), eb_repair_97_4 p1]
  have f_97_5 : I3 97 5 = I 97 5 := by rw [f2.1 97 (by omega), eb_repair_97_5 p1]
  have f_137_0 : I3 137 0 = I 137 0 := by rw [ek_repair_137_0 p2, f1.1 137 (by omega) (by omega)]
  have f_137_1 : I3 137 1 = I 137 1 := by rw [ek_repair_137_1 p2, f1.1 137 (by omega) (by omega)]
  have f_137_2 : I3 137 2 = I 137 2 := by rw [ek_repair_137_2 p2, f1.1 137 (by omega) (by omega)]
  have f_103_59 : I3 103 59 = I 103 59 := by rw [ek_repair_103_59 p2, f1.1 103 (by omega) (by omega)]
  have f_103_60 : I3 103 60 = I 103 60 := by rw [ek_repair_103_60 p2, f1.1 103 (by omega) (by omega)]
  have f_103_61 : I3 103 61 = I 103 61 := by rw [ek_repair_103_61 p2, f1.1 103 (by omega) (by omega)]
  exact (by unfold rel; rw [f_98_0, f_98_1, f_98_2, f_97_3, f_97_4, f_97_5, f_137_0, f_137_1, f_137_2, f_103_59, f_103_60, f_103_61]; exact hr)

theorem rel.lime {v0 : Int32} {x y : Int32} {n : Nat} {I I2 I3 : px_I} {L L2 L3 : px_L} {R : px_R} (hj : jJ n I R) (hr : rel I L) (f1 : frB I I2 L L2) (p1 : pb_lime v0 I L x I2 L2) (f2 : frK I2 I3 L2 L3) (p2 : pk_lime v0 I2 L2 y I3 L3) : rel I3 L3 := by
  have f_98_0 : I3 98 0 = I 98 0 := by rw [f2.1 98 (by omega), eb_lime_98_0 p1]
  have f_98_1 : I3 98 1 = I 98 1 := by rw [f2.1 98 (by omega), eb_lime_98_1 p1]
  have f_98_2 : I3 98 2 = I 98 2 := by rw [f2.1 98 (by omega), eb_lime_98_2 p1]
  have f_97_3 : I3 97 3 = I 97 3 := by rw [f2.1 97 (by omega), eb_lime_97_3 p1]
  have f_97_4 : I3 97 4 = I 97 4 := by rw [f2.1 97 (by omega), eb_lime_97_4 p1]
  have f_97_5 : I3 97 5 = I 97 5 := by rw [f2.1 97 (by omega), eb_lime_97_5 p1]
  have f_137_0 : I3 137 0 = I 137 0 := by rw [ek_lime_137_0 p2, f1.1 137 (by omega) (by omega)]
  have f_137_1 : I3 137 1 = I 137 1 := by rw [ek_lime_137_1 p2, f1.1 137 (by omega) (by omega)]
  have f_137_2 : I3 137 2 = I 137 2 := by rw [ek_lime_137_2 p2, f1.1 137 (by omega) (by omega)]
  have f_103_59 : I3 103 59 = I 103 59 := by rw [ek_lime_103_59 p2, f1.1 103 (by omega) (by omega)]
  have f_103_60 : I3 103 60 = I 103 60 := by rw [ek_lime_103_60 p2, f1.1 103 (by omega) (by omega)]
  have f_103_61 : I3 103 61 = I 103 61 := by rw [ek_lime_103_61 p2, f1.1 103 (by omega) (by omega)]
  exact (by unfold rel; rw [f_98_0, f_98_1, f_98_2, f_97_3, f_97_4, f_97_5, f_137_0, f_137_1, f_137_2, f_103_59, f_103_60, f_103_61]; exact hr)

theorem rel.flow {v0 v1 v2 v3 : Int32} {x y : Int32} {n : Nat} {I I2 I3 : px_I} {L L2 L3 : px_L} {R : px_R} (hj : jJ n I R) (hr : rel I L) (f1 : frB I I2 L L2) (p1 : pb_flow v0 v1 v2 v3 I L x I2 L2) (f2 : frK I2 I3 L2 L3) (p2 : pk_flow v0 v1 v2 v3 I2 L2 y I3 L3) : rel I3 L3 := by
  have f_98_0 : I3 98 0 = I 98 0 := by rw [f2.1 98 (by omega), eb_flow_98_0 p1]
  have f_98_1 : I3 98 1 = I 98 1 := by rw [f2.1 98 (by omega), eb_flow_98_1 p1]
  have f_98_2 : I3 98 2 = I 98 2 := by rw [f2.1 98 (by omega), eb_flow_98_2 p1]
  have f_97_3 : I3 97 3 = I 97 3 := by rw [f2.1 97 (by omega), eb_flow_97_3 p1]
  have f_97_4 : I3 97 4 = I 97 4 := by rw [f2.1 97 (by omega), eb_flow_97_4 p1]
  have f_97_5 : I3 97 5 = I 97 5 := by rw [f2.1 97 (by omega), eb_flow_97_5 p1]
  have f_137_0 : I3 137 0 = I 137 0 := by rw [ek_flow_137_0 p2, f1.1 137 (by omega) (by omega)]
  have f_137_1 : I3 137 1 = I 137 1 := by rw [ek_flow_137_1 p2, f1.1 137 (by omega) (by omega)]
  have f_137_2 : I3 137 2 = I 137 2 := by rw [ek_flow_137_2 p2, f1.1 137 (by omega) (by omega)]
  have f_103_59 : I3 103 59 = I 103 59 := by rw [ek_flow_103_59 p2, f1.1 103 (by omega) (by omega)]
  have f_103_60 : I3 103 60 = I 103 60 := by rw [ek_flow_103_60 p2, f1.1 103 (by omega) (by omega)]
  have f_103_61 : I3 103 61 = I 103 61 := by rw [ek_flow_103_61 p2, f1.1 103 (by omega) (by omega)]
  exact (by unfold rel; rw [f_98_0, f_98_1, f_98_2, f_97_3, f_97_4, f_97_5, f_137_0, f_137_1, f_137_2, f_103_59, f_103_60, f_103_61]; exact hr)

theorem rel.narrow {v0 v1 v2 : Int32} {x y : Int32} {n : Nat} {I I2 I3 : px_I} {L L2 L3 : px_L} {R : px_R} (hj : jJ n I R) (hr : rel I L) (f1 : frB I I2 L L2) (p1 : pb_narrow v0 v1 v2 I L x I2 L2) (f2 : frK I2 I3 L2 L3) (p2 : pk_narrow v0 v1 v2 I2 L2 y I3 L3) : rel I3 L3 := by
  have f_98_0 : I3 98 0 = I 98 0 := by rw [f2.1 98 (by omega), eb_narrow_98_0 p1]
  have f_98_1 : I3 98 1 = I 98 1 := by rw [f2.1 98 (by omega), eb_narrow_98_1 p1]
  have f_98_2 : I3 98 2 = I 98 2 := by rw [f2.1 98 (by omega), eb_narrow_98_2 p1]
  have f_97_3 : I3 97 3 = I 97 3 := by rw [f2.1 97 (by omega), eb_narrow_97_3 p1]
  have f_97_4 : I3 97 4 = I 97 4 := by rw [f2.1 97 (by omega), eb_narrow_97_4 p1]
  have f_97_5 : I3 97 5 = I 97 5 := by rw [f2.1 97 (by omega), eb_narrow_97_5 p1]
  have f_137_0 : I3 137 0 = I 137 0 := by rw [ek_narrow_137_0 p2, f1.1 137 (by omega) (by omega)]
  have f_137_1 : I3 137 1 = I 137 1 := by rw [ek_narrow_137_1 p2, f1.1 137 (by omega) (by omega)]
  have f_137_2 : I3 137 2 = I 137 2 := by rw [ek_narrow_137_2 p2, f1.1 137 (by omega) (by omega)]
  have f_103_59 : I3 103 59 = I 103 59 := by rw [ek_narrow_103_59 p2, f1.1 103 (by omega) (by omega)]
  have f_103_60 : I3 103 60 = I 103 60 := by rw [ek_narrow_103_60 p2, f1.1 103 (by omega) (by omega)]
  have f_103_61 : I3 103 61 = I 103 61 := by rw [ek_narrow_103_61 p2, f1.1 103 (by omega) (by omega)]
  exact (by unfold rel; rw [f_98_0, f_98_1, f_98_2, f_97_3, f_97_4, f_97_5, f_137_0, f_137_1, f_137_2, f_103_59, f_103_60, f_103_61]; exact hr)

theorem rel.about {v0 : Int32} {x y : Int32} {n : Nat} {I I2 I3 : px_I} {L L2 L3 : px_L} {R : px_R} (hj : jJ n I R) (hr : rel I L) (f1 : frB I I2 L L2) (p1 : pb_about v0 I L x I2 L2) (f2 : frK I2 I3 L2 L3) (p2 : pk_about v0 I2 L2 y I3 L3) : rel I3 L3 := by
  have f_98_0 : I3 98 0 = I 98 0 := by rw [f2.1 98 (by omega), eb_about_98_0 p1]
  have f_98_1 : I3 98 1 = I 98 1 := by rw [f2.1 98 (by omega), eb_about_98_1 p1]
  have f_98_2 : I3 98 2 = I 98 2 := by rw [f2.1 98 (by omega), eb_about_98_2 p1]
  have f_97_3 : I3 97 3 = I 97 3 := by rw [f2.1 97 (by omega), eb_about_97_3 p1]
  have f_97_4 : I3 97 4 = I 97 4 := by rw [f2.1 97 (by omega), eb_about_97_4 p1]
  have f_97_5 : I3 97 5 = I 97 5 := by rw [f2.1 97 (by omega), eb_about_97_5 p1]
  have f_137_0 : I3 137 0 = I 137 0 := by rw [ek_about_137_0 p2, f1.1 137 (by omega) (by omega)]
  have f_137_1 : I3 137 1 = I 137 1 := by rw [ek_about_137_1 p2, f1.1 137 (by omega) (by omega)]
  have f_137_2 : I3 137 2 = I 137 2 := by rw [ek_about_137_2 p2, f1.1 137 (by omega) (by omega)]
  have f_103_59 : I3 103 59 = I 103 59 := by rw [ek_about_103_59 p2, f1.1 103 (by omega) (by omega)]
  have f_103_60 : I3 103 60 = I 103 60 := by rw [ek_about_103_60 p2, f1.1 103 (by omega) (by omega)]
  have f_103_61 : I3 103 61 = I 103 61 := by rw [ek_about_103_61 p2, f1.1 103 (by omega) (by omega)]
  exact (by unfold rel; rw [f_98_0, f_98_1, f_98_2, f_97_3, f_97_4, f_97_5, f_137_0, f_137_1, f_137_2, f_103_59, f_103_60, f_103_61]; exact hr)
