/-! what agrees in both books -/

theorem WY0 : WY px_I0 px_R0 := by
  have n : ∀ j, px_R0 89 j = none := fun j => rfl
  refine ⟨fun _ => [], ⟨fun k hk => ?_, fun j hj x hx => ?_, fun j hj x hx => ?_⟩, fun w w0 w1 w2 => ?_, ⟨fun j hj x hx => ?_, fun i j hi hj hn x hx => ?_, fun j hj x hx => ?_⟩, fun j hj => ?_, fun k hk => ?_⟩
  · rcases (by omega : k = 0 ∨ k = 1 ∨ k = 2 ∨ k = 3 ∨ k = 4) with rfl | rfl | rfl | rfl | rfl <;> decide
  · rw [n] at hx; cases hx
  · rw [n] at hx; cases hx
  · exact absurd w2 (by show ¬ ((0 : Int32) = 1); decide)
  · rw [n] at hx; cases hx
  · rw [n] at hx; cases hx
  · rw [n] at hx; cases hx
  · rw [n]; rfl
  · rcases (by omega : k = 0 ∨ k = 1 ∨ k = 2 ∨ k = 3 ∨ k = 4) with rfl | rfl | rfl | rfl | rfl <;> decide

def srOk (I : px_I) : Prop := (∀ i : Nat, i < (I 33 8).toNatClampNeg → I 34 i = I 104 i ∧ I 35 i = I 105 i ∧ I 36 i = I 106 i ∧ I 37 i = I 107 i ∧ I 38 i = I 108 i ∧ I 39 i = I 109 i) ∧ cSo I
theorem srOk.eq {I J : px_I} (h7 : J 33 7 = I 33 7) (h8 : J 33 8 = I 33 8) (a4 : J 34 = I 34) (a5 : J 35 = I 35) (a6 : J 36 = I 36) (a7 : J 37 = I 37) (a8 : J 38 = I 38) (a9 : J 39 = I 39) (b4 : J 104 = I 104) (b5 : J 105 = I 105) (b6 : J 106 = I 106) (b7 : J 107 = I 107) (b8 : J 108 = I 108) (b9 : J 109 = I 109) (h : srOk I) : srOk J := by
  unfold srOk cSo at *
  rw [h7, h8, a4, a5, a6, a7, a8, a9, b4, b5, b6, b7, b8, b9]
  exact h
theorem gS_congr {A A2 : Nat → Bool} {f f2 t t2 : Nat → Nat} {p p2 q q2 : Nat → Int64} {c : Nat} (h : ∀ k, k < c → A k = A2 k ∧ f k = f2 k ∧ t k = t2 k ∧ p k = p2 k ∧ q k = q2 k) : ∀ k, k ≤ c → gS A f t p q k = gS A2 f2 t2 p2 q2 k
  | 0, _ => rfl
  | k + 1, hk => by
    obtain ⟨h1, h2, h3, h4, h5⟩ := h k (by omega)
    show (if A k = true then fU1 (fU1 (gS A f t p q k) (24 * f k + t k) (p k)) (24 * t k + f k) (q k) else gS A f t p q k) = (if A2 k = true then fU1 (fU1 (gS A2 f2 t2 p2 q2 k) (24 * f2 k + t2 k) (p2 k)) (24 * t2 k + f2 k) (q2 k) else gS A2 f2 t2 p2 q2 k)
    rw [h1, h2, h3, h4, h5, gS_congr h k (by omega)]
theorem cmD {I J : px_I} (h : ∀ i : Nat, i < (I 33 8).toNatClampNeg → I 34 i = J 104 i ∧ I 35 i = J 105 i ∧ I 36 i = J 106 i ∧ I 37 i = J 107 i ∧ I 38 i = J 108 i ∧ I 39 i = J 109 i) (h7 : I 33 7 = J 103 1) (h8 : I 33 8 = J 103 2) (a k w : Int32) : cD I a k w = mD J a k w := by
  unfold cD mD sD gD
  rw [← h7, ← h8]
  refine congrArg (fun F => fAll F (I 33 7).toNatClampNeg (I 33 7).toNatClampNeg) (gS_congr (c := (I 33 8).toNatClampNeg) (fun i hi => ?_) _ (Nat.le_refl _))
  obtain ⟨e1, e2, e3, e4, e5, e6⟩ := h i hi
  refine ⟨?_, ?_, ?_, ?_, ?_⟩
  · unfold sAc; rw [e1, e6]
  · unfold sNt; rw [e2]
  · unfold sNt; rw [e3]
  · unfold sPl; rw [e5]
  · unfold sMi; rw [e4]
theorem cmG {I J : px_I} (h : ∀ i : Nat, i < (I 33 8).toNatClampNeg → I 34 i = J 104 i ∧ I 35 i = J 105 i ∧ I 36 i = J 106 i ∧ I 37 i = J 107 i ∧ I 38 i = J 108 i ∧ I 39 i = J 109 i) (h7 : I 33 7 = J 103 1) (h8 : I 33 8 = J 103 2) (a k w : Int32) : cGd I a k w ↔ mGd J a k w := by
  unfold cGd mGd
  rw [cmD h h7 h8, h7]
theorem bF_congr {T T2 : Nat → Bool} : ∀ (m k : Nat) (l : Int32), (∀ i, k ≤ i → i < k + m → T i = T2 i) → bF T m k l = bF T2 m k l
  | 0, _, _, _ => rfl
  | m + 1, k, l, h => by
    show (if T k = true then (if l = 0 then Int32.ofNat k else bF T m (k + 1) (l + -1)) else bF T m (k + 1) l) = (if T2 k = true then (if l = 0 then Int32.ofNat k else bF T2 m (k + 1) (l + -1)) else bF T2 m (k + 1) l)
    rw [h k (Nat.le_refl _) (by omega), bF_congr m (k + 1) (l + -1) (fun i h1 h2 => h i (by omega) (by omega)), bF_congr m (k + 1) l (fun i h1 h2 => h i (by omega) (by omega))]

theorem eb_station_32_10 { x : Int32} {I I2 : px_I} {L L2 : px_L} (h : pb_station  I L x I2 L2) : I2 32 10 = I 32 10 := by
  unfold pb_station at h
  obtain ⟨rfl, h⟩ := h
  rcases h with ⟨a1, rfl, rfl⟩ | ⟨a1, rfl, rfl⟩
  · (repeat rw [px_u_out (by omega)])
  · rfl

theorem ek_station_103_0 { x : Int32} {I I2 : px_I} {L L2 : px_L} (h : pk_station  I L x I2 L2) : I2 103 0 = I 103 0 := by
  unfold pk_station at h
  obtain ⟨rfl, h⟩ := h
  rcases h with ⟨a1, rfl, rfl⟩ | ⟨a1, rfl, rfl⟩
  · (repeat rw [px_u_out (by omega)])
  · rfl

theorem eb_sight_32_10 {a f t lo hi x : Int32} {I I2 : px_I} {L L2 : px_L} (h : pb_sight a f t lo hi I L x I2 L2) : I2 32 10 = I 32 10 := by
  unfold pb_sight at h
  obtain ⟨rfl, h⟩ := h
  rcases h with ⟨a1, rfl, rfl⟩ | ⟨a1, rfl, rfl⟩
  · (repeat rw [px_u_out (by omega)])
  · rfl

theorem ek_sight_103_0 {a f t lo hi x : Int32} {I I2 : px_I} {L L2 : px_L} (h : pk_sight a f t lo hi I L x I2 L2) : I2 103 0 = I 103 0 := by
  unfold pk_sight at h
  obtain ⟨rfl, h⟩ := h
  rcases h with ⟨a1, rfl, rfl⟩ | ⟨a1, rfl, rfl⟩
  · (repeat rw [px_u_out (by omega)])
  · rfl

theorem eb_closed_32_10 {a k x : Int32} {I I2 : px_I} {L L2 : px_L} (h : pb_closed a k I L x I2 L2) : I2 32 10 = I 32 10 := by
  unfold pb_closed at h
  obtain ⟨rfl, h⟩ := h
  rfl

theorem ek_closed_103_0 {a k x : Int32} {I I2 : px_I} {L L2 : px_L} (h : pk_closed a k I L x I2 L2) : I2 103 0 = I 103 0 := by
  unfold pk_closed at h
  exact h.1 103 0 (by omega)

theorem eb_span_32_10 {a t k h x : Int32} {I I2 : px_I} {L L2 : px_L} (h : pb_span a t k h I L x I2 L2) : I2 32 10 = I 32 10 := by
  unfold pb_span at h
  obtain ⟨rfl, h⟩ := h
  rfl

theorem ek_span_103_0 {a t k h x : Int32} {I I2 : px_I} {L L2 : px_L} (h : pk_span a t k h I L x I2 L2) : I2 103 0 = I 103 0 := by
  unfold pk_span at h
  exact h.1 103 0 (by omega)

theorem eb_gap_32_10 {a f t k h x : Int32} {I I2 : px_I} {L L2 : px_L} (h : pb_gap a f t k h I L x I2 L2) : I2 32 10 = I 32 10 := by
  unfold pb_gap at h
  obtain ⟨rfl, h⟩ := h
  rfl

theorem ek_gap_103_0 {a f t k h x : Int32} {I I2 : px_I} {L L2 : px_L} (h : pk_gap a f t k h I L x I2 L2) : I2 103 0 = I 103 0 := by
  unfold pk_gap at h
  exact h.1 103 0 (by omega)

theorem eb_blamed_32_10 {a k i x : Int32} {I I2 : px_I} {L L2 : px_L} (h : pb_blamed a k i I L x I2 L2) : I2 32 10 = I 32 10 := by
  unfold pb_blamed at h
  obtain ⟨rfl, h⟩ := h
  rfl

theorem ek_blamed_103_0 {a k i x : Int32} {I I2 : px_I} {L L2 : px_L} (h : pk_blamed a k i I L x I2 L2) : I2 103 0 = I 103 0 := by
  unfold pk_blamed at h
  exact h.1 103 0 (by omega)

theorem eb_reach_32_10 {g lo hi sl fa w st x : Int32} {I I2 : px_I} {L L2 : px_L} (h : pb_reach g lo hi sl fa w st I L x I2 L2) : I2 32 10 = I 32 10 := by
  unfold pb_reach at h
  obtain ⟨rfl, h⟩ := h
  rcases h with ⟨G, ⟨g1, g2, g3⟩, rfl, rfl⟩ | ⟨a1, rfl, rfl⟩
  · have gG : G = 41 ∨ G = 55 := by unfold bG at g1; omega
    rw [cReach_o (by omega)]
  · rfl

theorem ek_reach_103_0 {g lo hi sl fa w st x : Int32} {I I2 : px_I} {L L2 : px_L} (h : pk_reach g lo hi sl fa w st I L x I2 L2) : I2 103 0 = I 103 0 := by
  unfold pk_reach at h
  obtain ⟨rfl, h⟩ := h
  rcases h with ⟨a1, rfl, rfl⟩ | ⟨a1, rfl, rfl⟩
  · unfold mReach; (repeat rw [px_u_out (by omega)])
  · rfl

theorem eb_mouth_32_10 {g st x : Int32} {I I2 : px_I} {L L2 : px_L} (h : pb_mouth g st I L x I2 L2) : I2 32 10 = I 32 10 := by
  unfold pb_mouth at h
  obtain ⟨rfl, h⟩ := h
  rcases h with ⟨G, g1, rfl⟩ | rfl
  · have gG : G = 41 ∨ G = 55 := by unfold bG at g1; omega
    (repeat rw [px_u_out (by omega)])
  · rfl

theorem ek_mouth_103_0 {g st x : Int32} {I I2 : px_I} {L L2 : px_L} (h : pk_mouth g st I L x I2 L2) : I2 103 0 = I 103 0 := by
  unfold pk_mouth at h
  obtain ⟨rfl, h⟩ := h
  rcases h with ⟨a1, a2, rfl, rfl⟩ | ⟨a1, rfl, rfl⟩
  · (repeat rw [px_u_out (by omega)])
  · rfl

theorem eb_mark_32_10 {g p f t x : Int32} {I I2 : px_I} {L L2 : px_L} (h : pb_mark g p f t I L x I2 L2) : I2 32 10 = I 32 10 := by
  unfold pb_mark at h
  obtain ⟨rfl, h⟩ := h
  rcases h with ⟨G, g1, rfl, rfl⟩ | ⟨a1, rfl, rfl⟩
  · have g2 := g1.1
    have gG : G = 41 ∨ G = 55 := by unfold bG at g2; omega
    unfold cMark; (repeat rw [px_u_out (by omega)])
  · rfl

theorem ek_mark_103_0 {g p f t x : Int32} {I I2 : px_I} {L L2 : px_L} (h : pk_mark g p f t I L x I2 L2) : I2 103 0 = I 103 0 := by
  unfold pk_mark at h
  obtain ⟨rfl, h⟩ := h
  rcases h with ⟨a1, rfl, rfl⟩ | ⟨a1, rfl, rfl⟩
  · unfold mMark; (repeat rw [px_u_out (by omega)])
  · rfl

theorem eb_when_32_10 {g p h x : Int32} {I I2 : px_I} {L L2 : px_L} (h : pb_when g p h I L x I2 L2) : I2 32 10 = I 32 10 := by
  unfold pb_when at h
  obtain ⟨rfl, h⟩ := h
  rw [h 32 (by decide) (by decide) (by decide) (by decide)]

theorem ek_when_103_0 {g p h x : Int32} {I I2 : px_I} {L L2 : px_L} (h : pk_when g p h I L x I2 L2) : I2 103 0 = I 103 0 := by
  unfold pk_when at h
  exact h.1 103 0 (by omega)

theorem eb_between_32_10 {g p q h x : Int32} {I I2 : px_I} {L L2 : px_L} (h : pb_between g p q h I L x I2 L2) : I2 32 10 = I 32 10 := by
  unfold pb_between at h
  obtain ⟨rfl, h⟩ := h
  rw [h 32 (by decide) (by decide) (by decide) (by decide)]

theorem ek_between_103_0 {g p t h x : Int32} {I I2 : px_I} {L L2 : px_L} (h : pk_between g p t h I L x I2 L2) : I2 103 0 = I 103 0 := by
  unfold pk_between at h
  exact h.1 103 0 (by omega)

theorem eb_lamps_32_10 {g p h lo hi x : Int32} {I I2 : px_I} {L L2 : px_L} (h : pb_lamps g p h lo hi I L x I2 L2) : I2 32 10 = I 32 10 := by
  unfold pb_lamps at h
  rw [h.1]

theorem ek_lamps_103_0 {g p h lo hi x : Int32} {I I2 : px_I} {L L2 : px_L} (h : pk_lamps g p h lo hi I L x I2 L2) : I2 103 0 = I 103 0 := by
  unfold pk_lamps at h
  rw [h.1]

theorem eb_count_32_10 {u lo hi x : Int32} {I I2 : px_I} {L L2 : px_L} (h : pb_count u lo hi I L x I2 L2) : I2 32 10 = I 32 10 := by
  unfold pb_count at h
  obtain ⟨rfl, h⟩ := h
  rcases h with ⟨a1, rfl, rfl⟩ | ⟨a1, rfl, rfl⟩
  · (repeat rw [px_u_out (by omega)])
  · rfl

theorem ek_count_103_0 {u lo hi x : Int32} {I I2 : px_I} {L L2 : px_L} (h : pk_count u lo hi I L x I2 L2) : I2 103 0 = I 103 0 := by
  unfold pk_count at h
  rcases h with ⟨a1, rfl, rfl, rfl⟩ | ⟨a1, rfl, rfl, rfl⟩
  · (repeat rw [px_u_out (by omega)])
  · rfl

theorem eb_unit_32_10 {h x : Int32} {I I2 : px_I} {L L2 : px_L} (h : pb_unit h I L x I2 L2) : I2 32 10 = I 32 10 := by
  unfold pb_unit at h
  rw [h.1]

theorem ek_unit_103_0 {h x : Int32} {I I2 : px_I} {L L2 : px_L} (h : pk_unit h I L x I2 L2) : I2 103 0 = I 103 0 := by
  unfold pk_unit at h
  rw [h.1]

theorem eb_feed_32_10 {a b c d e x : Int32} {I I2 : px_I} {L L2 : px_L} (h : pb_feed a b c d e I L x I2 L2) : I2 32 10 = I 32 10 := by
  unfold pb_feed at h
  obtain ⟨rfl, h⟩ := h
  rcases h with ⟨a1, rfl, rfl⟩ | ⟨a1, rfl, rfl⟩
  · rw [cApp_at _ _ 32 10 (by omega) (by omega), cApp_at _ _ 32 10 (by omega) (by omega), cApp_at _ _ 32 10 (by omega) (by omega), cApp_at _ _ 32 10 (by omega) (by omega), cApp_at _ _ 32 10 (by omega) (by omega)]
  · rfl

theorem ek_feed_103_0 {a b c d e x : Int32} {I I2 : px_I} {L L2 : px_L} (h : pk_feed a b c d e I L x I2 L2) : I2 103 0 = I 103 0 := by
  unfold pk_feed at h
  obtain ⟨rfl, h⟩ := h
  rcases h with ⟨a1, rfl, rfl⟩ | ⟨a1, rfl, rfl⟩
  · rw [mPut_o (by omega) (by omega), mPut_o (by omega) (by omega), mPut_o (by omega) (by omega), mPut_o (by omega) (by omega), mPut_o (by omega) (by omega)]
  · rfl

theorem eb_end_32_10 {x9 x : Int32} {I I2 : px_I} {L L2 : px_L} (h : pb_end x9 I L x I2 L2) : I2 32 10 = I 32 10 := by
  unfold pb_end at h
  obtain ⟨rfl, h⟩ := h
  rcases h with ⟨a1, rfl, rfl⟩ | ⟨a1, rfl, rfl⟩
  · (repeat rw [px_u_out (by omega)])
  · rfl

theorem ek_end_103_0 {x9 x : Int32} {I I2 : px_I} {L L2 : px_L} (h : pk_end x9 I L x I2 L2) : I2 103 0 = I 103 0 := by
  unfold pk_end at h
  obtain ⟨rfl, h⟩ := h
  rcases h with ⟨a1, a2, rfl, rfl⟩ | ⟨a1, rfl, rfl⟩
  · (repeat rw [px_u_out (by omega)])
  · rfl

theorem eb_way_32_10 {i x : Int32} {I I2 : px_I} {L L2 : px_L} (h : pb_way i I L x I2 L2) : I2 32 10 = I 32 10 := by
  unfold pb_way at h
  exact h.1 32 10 (by omega) (by omega) (by omega) (by omega) (by omega)

theorem ek_way_103_0 {w x : Int32} {I I2 : px_I} {L L2 : px_L} (h : pk_way w I L x I2 L2) : I2 103 0 = I 103 0 := by
  unfold pk_way at h
  obtain ⟨rfl, h⟩ := h
  rcases h with ⟨a1, a2, rfl⟩ | ⟨a1, a2, a3⟩
  · rfl
  · exact a2 103 0 (by omega) (by omega)

theorem eb_fault_32_10 {x9 x : Int32} {I I2 : px_I} {L L2 : px_L} (h : pb_fault x9 I L x I2 L2) : I2 32 10 = I 32 10 := by
  unfold pb_fault at h
  rw [h.1]

theorem ek_fault_103_0 {x9 x : Int32} {I I2 : px_I} {L L2 : px_L} (h : pk_fault x9 I L x I2 L2) : I2 103 0 = I 103 0 := by
  unfold pk_fault at h
  rw [h.1]

theorem eb_tools_32_10 {a b c d e x : Int32} {I I2 : px_I} {L L2 : px_L} (h : pb_tools a b c d e I L x I2 L2) : I2 32 10 = I 32 10 := by
  unfold pb_tools at h
  obtain ⟨rfl, h⟩ := h
  rcases h with ⟨a1, rfl, a2⟩ | ⟨a1, rfl, rfl⟩
  · rw [a2 32 (by decide)]; (repeat rw [px_u_out (by omega)])
  · rfl

theorem ek_tools_103_0 {a b c d e x : Int32} {I I2 : px_I} {L L2 : px_L} (h : pk_tools a b c d e I L x I2 L2) : I2 103 0 = I 103 0 := by
  unfold pk_tools at h
  obtain ⟨rfl, h⟩ := h
  rcases h with ⟨a1, rfl, rfl⟩ | ⟨a1, rfl, rfl⟩
  · (repeat rw [px_u_out (by omega)])
  · rfl

theorem eb_run_32_10 {w h a x : Int32} {I I2 : px_I} {L L2 : px_L} (h : pb_run w h a I L x I2 L2) : I2 32 10 = I 32 10 := by
  unfold pb_run at h
  exact h.1 32 10 (by omega) (by omega) (by omega) (by omega) (by omega) (by omega) (by omega)

theorem ek_run_103_0 {w h a x : Int32} {I I2 : px_I} {L L2 : px_L} (h : pk_run w h a I L x I2 L2) : I2 103 0 = I 103 0 := by
  unfold pk_run at h
  exact h.1 103 0 (by omega) (by omega) (by omega)

theorem eb_meeting_32_10 {a f b t x9 h x : Int32} {I I2 : px_I} {L L2 : px_L} (h : pb_meeting a f b t x9 h I L x I2 L2) : I2 32 10 = I 32 10 := by
  unfold pb_meeting at h
  exact h.1 32 10 (by omega) (by omega) (by omega) (by omega) (by omega) (by omega) (by omega)

theorem ek_meeting_103_0 {a f b t x9 h x : Int32} {I I2 : px_I} {L L2 : px_L} (h : pk_meeting a f b t x9 h I L x I2 L2) : I2 103 0 = I 103 0 := by
  unfold pk_meeting at h
  exact h.1 103 0 (by omega) (by omega) (by omega)

theorem eb_there_32_10 {a lo hi x : Int32} {I I2 : px_I} {L L2 : px_L} (h : pb_there a lo hi I L x I2 L2) : I2 32 10 = I 32 10 := by
  unfold pb_there at h
  obtain ⟨rfl, h⟩ := h
  rcases h with ⟨a1, rfl, rfl⟩ | ⟨a1, rfl, rfl⟩
  · (repeat rw [px_u_out (by omega)])
  · rfl

theorem ek_there_103_0 {a lo hi x : Int32} {I I2 : px_I} {L L2 : px_L} (h : pk_there a lo hi I L x I2 L2) : I2 103 0 = I 103 0 := by
  unfold pk_there at h
  obtain ⟨rfl, h⟩ := h
  rcases h with ⟨a1, rfl, rfl⟩ | ⟨a1, rfl, rfl⟩
  · (repeat rw [px_u_out (by omega)])
  · rfl

theorem eb_fits_32_10 {a f b t x : Int32} {I I2 : px_I} {L L2 : px_L} (h : pb_fits a f b t I L x I2 L2) : I2 32 10 = I 32 10 := by
  unfold pb_fits at h
  exact h.1 32 10 (by omega) (by omega) (by omega) (by omega) (by omega) (by omega) (by omega)

theorem ek_fits_103_0 {a f b t x : Int32} {I I2 : px_I} {L L2 : px_L} (h : pk_fits a f b t I L x I2 L2) : I2 103 0 = I 103 0 := by
  unfold pk_fits at h
  exact h.1 103 0 (by omega) (by omega) (by omega)

theorem eb_ways_32_10 {a f b t x9 x : Int32} {I I2 : px_I} {L L2 : px_L} (h : pb_ways a f b t x9 I L x I2 L2) : I2 32 10 = I 32 10 := by
  unfold pb_ways at h
  exact h.1 32 10 (by omega) (by omega) (by omega) (by omega) (by omega) (by omega) (by omega)

theorem ek_ways_103_0 {a f b t x9 x : Int32} {I I2 : px_I} {L L2 : px_L} (h : pk_ways a f b t x9 I L x I2 L2) : I2 103 0 = I 103 0 := by
  unfold pk_ways at h
  exact h.1 103 0 (by omega) (by omega) (by omega)

theorem eb_seek_32_10 {a b c d e f x : Int32} {I I2 : px_I} {L L2 : px_L} (h : pb_seek a b c d e f I L x I2 L2) : I2 32 10 = I 32 10 := by
  unfold pb_seek at h
  obtain ⟨rfl, h⟩ := h
  rcases h with ⟨a1, rfl, rfl⟩ | ⟨a1, rfl, rfl⟩
  · (repeat rw [px_u_out (by omega)])
  · rfl

theorem ek_seek_103_0 {a b c d e f x : Int32} {I I2 : px_I} {L L2 : px_L} (h : pk_seek a b c d e f I L x I2 L2) : I2 103 0 = I 103 0 := by
  unfold pk_seek at h
  obtain ⟨rfl, h⟩ := h
  rcases h with ⟨a1, rfl, rfl⟩ | ⟨a1, rfl, rfl⟩
  · (repeat rw [px_u_out (by omega)])
  · rfl

theorem eb_detour_32_10 {a o h x : Int32} {I I2 : px_I} {L L2 : px_L} (h : pb_detour a o h I L x I2 L2) : I2 32 10 = I 32 10 := by
  unfold pb_detour at h
  rw [h.1]

theorem ek_detour_103_0 {a o lo x : Int32} {I I2 : px_I} {L L2 : px_L} (h : pk_detour a o lo I L x I2 L2) : I2 103 0 = I 103 0 := by
  unfold pk_detour at h
  rw [h.1]

theorem eb_table_32_10 {c v x : Int32} {I I2 : px_I} {L L2 : px_L} (h : pb_table c v I L x I2 L2) : I2 32 10 = I 32 10 := by
  unfold pb_table at h
  obtain ⟨rfl, h⟩ := h
  rcases h with ⟨a1, rfl, rfl⟩ | ⟨a1, rfl, rfl⟩
  · (repeat rw [px_u_out (by omega)])
  · rfl

theorem ek_table_103_0 {c v x : Int32} {I I2 : px_I} {L L2 : px_L} (h : pk_table c v I L x I2 L2) : I2 103 0 = I 103 0 := by
  unfold pk_table at h
  obtain ⟨rfl, h⟩ := h
  rcases h with ⟨a1, rfl, rfl⟩ | ⟨a1, rfl, rfl⟩
  · (repeat rw [px_u_out (by omega)])
  · rfl

theorem eb_repair_32_10 {g p y x : Int32} {I I2 : px_I} {L L2 : px_L} (h : pb_repair g p y I L x I2 L2) : I2 32 10 = I 32 10 := by
  unfold pb_repair at h
  obtain ⟨rfl, h⟩ := h
  rcases h with ⟨G, g1, rfl, rfl⟩ | ⟨a1, rfl, rfl⟩
  · have g2 := g1.1
    have gG : G = 41 ∨ G = 55 := by unfold bG at g2; omega
    unfold cRep; (repeat rw [px_u_out (by omega)])
  · rfl

theorem ek_repair_103_0 {g p y x : Int32} {I I2 : px_I} {L L2 : px_L} (h : pk_repair g p y I L x I2 L2) : I2 103 0 = I 103 0 := by
  unfold pk_repair at h
  obtain ⟨rfl, h⟩ := h
  rcases h with ⟨a1, rfl, rfl⟩ | ⟨a1, rfl, rfl⟩
  · (repeat rw [px_u_out (by omega)])
  · rfl

theorem eb_lime_32_10 {v x : Int32} {I I2 : px_I} {L L2 : px_L} (h : pb_lime v I L x I2 L2) : I2 32 10 = I 32 10 := by
  unfold pb_lime at h
  obtain ⟨rfl, h⟩ := h
  rcases h with ⟨a1, rfl, rfl⟩ | ⟨a1, rfl, rfl⟩
  · (repeat rw [px_u_out (by omega)])
  · rfl

theorem ek_lime_103_0 {v x : Int32} {I I2 : px_I} {L L2 : px_L} (h : pk_lime v I L x I2 L2) : I2 103 0 = I 103 0 := by
  unfold pk_lime at h
  obtain ⟨rfl, h⟩ := h
  rcases h with ⟨a1, a2, rfl, rfl⟩ | ⟨a1, rfl, rfl⟩
  · (repeat rw [px_u_out (by omega)])
  · rfl

theorem eb_flow_32_10 {g y k h x : Int32} {I I2 : px_I} {L L2 : px_L} (h : pb_flow g y k h I L x I2 L2) : I2 32 10 = I 32 10 := by
  unfold pb_flow at h
  exact h.1 32 10 (by omega)

theorem ek_flow_103_0 {g y k h x : Int32} {I I2 : px_I} {L L2 : px_L} (h : pk_flow g y k h I L x I2 L2) : I2 103 0 = I 103 0 := by
  unfold pk_flow at h
  exact h.1 103 0 (by omega)

theorem eb_narrow_32_10 {g y k x : Int32} {I I2 : px_I} {L L2 : px_L} (h : pb_narrow g y k I L x I2 L2) : I2 32 10 = I 32 10 := by
  unfold pb_narrow at h
  exact h.1 32 10 (by omega)

theorem ek_narrow_103_0 {g y k x : Int32} {I I2 : px_I} {L L2 : px_L} (h : pk_narrow g y k I L x I2 L2) : I2 103 0 = I 103 0 := by
  unfold pk_narrow at h
  exact h.1 103 0 (by omega)

theorem eb_about_32_10 {w x : Int32} {I I2 : px_I} {L L2 : px_L} (h : pb_about w I L x I2 L2) : I2 32 10 = I 32 10 := by
  unfold pb_about at h
  rw [h.1]

theorem ek_about_103_0 {w x : Int32} {I I2 : px_I} {L L2 : px_L} (h : pk_about w I L x I2 L2) : I2 103 0 = I 103 0 := by
  unfold pk_about at h
  rw [h.1]

theorem eb_days_33_7 {x9 x : Int32} {I I2 : px_I} {L L2 : px_L} (h : pb_days x9 I L x I2 L2) : I2 33 7 = I 33 7 := by
  unfold pb_days at h
  obtain ⟨rfl, h⟩ := h
  rcases h with ⟨a1, a2, rfl, rfl⟩ | ⟨a1, rfl, rfl⟩
  · (repeat rw [px_u_out (by omega)])
  · rfl

theorem ek_days_103_1 {x9 x : Int32} {I I2 : px_I} {L L2 : px_L} (h : pk_days x9 I L x I2 L2) : I2 103 1 = I 103 1 := by
  unfold pk_days at h
  obtain ⟨rfl, h⟩ := h
  rcases h with ⟨a1, a2, a3, rfl, rfl⟩ | ⟨a1, rfl, rfl⟩
  · (repeat rw [px_u_out (by omega)])
  · rfl

theorem eb_sight_33_7 {a f t lo hi x : Int32} {I I2 : px_I} {L L2 : px_L} (h : pb_sight a f t lo hi I L x I2 L2) : I2 33 7 = I 33 7 := by
  unfold pb_sight at h
  obtain ⟨rfl, h⟩ := h
  rcases h with ⟨a1, rfl, rfl⟩ | ⟨a1, rfl, rfl⟩
  · (repeat rw [px_u_out (by omega)])
  · rfl

theorem ek_sight_103_1 {a f t lo hi x : Int32} {I I2 : px_I} {L L2 : px_L} (h : pk_sight a f t lo hi I L x I2 L2) : I2 103 1 = I 103 1 := by
  unfold pk_sight at h
  obtain ⟨rfl, h⟩ := h
  rcases h with ⟨a1, rfl, rfl⟩ | ⟨a1, rfl, rfl⟩
  · (repeat rw [px_u_out (by omega)])
  · rfl

theorem eb_closed_33_7 {a k x : Int32} {I I2 : px_I} {L L2 : px_L} (h : pb_closed a k I L x I2 L2) : I2 33 7 = I 33 7 := by
  unfold pb_closed at h
  obtain ⟨rfl, h⟩ := h
  rfl

theorem ek_closed_103_1 {a k x : Int32} {I I2 : px_I} {L L2 : px_L} (h : pk_closed a k I L x I2 L2) : I2 103 1 = I 103 1 := by
  unfold pk_closed at h
  exact h.1 103 1 (by omega)

theorem eb_span_33_7 {a t k h x : Int32} {I I2 : px_I} {L L2 : px_L} (h : pb_span a t k h I L x I2 L2) : I2 33 7 = I 33 7 := by
  unfold pb_span at h
  obtain ⟨rfl, h⟩ := h
  rfl

theorem ek_span_103_1 {a t k h x : Int32} {I I2 : px_I} {L L2 : px_L} (h : pk_span a t k h I L x I2 L2) : I2 103 1 = I 103 1 := by
  unfold pk_span at h
  exact h.1 103 1 (by omega)

theorem eb_gap_33_7 {a f t k h x : Int32} {I I2 : px_I} {L L2 : px_L} (h : pb_gap a f t k h I L x I2 L2) : I2 33 7 = I 33 7 := by
  unfold pb_gap at h
  obtain ⟨rfl, h⟩ := h
  rfl

theorem ek_gap_103_1 {a f t k h x : Int32} {I I2 : px_I} {L L2 : px_L} (h : pk_gap a f t k h I L x I2 L2) : I2 103 1 = I 103 1 := by
  unfold pk_gap at h
  exact h.1 103 1 (by omega)

theorem eb_blamed_33_7 {a k i x : Int32} {I I2 : px_I} {L L2 : px_L} (h : pb_blamed a k i I L x I2 L2) : I2 33 7 = I 33 7 := by
  unfold pb_blamed at h
  obtain ⟨rfl, h⟩ := h
  rfl

theorem ek_blamed_103_1 {a k i x : Int32} {I I2 : px_I} {L L2 : px_L} (h : pk_blamed a k i I L x I2 L2) : I2 103 1 = I 103 1 := by
  unfold pk_blamed at h
  exact h.1 103 1 (by omega)

theorem eb_reach_33_7 {g lo hi sl fa w st x : Int32} {I I2 : px_I} {L L2 : px_L} (h : pb_reach g lo hi sl fa w st I L x I2 L2) : I2 33 7 = I 33 7 := by
  unfold pb_reach at h
  obtain ⟨rfl, h⟩ := h
  rcases h with ⟨G, ⟨g1, g2, g3⟩, rfl, rfl⟩ | ⟨a1, rfl, rfl⟩
  · have gG : G = 41 ∨ G = 55 := by unfold bG at g1; omega
    rw [cReach_o (by omega)]
  · rfl

theorem ek_reach_103_1 {g lo hi sl fa w st x : Int32} {I I2 : px_I} {L L2 : px_L} (h : pk_reach g lo hi sl fa w st I L x I2 L2) : I2 103 1 = I 103 1 := by
  unfold pk_reach at h
  obtain ⟨rfl, h⟩ := h
  rcases h with ⟨a1, rfl, rfl⟩ | ⟨a1, rfl, rfl⟩
  · unfold mReach; (repeat rw [px_u_out (by omega)])
  · rfl

theorem eb_mouth_33_7 {g st x : Int32} {I I2 : px_I} {L L2 : px_L} (h : pb_mouth g st I L x I2 L2) : I2 33 7 = I 33 7 := by
  unfold pb_mouth at h
  obtain ⟨rfl, h⟩ := h
  rcases h with ⟨G, g1, rfl⟩ | rfl
  · have gG : G = 41 ∨ G = 55 := by unfold bG at g1; omega
    (repeat rw [px_u_out (by omega)])
  · rfl

theorem ek_mouth_103_1 {g st x : Int32} {I I2 : px_I} {L L2 : px_L} (h : pk_mouth g st I L x I2 L2) : I2 103 1 = I 103 1 := by
  unfold pk_mouth at h
  obtain ⟨rfl, h⟩ := h
  rcases h with ⟨a1, a2, rfl, rfl⟩ | ⟨a1, rfl, rfl⟩
  · (repeat rw [px_u_out (by omega)])
  · rfl

theorem eb_mark_33_7 {g p f t x : Int32} {I I2 : px_I} {L L2 : px_L} (h : pb_mark g p f t I L x I2 L2) : I2 33 7 = I 33 7 := by
  unfold pb_mark at h
  obtain ⟨rfl, h⟩ := h
  rcases h with ⟨G, g1, rfl, rfl⟩ | ⟨a1, rfl, rfl⟩
  · have g2 := g1.1
    have gG : G = 41 ∨ G = 55 := by unfold bG at g2; omega
    unfold cMark; (repeat rw [px_u_out (by omega)])
  · rfl

theorem ek_mark_103_1 {g p f t x : Int32} {I I2 : px_I} {L L2 : px_L} (h : pk_mark g p f t I L x I2 L2) : I2 103 1 = I 103 1 := by
  unfold pk_mark at h
  obtain ⟨rfl, h⟩ := h
  rcases h with ⟨a1, rfl, rfl⟩ | ⟨a1, rfl, rfl⟩
  · unfold mMark; (repeat rw [px_u_out (by omega)])
  · rfl

theorem eb_when_33_7 {g p h x : Int32} {I I2 : px_I} {L L2 : px_L} (h : pb_when g p h I L x I2 L2) : I2 33 7 = I 33 7 := by
  unfold pb_when at h
  obtain ⟨rfl, h⟩ := h
  rw [h 33 (by decide) (by decide) (by decide) (by decide)]

theorem ek_when_103_1 {g p h x : Int32} {I I2 : px_I} {L L2 : px_L} (h : pk_when g p h I L x I2 L2) : I2 103 1 = I 103 1 := by
  unfold pk_when at h
  exact h.1 103 1 (by omega)

theorem eb_between_33_7 {g p q h x : Int32} {I I2 : px_I} {L L2 : px_L} (h : pb_between g p q h I L x I2 L2) : I2 33 7 = I 33 7 := by
  unfold pb_between at h
  obtain ⟨rfl, h⟩ := h
  rw [h 33 (by decide) (by decide) (by decide) (by decide)]

theorem ek_between_103_1 {g p t h x : Int32} {I I2 : px_I} {L L2 : px_L} (h : pk_between g p t h I L x I2 L2) : I2 103 1 = I 103 1 := by
  unfold pk_between at h
  exact h.1 103 1 (by omega)

theorem eb_lamps_33_7 {g p h lo hi x : Int32} {I I2 : px_I} {L L2 : px_L} (h : pb_lamps g p h lo hi I L x I2 L2) : I2 33 7 = I 33 7 := by
  unfold pb_lamps at h
  rw [h.1]

theorem ek_lamps_103_1 {g p h lo hi x : Int32} {I I2 : px_I} {L L2 : px_L} (h : pk_lamps g p h lo hi I L x I2 L2) : I2 103 1 = I 103 1 := by
  unfold pk_lamps at h
  rw [h.1]

theorem eb_count_33_7 {u lo hi x : Int32} {I I2 : px_I} {L L2 : px_L} (h : pb_count u lo hi I L x I2 L2) : I2 33 7 = I 33 7 := by
  unfold pb_count at h
  obtain ⟨rfl, h⟩ := h
  rcases h with ⟨a1, rfl, rfl⟩ | ⟨a1, rfl, rfl⟩
  · (repeat rw [px_u_out (by omega)])
  · rfl

theorem ek_count_103_1 {u lo hi x : Int32} {I I2 : px_I} {L L2 : px_L} (h : pk_count u lo hi I L x I2 L2) : I2 103 1 = I 103 1 := by
  unfold pk_count at h
  rcases h with ⟨a1, rfl, rfl, rfl⟩ | ⟨a1, rfl, rfl, rfl⟩
  · (repeat rw [px_u_out (by omega)])
  · rfl

theorem eb_unit_33_7 {h x : Int32} {I I2 : px_I} {L L2 : px_L} (h : pb_unit h I L x I2 L2) : I2 33 7 = I 33 7 := by
  unfold pb_unit at h
  rw [h.1]

theorem ek_unit_103_1 {h x : Int32} {I I2 : px_I} {L L2 : px_L} (h : pk_unit h I L x I2 L2) : I2 103 1 = I 103 1 := by
  unfold pk_unit at h
  rw [h.1]

theorem eb_feed_33_7 {a b c d e x : Int32} {I I2 : px_I} {L L2 : px_L} (h : pb_feed a b c d e I L x I2 L2) : I2 33 7 = I 33 7 := by
  unfold pb_feed at h
  obtain ⟨rfl, h⟩ := h
  rcases h with ⟨a1, rfl, rfl⟩ | ⟨a1, rfl, rfl⟩
  · rw [cApp_at _ _ 33 7 (by omega) (by omega), cApp_at _ _ 33 7 (by omega) (by omega), cApp_at _ _ 33 7 (by omega) (by omega), cApp_at _ _ 33 7 (by omega) (by omega), cApp_at _ _ 33 7 (by omega) (by omega)]
  · rfl

theorem ek_feed_103_1 {a b c d e x : Int32} {I I2 : px_I} {L L2 : px_L} (h : pk_feed a b c d e I L x I2 L2) : I2 103 1 = I 103 1 := by
  unfold pk_feed at h
  obtain ⟨rfl, h⟩ := h
  rcases h with ⟨a1, rfl, rfl⟩ | ⟨a1, rfl, rfl⟩
  · rw [mPut_o (by omega) (by omega), mPut_o (by omega) (by omega), mPut_o (by omega) (by omega), mPut_o (by omega) (by omega), mPut_o (by omega) (by omega)]
  · rfl

theorem eb_end_33_7 {x9 x : Int32} {I I2 : px_I} {L L2 : px_L} (h : pb_end x9 I L x I2 L2) : I2 33 7 = I 33 7 := by
  unfold pb_end at h
  obtain ⟨rfl, h⟩ := h
  rcases h with ⟨a1, rfl, rfl⟩ | ⟨a1, rfl, rfl⟩
  · (repeat rw [px_u_out (by omega)])
  · rfl

theorem ek_end_103_1 {x9 x : Int32} {I I2 : px_I} {L L2 : px_L} (h : pk_end x9 I L x I2 L2) : I2 103 1 = I 103 1 := by
  unfold pk_end at h
  obtain ⟨rfl, h⟩ := h
  rcases h with ⟨a1, a2, rfl, rfl⟩ | ⟨a1, rfl, rfl⟩
  · (repeat rw [px_u_out (by omega)])
  · rfl

theorem eb_way_33_7 {i x : Int32} {I I2 : px_I} {L L2 : px_L} (h : pb_way i I L x I2 L2) : I2 33 7 = I 33 7 := by
  unfold pb_way at h
  exact h.1 33 7 (by omega) (by omega) (by omega) (by omega) (by omega)

theorem ek_way_103_1 {w x : Int32} {I I2 : px_I} {L L2 : px_L} (h : pk_way w I L x I2 L2) : I2 103 1 = I 103 1 := by
  unfold pk_way at h
  obtain ⟨rfl, h⟩ := h
  rcases h with ⟨a1, a2, rfl⟩ | ⟨a1, a2, a3⟩
  · rfl
  · exact a2 103 1 (by omega) (by omega)

theorem eb_fault_33_7 {x9 x : Int32} {I I2 : px_I} {L L2 : px_L} (h : pb_fault x9 I L x I2 L2) : I2 33 7 = I 33 7 := by
  unfold pb_fault at h
  rw [h.1]

theorem ek_fault_103_1 {x9 x : Int32} {I I2 : px_I} {L L2 : px_L} (h : pk_fault x9 I L x I2 L2) : I2 103 1 = I 103 1 := by
  unfold pk_fault at h
  rw [h.1]

theorem eb_tools_33_7 {a b c d e x : Int32} {I I2 : px_I} {L L2 : px_L} (h : pb_tools a b c d e I L x I2 L2) : I2 33 7 = I 33 7 := by
  unfold pb_tools at h
  obtain ⟨rfl, h⟩ := h
  rcases h with ⟨a1, rfl, a2⟩ | ⟨a1, rfl, rfl⟩
  · rw [a2 33 (by decide)]; (repeat rw [px_u_out (by omega)])
  · rfl

theorem ek_tools_103_1 {a b c d e x : Int32} {I I2 : px_I} {L L2 : px_L} (h : pk_tools a b c d e I L x I2 L2) : I2 103 1 = I 103 1 := by
  unfold pk_tools at h
  obtain ⟨rfl, h⟩ := h
  rcases h with ⟨a1, rfl, rfl⟩ | ⟨a1, rfl, rfl⟩
  · (repeat rw [px_u_out (by omega)])
  · rfl

theorem eb_run_33_7 {w h a x : Int32} {I I2 : px_I} {L L2 : px_L} (h : pb_run w h a I L x I2 L2) : I2 33 7 = I 33 7 := by
  unfold pb_run at h
  exact h.1 33 7 (by omega) (by omega) (by omega) (by omega) (by omega) (by omega) (by omega)

theorem ek_run_103_1 {w h a x : Int32} {I I2 : px_I} {L L2 : px_L} (h : pk_run w h a I L x I2 L2) : I2 103 1 = I 103 1 := by
  unfold pk_run at h
  exact h.1 103 1 (by omega) (by omega) (by omega)

theorem eb_meeting_33_7 {a f b t x9 h x : Int32} {I I2 : px_I} {L L2 : px_L} (h : pb_meeting a f b t x9 h I L x I2 L2) : I2 33 7 = I 33 7 := by
  unfold pb_meeting at h
  exact h.1 33 7 (by omega) (by omega) (by omega) (by omega) (by omega) (by omega) (by omega)

theorem ek_meeting_103_1 {a f b t x9 h x : Int32} {I I2 : px_I} {L L2 : px_L} (h : pk_meeting a f b t x9 h I L x I2 L2) : I2 103 1 = I 103 1 := by
  unfold pk_meeting at h
  exact h.1 103 1 (by omega) (by omega) (by omega)

theorem eb_there_33_7 {a lo hi x : Int32} {I I2 : px_I} {L L2 : px_L} (h : pb_there a lo hi I L x I2 L2) : I2 33 7 = I 33 7 := by
  unfold pb_there at h
  obtain ⟨rfl, h⟩ := h
  rcases h with ⟨a1, rfl, rfl⟩ | ⟨a1, rfl, rfl⟩
  · (repeat rw [px_u_out (by omega)])
  · rfl

theorem ek_there_103_1 {a lo hi x : Int32} {I I2 : px_I} {L L2 : px_L} (h : pk_there a lo hi I L x I2 L2) : I2 103 1 = I 103 1 := by
  unfold pk_there at h
  obtain ⟨rfl, h⟩ := h
  rcases h with ⟨a1, rfl, rfl⟩ | ⟨a1, rfl, rfl⟩
  · (repeat rw [px_u_out (by omega)])
  · rfl

theorem eb_fits_33_7 {a f b t x : Int32} {I I2 : px_I} {L L2 : px_L} (h : pb_fits a f b t I L x I2 L2) : I2 33 7 = I 33 7 := by
  unfold pb_fits at h
  exact h.1 33 7 (by omega) (by omega) (by omega) (by omega) (by omega) (by omega) (by omega)

theorem ek_fits_103_1 {a f b t x : Int32} {I I2 : px_I} {L L2 : px_L} (h : pk_fits a f b t I L x I2 L2) : I2 103 1 = I 103 1 := by
  unfold pk_fits at h
  exact h.1 103 1 (by omega) (by omega) (by omega)

theorem eb_ways_33_7 {a f b t x9 x : Int32} {I I2 : px_I} {L L2 : px_L} (h : pb_ways a f b t x9 I L x I2 L2) : I2 33 7 = I 33 7 := by
  unfold pb_ways at h
  exact h.1 33 7 (by omega) (by omega) (by omega) (by omega) (by omega) (by omega) (by omega)

theorem ek_ways_103_1 {a f b t x9 x : Int32} {I I2 : px_I} {L L2 : px_L} (h : pk_ways a f b t x9 I L x I2 L2) : I2 103 1 = I 103 1 := by
  unfold pk_ways at h
  exact h.1 103 1 (by omega) (by omega) (by omega)

theorem eb_seek_33_7 {a b c d e f x : Int32} {I I2 : px_I} {L L2 : px_L} (h : pb_seek a b c d e f I L x I2 L2) : I2 33 7 = I 33 7 := by
  unfold pb_seek at h
  obtain ⟨rfl, h⟩ := h
  rcases h with ⟨a1, rfl, rfl⟩ | ⟨a1, rfl, rfl⟩
  · (repeat rw [px_u_out (by omega)])
  · rfl

theorem ek_seek_103_1 {a b c d e f x : Int32} {I I2 : px_I} {L L2 : px_L} (h : pk_seek a b c d e f I L x I2 L2) : I2 103 1 = I 103 1 := by
  unfold pk_seek at h
  obtain ⟨rfl, h⟩ := h
  rcases h with ⟨a1, rfl, rfl⟩ | ⟨a1, rfl, rfl⟩
  · (repeat rw [px_u_out (by omega)])
  · rfl

theorem eb_detour_33_7 {a o h x : Int32} {I I2 : px_I} {L L2 : px_L} (h : pb_detour a o h I L x I2 L2) : I2 33 7 = I 33 7 := by
  unfold pb_detour at h
  rw [h.1]

theorem ek_detour_103_1 {a o lo x : Int32} {I I2 : px_I} {L L2 : px_L} (h : pk_detour a o lo I L x I2 L2) : I2 103 1 = I 103 1 := by
  unfold pk_detour at h
  rw [h.1]

theorem eb_table_33_7 {c v x : Int32} {I I2 : px_I} {L L2 : px_L} (h : pb_table c v I L x I2 L2) : I2 33 7 = I 33 7 := by
  unfold pb_table at h
  obtain ⟨rfl, h⟩ := h
  rcases h with ⟨a1, rfl, rfl⟩ | ⟨a1, rfl, rfl⟩
  · (repeat rw [px_u_out (by omega)])
  · rfl

theorem ek_table_103_1 {c v x : Int32} {I I2 : px_I} {L L2 : px_L} (h : pk_table c v I L x I2 L2) : I2 103 1 = I 103 1 := by
  unfold pk_table at h
  obtain ⟨rfl, h⟩ := h
  rcases h with ⟨a1, rfl, rfl⟩ | ⟨a1, rfl, rfl⟩
  · (repeat rw [px_u_out (by omega)])
  · rfl

theorem eb_repair_33_7 {g p y x : Int32} {I I2 : px_I} {L L2 : px_L} (h : pb_repair g p y I L x I2 L2) : I2 33 7 = I 33 7 := by
  unfold pb_repair at h
  obtain ⟨rfl, h⟩ := h
  rcases h with ⟨G, g1, rfl, rfl⟩ | ⟨a1, rfl, rfl⟩
  · have g2 := g1.1
    have gG : G = 41 ∨ G = 55 := by unfold bG at g2; omega
    unfold cRep; (repeat rw [px_u_out (by omega)])
  · rfl

theorem ek_repair_103_1 {g p y x : Int32} {I I2 : px_I} {L L2 : px_L} (h : pk_repair g p y I L x I2 L2) : I2 103 1 = I 103 1 := by
  unfold pk_repair at h
  obtain ⟨rfl, h⟩ := h
  rcases h with ⟨a1, rfl, rfl⟩ | ⟨a1, rfl, rfl⟩
  · (repeat rw [px_u_out (by omega)])
  · rfl

theorem eb_lime_33_7 {v x : Int32} {I I2 : px_I} {L L2 : px_L} (h : pb_lime v I L x I2 L2) : I2 33 7 = I 33 7 := by
  unfold pb_lime at h
  obtain ⟨rfl, h⟩ := h
  rcases h with ⟨a1, rfl, rfl⟩ | ⟨a1, rfl, rfl⟩
  · (repeat rw [px_u_out (by omega)])
  · rfl

theorem ek_lime_103_1 {v x : Int32} {I I2 : px_I} {L L2 : px_L} (h : pk_lime v I L x I2 L2) : I2 103 1 = I 103 1 := by
  unfold pk_lime at h
  obtain ⟨rfl, h⟩ := h
  rcases h with ⟨a1, a2, rfl, rfl⟩ | ⟨a1, rfl, rfl⟩
  · (repeat rw [px_u_out (by omega)])
  · rfl

theorem eb_flow_33_7 {g y k h x : Int32} {I I2 : px_I} {L L2 : px_L} (h : pb_flow g y k h I L x I2 L2) : I2 33 7 = I 33 7 := by
  unfold pb_flow at h
  exact h.1 33 7 (by omega)

theorem ek_flow_103_1 {g y k h x : Int32} {I I2 : px_I} {L L2 : px_L} (h : pk_flow g y k h I L x I2 L2) : I2 103 1 = I 103 1 := by
  unfold pk_flow at h
  exact h.1 103 1 (by omega)

theorem eb_narrow_33_7 {g y k x : Int32} {I I2 : px_I} {L L2 : px_L} (h : pb_narrow g y k I L x I2 L2) : I2 33 7 = I 33 7 := by
  unfold pb_narrow at h
  exact h.1 33 7 (by omega)

theorem ek_narrow_103_1 {g y k x : Int32} {I I2 : px_I} {L L2 : px_L} (h : pk_narrow g y k I L x I2 L2) : I2 103 1 = I 103 1 := by
  unfold pk_narrow at h
  exact h.1 103 1 (by omega)

theorem eb_about_33_7 {w x : Int32} {I I2 : px_I} {L L2 : px_L} (h : pb_about w I L x I2 L2) : I2 33 7 = I 33 7 := by
  unfold pb_about at h
  rw [h.1]

theorem ek_about_103_1 {w x : Int32} {I I2 : px_I} {L L2 : px_L} (h : pk_about w I L x I2 L2) : I2 103 1 = I 103 1 := by
  unfold pk_about at h
  rw [h.1]

theorem eb_days_33_8 {x9 x : Int32} {I I2 : px_I} {L L2 : px_L} (h : pb_days x9 I L x I2 L2) : I2 33 8 = I 33 8 := by
  unfold pb_days at h
  obtain ⟨rfl, h⟩ := h
  rcases h with ⟨a1, a2, rfl, rfl⟩ | ⟨a1, rfl, rfl⟩
  · (repeat rw [px_u_out (by omega)])
  · rfl

theorem ek_days_103_2 {x9 x : Int32} {I I2 : px_I} {L L2 : px_L} (h : pk_days x9 I L x I2 L2) : I2 103 2 = I 103 2 := by
  unfold pk_days at h
  obtain ⟨rfl, h⟩ := h
  rcases h with ⟨a1, a2, a3, rfl, rfl⟩ | ⟨a1, rfl, rfl⟩
  · (repeat rw [px_u_out (by omega)])
  · rfl

theorem eb_station_33_8 { x : Int32} {I I2 : px_I} {L L2 : px_L} (h : pb_station  I L x I2 L2) : I2 33 8 = I 33 8 := by
  unfold pb_station at h
  obtain ⟨rfl, h⟩ := h
  rcases h with ⟨a1, rfl, rfl⟩ | ⟨a1, rfl, rfl⟩
  · (repeat rw [px_u_out (by omega)])
  · rfl

theorem ek_station_103_2 { x : Int32} {I I2 : px_I} {L L2 : px_L} (h : pk_station  I L x I2 L2) : I2 103 2 = I 103 2 := by
  unfold pk_station at h
  obtain ⟨rfl, h⟩ := h
  rcases h with ⟨a1, rfl, rfl⟩ | ⟨a1, rfl, rfl⟩
  · (repeat rw [px_u_out (by omega)])
  · rfl

theorem eb_closed_33_8 {a k x : Int32} {I I2 : px_I} {L L2 : px_L} (h : pb_closed a k I L x I2 L2) : I2 33 8 = I 33 8 := by
  unfold pb_closed at h
  obtain ⟨rfl, h⟩ := h
  rfl

theorem ek_closed_103_2 {a k x : Int32} {I I2 : px_I} {L L2 : px_L} (h : pk_closed a k I L x I2 L2) : I2 103 2 = I 103 2 := by
  unfold pk_closed at h
  exact h.1 103 2 (by omega)

theorem eb_span_33_8 {a t k h x : Int32} {I I2 : px_I} {L L2 : px_L} (h : pb_span a t k h I L x I2 L2) : I2 33 8 = I 33 8 := by
  unfold pb_span at h
  obtain ⟨rfl, h⟩ := h
  rfl

theorem ek_span_103_2 {a t k h x : Int32} {I I2 : px_I} {L L2 : px_L} (h : pk_span a t k h I L x I2 L2) : I2 103 2 = I 103 2 := by
  unfold pk_span at h
  exact h.1 103 2 (by omega)

theorem eb_gap_33_8 {a f t k h x : Int32} {I I2 : px_I} {L L2 : px_L} (h : pb_gap a f t k h I L x I2 L2) : I2 33 8 = I 33 8 := by
  unfold pb_gap at h
  obtain ⟨rfl, h⟩ := h
  rfl

theorem ek_gap_103_2 {a f t k h x : Int32} {I I2 : px_I} {L L2 : px_L} (h : pk_gap a f t k h I L x I2 L2) : I2 103 2 = I 103 2 := by
  unfold pk_gap at h
  exact h.1 103 2 (by omega)

theorem eb_blamed_33_8 {a k i x : Int32} {I I2 : px_I} {L L2 : px_L} (h : pb_blamed a k i I L x I2 L2) : I2 33 8 = I 33 8 := by
  unfold pb_blamed at h
  obtain ⟨rfl, h⟩ := h
  rfl

theorem ek_blamed_103_2 {a k i x : Int32} {I I2 : px_I} {L L2 : px_L} (h : pk_blamed a k i I L x I2 L2) : I2 103 2 = I 103 2 := by
  unfold pk_blamed at h
  exact h.1 103 2 (by omega)

theorem eb_reach_33_8 {g lo hi sl fa w st x : Int32} {I I2 : px_I} {L L2 : px_L} (h : pb_reach g lo hi sl fa w st I L x I2 L2) : I2 33 8 = I 33 8 := by
  unfold pb_reach at h
  obtain ⟨rfl, h⟩ := h
  rcases h with ⟨G, ⟨g1, g2, g3⟩, rfl, rfl⟩ | ⟨a1, rfl, rfl⟩
  · have gG : G = 41 ∨ G = 55 := by unfold bG at g1; omega
    rw [cReach_o (by omega)]
  · rfl

theorem ek_reach_103_2 {g lo hi sl fa w st x : Int32} {I I2 : px_I} {L L2 : px_L} (h : pk_reach g lo hi sl fa w st I L x I2 L2) : I2 103 2 = I 103 2 := by
  unfold pk_reach at h
  obtain ⟨rfl, h⟩ := h
  rcases h with ⟨a1, rfl, rfl⟩ | ⟨a1, rfl, rfl⟩
  · unfold mReach; (repeat rw [px_u_out (by omega)])
  · rfl

theorem eb_mouth_33_8 {g st x : Int32} {I I2 : px_I} {L L2 : px_L} (h : pb_mouth g st I L x I2 L2) : I2 33 8 = I 33 8 := by
  unfold pb_mouth at h
  obtain ⟨rfl, h⟩ := h
  rcases h with ⟨G, g1, rfl⟩ | rfl
  · have gG : G = 41 ∨ G = 55 := by unfold bG at g1; omega
    (repeat rw [px_u_out (by omega)])
  · rfl

theorem ek_mouth_103_2 {g st x : Int32} {I I2 : px_I} {L L2 : px_L} (h : pk_mouth g st I L x I2 L2) : I2 103 2 = I 103 2 := by
  unfold pk_mouth at h
  obtain ⟨rfl, h⟩ := h
  rcases h with ⟨a1, a2, rfl, rfl⟩ | ⟨a1, rfl, rfl⟩
  · (repeat rw [px_u_out (by omega)])
  · rfl

theorem eb_mark_33_8 {g p f t x : Int32} {I I2 : px_I} {L L2 : px_L} (h : pb_mark g p f t I L x I2 L2) : I2 33 8 = I 33 8 := by
  unfold pb_mark at h
  obtain ⟨rfl, h⟩ := h
  rcases h with ⟨G, g1, rfl, rfl⟩ | ⟨a1, rfl, rfl⟩
  · have g2 := g1.1
    have gG : G = 41 ∨ G = 55 := by unfold bG at g2; omega
    unfold cMark; (repeat rw [px_u_out (by omega)])
  · rfl

theorem ek_mark_103_2 {g p f t x : Int32} {I I2 : px_I} {L L2 : px_L} (h : pk_mark g p f t I L x I2 L2) : I2 103 2 = I 103 2 := by
  unfold pk_mark at h
  obtain ⟨rfl, h⟩ := h
  rcases h with ⟨a1, rfl, rfl⟩ | ⟨a1, rfl, rfl⟩
  · unfold mMark; (repeat rw [px_u_out (by omega)])
  · rfl

theorem eb_when_33_8 {g p h x : Int32} {I I2 : px_I} {L L2 : px_L} (h : pb_when g p h I L x I2 L2) : I2 33 8 = I 33 8 := by
  unfold pb_when at h
  obtain ⟨rfl, h⟩ := h
  rw [h 33 (by decide) (by decide) (by decide) (by decide)]

theorem ek_when_103_2 {g p h x : Int32} {I I2 : px_I} {L L2 : px_L} (h : pk_when g p h I L x I2 L2) : I2 103 2 = I 103 2 := by
  unfold pk_when at h
  exact h.1 103 2 (by omega)

theorem eb_between_33_8 {g p q h x : Int32} {I I2 : px_I} {L L2 : px_L} (h : pb_between g p q h I L x I2 L2) : I2 33 8 = I 33 8 := by
  unfold pb_between at h
  obtain ⟨rfl, h⟩ := h
  rw [h 33 (by decide) (by decide) (by decide) (by decide)]

theorem ek_between_103_2 {g p t h x : Int32} {I I2 : px_I} {L L2 : px_L} (h : pk_between g p t h I L x I2 L2) : I2 103 2 = I 103 2 := by
  unfold pk_between at h
  exact h.1 103 2 (by omega)

theorem eb_lamps_33_8 {g p h lo hi x : Int32} {I I2 : px_I} {L L2 : px_L} (h : pb_lamps g p h lo hi I L x I2 L2) : I2 33 8 = I 33 8 := by
  unfold pb_lamps at h
  rw [h.1]

theorem ek_lamps_103_2 {g p h lo hi x : Int32} {I I2 : px_I} {L L2 : px_L} (h : pk_lamps g p h lo hi I L x I2 L2) : I2 103 2 = I 103 2 := by
  unfold pk_lamps at h
  rw [h.1]

theorem eb_count_33_8 {u lo hi x : Int32} {I I2 : px_I} {L L2 : px_L} (h : pb_count u lo hi I L x I2 L2) : I2 33 8 = I 33 8 := by
  unfold pb_count at h
  obtain ⟨rfl, h⟩ := h
  rcases h with ⟨a1, rfl, rfl⟩ | ⟨a1, rfl, rfl⟩
  · (repeat rw [px_u_out (by omega)])
  · rfl

theorem ek_count_103_2 {u lo hi x : Int32} {I I2 : px_I} {L L2 : px_L} (h : pk_count u lo hi I L x I2 L2) : I2 103 2 = I 103 2 := by
  unfold pk_count at h
  rcases h with ⟨a1, rfl, rfl, rfl⟩ | ⟨a1, rfl, rfl, rfl⟩
  · (repeat rw [px_u_out (by omega)])
  · rfl

theorem eb_unit_33_8 {h x : Int32} {I I2 : px_I} {L L2 : px_L} (h : pb_unit h I L x I2 L2) : I2 33 8 = I 33 8 := by
  unfold pb_unit at h
  rw [h.1]

theorem ek_unit_103_2 {h x : Int32} {I I2 : px_I} {L L2 : px_L} (h : pk_unit h I L x I2 L2) : I2 103 2 = I 103 2 := by
  unfold pk_unit at h
  rw [h.1]

theorem eb_feed_33_8 {a b c d e x : Int32} {I I2 : px_I} {L L2 : px_L} (h : pb_feed a b c d e I L x I2 L2) : I2 33 8 = I 33 8 := by
  unfold pb_feed at h
  obtain ⟨rfl, h⟩ := h
  rcases h with ⟨a1, rfl, rfl⟩ | ⟨a1, rfl, rfl⟩
  · rw [cApp_at _ _ 33 8 (by omega) (by omega), cApp_at _ _ 33 8 (by omega) (by omega), cApp_at _ _ 33 8 (by omega) (by omega), cApp_at _ _ 33 8 (by omega) (by omega), cApp_at _ _ 33 8 (by omega) (by omega)]
  · rfl

theorem ek_feed_103_2 {a b c d e x : Int32} {I I2 : px_I} {L L2 : px_L} (h : pk_feed a b c d e I L x I2 L2) : I2 103 2 = I 103 2 := by
  unfold pk_feed at h
  obtain ⟨rfl, h⟩ := h
  rcases h with ⟨a1, rfl, rfl⟩ | ⟨a1, rfl, rfl⟩
  · rw [mPut_o (by omega) (by omega), mPut_o (by omega) (by omega), mPut_o (by omega) (by omega), mPut_o (by omega) (by omega), mPut_o (by omega) (by omega)]
  · rfl

theorem eb_end_33_8 {x9 x : Int32} {I I2 : px_I} {L L2 : px_L} (h : pb_end x9 I L x I2 L2) : I2 33 8 = I 33 8 := by
  unfold pb_end at h
  obtain ⟨rfl, h⟩ := h
  rcases h with ⟨a1, rfl, rfl⟩ | ⟨a1, rfl, rfl⟩
  · (repeat rw [px_u_out (by omega)])
  · rfl

theorem ek_end_103_2 {x9 x : Int32} {I I2 : px_I} {L L2 : px_L} (h : pk_end x9 I L x I2 L2) : I2 103 2 = I 103 2 := by
  unfold pk_end at h
  obtain ⟨rfl, h⟩ := h
  rcases h with ⟨a1, a2, rfl, rfl⟩ | ⟨a1, rfl, rfl⟩
  · (repeat rw [px_u_out (by omega)])
  · rfl

theorem eb_way_33_8 {i x : Int32} {I I2 : px_I} {L L2 : px_L} (h : pb_way i I L x I2 L2) : I2 33 8 = I 33 8 := by
  unfold pb_way at h
  exact h.1 33 8 (by omega) (by omega) (by omega) (by omega) (by omega)

theorem ek_way_103_2 {w x : Int32} {I I2 : px_I} {L L2 : px_L} (h : pk_way w I L x I2 L2) : I2 103 2 = I 103 2 := by
  unfold pk_way at h
  obtain ⟨rfl, h⟩ := h
  rcases h with ⟨a1, a2, rfl⟩ | ⟨a1, a2, a3⟩
  · rfl
  · exact a2 103 2 (by omega) (by omega)

theorem eb_fault_33_8 {x9 x : Int32} {I I2 : px_I} {L L2 : px_L} (h : pb_fault x9 I L x I2 L2) : I2 33 8 = I 33 8 := by
  unfold pb_fault at h
  rw [h.1]

theorem ek_fault_103_2 {x9 x : Int32} {I I2 : px_I} {L L2 : px_L} (h : pk_fault x9 I L x I2 L2) : I2 103 2 = I 103 2 := by
  unfold pk_fault at h
  rw [h.1]

theorem eb_tools_33_8 {a b c d e x : Int32} {I I2 : px_I} {L L2 : px_L} (h : pb_tools a b c d e I L x I2 L2) : I2 33 8 = I 33 8 := by
  unfold pb_tools at h
  obtain ⟨rfl, h⟩ := h
  rcases h with ⟨a1, rfl, a2⟩ | ⟨a1, rfl, rfl⟩
  · rw [a2 33 (by decide)]; (repeat rw [px_u_out (by omega)])
  · rfl

theorem ek_tools_103_2 {a b c d e x : Int32} {I I2 : px_I} {L L2 : px_L} (h : pk_tools a b c d e I L x I2 L2) : I2 103 2 = I 103 2 := by
  unfold pk_tools at h
  obtain ⟨rfl, h⟩ := h
  rcases h with ⟨a1, rfl, rfl⟩ | ⟨a1, rfl, rfl⟩
  · (repeat rw [px_u_out (by omega)])
  · rfl

theorem eb_run_33_8 {w h a x : Int32} {I I2 : px_I} {L L2 : px_L} (h : pb_run w h a I L x I2 L2) : I2 33 8 = I 33 8 := by
  unfold pb_run at h
  exact h.1 33 8 (by omega) (by omega) (by omega) (by omega) (by omega) (by omega) (by omega)

theorem ek_run_103_2 {w h a x : Int32} {I I2 : px_I} {L L2 : px_L} (h : pk_run w h a I L x I2 L2) : I2 103 2 = I 103 2 := by
  unfold pk_run at h
  exact h.1 103 2 (by omega) (by omega) (by omega)

theorem eb_meeting_33_8 {a f b t x9 h x : Int32} {I I2 : px_I} {L L2 : px_L} (h : pb_meeting a f b t x9 h I L x I2 L2) : I2 33 8 = I 33 8 := by
  unfold pb_meeting at h
  exact h.1 33 8 (by omega) (by omega) (by omega) (by omega) (by omega) (by omega) (by omega)

theorem ek_meeting_103_2 {a f b t x9 h x : Int32} {I I2 : px_I} {L L2 : px_L} (h : pk_meeting a f b t x9 h I L x I2 L2) : I2 103 2 = I 103 2 := by
  unfold pk_meeting at h
  exact h.1 103 2 (by omega) (by omega) (by omega)

theorem eb_there_33_8 {a lo hi x : Int32} {I I2 : px_I} {L L2 : px_L} (h : pb_there a lo hi I L x I2 L2) : I2 33 8 = I 33 8 := by
  unfold pb_there at h
  obtain ⟨rfl, h⟩ := h
  rcases h with ⟨a1, rfl, rfl⟩ | ⟨a1, rfl, rfl⟩
  · (repeat rw [px_u_out (by omega)])
  · rfl

theorem ek_there_103_2 {a lo hi x : Int32} {I I2 : px_I} {L L2 : px_L} (h : pk_there a lo hi I L x I2 L2) : I2 103 2 = I 103 2 := by
  unfold pk_there at h
  obtain ⟨rfl, h⟩ := h
  rcases h with ⟨a1, rfl, rfl⟩ | ⟨a1, rfl, rfl⟩
  · (repeat rw [px_u_out (by omega)])
  · rfl

theorem eb_fits_33_8 {a f b t x : Int32} {I I2 : px_I} {L L2 : px_L} (h : pb_fits a f b t I L x I2 L2) : I2 33 8 = I 33 8 := by
  unfold pb_fits at h
  exact h.1 33 8 (by omega) (by omega) (by omega) (by omega) (by omega) (by omega) (by omega)

theorem ek_fits_103_2 {a f b t x : Int32} {I I2 : px_I} {L L2 : px_L} (h : pk_fits a f b t I L x I2 L2) : I2 103 2 = I 103 2 := by
  unfold pk_fits at h
  exact h.1 103 2 (by omega) (by omega) (by omega)

theorem eb_ways_33_8 {a f b t x9 x : Int32} {I I2 : px_I} {L L2 : px_L} (h : pb_ways a f b t x9 I L x I2 L2) : I2 33 8 = I 33 8 := by
  unfold pb_ways at h
  exact h.1 33 8 (by omega) (by omega) (by omega) (by omega) (by omega) (by omega) (by omega)

theorem ek_ways_103_2 {a f b t x9 x : Int32} {I I2 : px_I} {L L2 : px_L} (h : pk_ways a f b t x9 I L x I2 L2) : I2 103 2 = I 103 2 := by
  unfold pk_ways at h
  exact h.1 103 2 (by omega) (by omega) (by omega)

theorem eb_seek_33_8 {a b c d e f x : Int32} {I I2 : px_I} {L L2 : px_L} (h : pb_seek a b c d e f I L x I2 L2) : I2 33 8 = I 33 8 := by
  unfold pb_seek at h
  obtain ⟨rfl, h⟩ := h
  rcases h with ⟨a1, rfl, rfl⟩ | ⟨a1, rfl, rfl⟩
  · (repeat rw [px_u_out (by omega)])
  · rfl

theorem ek_seek_103_2 {a b c d e f x : Int32} {I I2 : px_I} {L L2 : px_L} (h : pk_seek a b c d e f I L x I2 L2) : I2 103 2 = I 103 2 := by
  unfold pk_seek at h
  obtain ⟨rfl, h⟩ := h
  rcases h with ⟨a1, rfl, rfl⟩ | ⟨a1, rfl, rfl⟩
  · (repeat rw [px_u_out (by omega)])
  · rfl

theorem eb_detour_33_8 {a o h x : Int32} {I I2 : px_I} {L L2 : px_L} (h : pb_detour a o h I L x I2 L2) : I2 33 8 = I 33 8 := by
  unfold pb_detour at h
  rw [h.1]

theorem ek_detour_103_2 {a o lo x : Int32} {I I2 : px_I} {L L2 : px_L} (h : pk_detour a o lo I L x I2 L2) : I2 103 2 = I 103 2 := by
  unfold pk_detour at h
  rw [h.1]

theorem eb_table_33_8 {c v x : Int32} {I I2 : px_I} {L L2 : px_L} (h : pb_table c v I L x I2 L2) : I2 33 8 = I 33 8 := by
  unfold pb_table at h
  obtain ⟨rfl, h⟩ := h
  rcases h with ⟨a1, rfl, rfl⟩ | ⟨a1, rfl, rfl⟩
  · (repeat rw [px_u_out (by omega)])
  · rfl

theorem ek_table_103_2 {c v x : Int32} {I I2 : px_I} {L L2 : px_L} (h : pk_table c v I L x I2 L2) : I2 103 2 = I 103 2 := by
  unfold pk_table at h
  obtain ⟨rfl, h⟩ := h
  rcases h with ⟨a1, rfl, rfl⟩ | ⟨a1, rfl, rfl⟩
  · (repeat rw [px_u_out (by omega)])
  · rfl

theorem eb_repair_33_8 {g p y x : Int32} {I I2 : px_I} {L L2 : px_L} (h : pb_repair g p y I L x I2 L2) : I2 33 8 = I 33 8 := by
  unfold pb_repair at h
  obtain ⟨rfl, h⟩ := h
  rcases h with ⟨G, g1, rfl, rfl⟩ | ⟨a1, rfl, rfl⟩
  · have g2 := g1.1
    have gG : G = 41 ∨ G = 55 := by unfold bG at g2; omega
    unfold cRep; (repeat rw [px_u_out (by omega)])
  · rfl

theorem ek_repair_103_2 {g p y x : Int32} {I I2 : px_I} {L L2 : px_L} (h : pk_repair g p y I L x I2 L2) : I2 103 2 = I 103 2 := by
  unfold pk_repair at h
  obtain ⟨rfl, h⟩ := h
  rcases h with ⟨a1, rfl, rfl⟩ | ⟨a1, rfl, rfl⟩
  · (repeat rw [px_u_out (by omega)])
  · rfl

theorem eb_lime_33_8 {v x : Int32} {I I2 : px_I} {L L2 : px_L} (h : pb_lime v I L x I2 L2) : I2 33 8 = I 33 8 := by
  unfold pb_lime at h
  obtain ⟨rfl, h⟩ := h
  rcases h with ⟨a1, rfl, rfl⟩ | ⟨a1, rfl, rfl⟩
  · (repeat rw [px_u_out (by omega)])
  · rfl

theorem ek_lime_103_2 {v x : Int32} {I I2 : px_I} {L L2 : px_L} (h : pk_lime v I L x I2 L2) : I2 103 2 = I 103 2 := by
  unfold pk_lime at h
  obtain ⟨rfl, h⟩ := h
  rcases h with ⟨a1, a2, rfl, rfl⟩ | ⟨a1, rfl, rfl⟩
  · (repeat rw [px_u_out (by omega)])
  · rfl

theorem eb_flow_33_8 {g y k h x : Int32} {I I2 : px_I} {L L2 : px_L} (h : pb_flow g y k h I L x I2 L2) : I2 33 8 = I 33 8 := by
  unfold pb_flow at h
  exact h.1 33 8 (by omega)

theorem ek_flow_103_2 {g y k h x : Int32} {I I2 : px_I} {L L2 : px_L} (h : pk_flow g y k h I L x I2 L2) : I2 103 2 = I 103 2 := by
  unfold pk_flow at h
  exact h.1 103 2 (by omega)

theorem eb_narrow_33_8 {g y k x : Int32} {I I2 : px_I} {L L2 : px_L} (h : pb_narrow g y k I L x I2 L2) : I2 33 8 = I 33 8 := by
  unfold pb_narrow at h
  exact h.1 33 8 (by omega)

theorem ek_narrow_103_2 {g y k x : Int32} {I I2 : px_I} {L L2 : px_L} (h : pk_narrow g y k I L x I2 L2) : I2 103 2 = I 103 2 := by
  unfold pk_narrow at h
  exact h.1 103 2 (by omega)

theorem eb_about_33_8 {w x : Int32} {I I2 : px_I} {L L2 : px_L} (h : pb_about w I L x I2 L2) : I2 33 8 = I 33 8 := by
  unfold pb_about at h
  rw [h.1]

theorem ek_about_103_2 {w x : Int32} {I I2 : px_I} {L L2 : px_L} (h : pk_about w I L x I2 L2) : I2 103 2 = I 103 2 := by
  unfold pk_about at h
  rw [h.1]

theorem eb_days_34_r {x9 x : Int32} {I I2 : px_I} {L L2 : px_L} (h : pb_days x9 I L x I2 L2) : I2 34 = I 34 := by
  unfold pb_days at h
  obtain ⟨rfl, h⟩ := h
  rcases h with ⟨a1, a2, rfl, rfl⟩ | ⟨a1, rfl, rfl⟩
  · (repeat rw [px_u_ne (by omega)])
  · rfl

theorem eb_days_35_r {x9 x : Int32} {I I2 : px_I} {L L2 : px_L} (h : pb_days x9 I L x I2 L2) : I2 35 = I 35 := by
  unfold pb_days at h
  obtain ⟨rfl, h⟩ := h
  rcases h with ⟨a1, a2, rfl, rfl⟩ | ⟨a1, rfl, rfl⟩
  · (repeat rw [px_u_ne (by omega)])
  · rfl

theorem eb_days_36_r {x9 x : Int32} {I I2 : px_I} {L L2 : px_L} (h : pb_days x9 I L x I2 L2) : I2 36 = I 36 := by
  unfold pb_days at h
  obtain ⟨rfl, h⟩ := h
  rcases h with ⟨a1, a2, rfl, rfl⟩ | ⟨a1, rfl, rfl⟩
  · (repeat rw [px_u_ne (by omega)])
  · rfl

theorem eb_days_37_r {x9 x : Int32} {I I2 : px_I} {L L2 : px_L} (h : pb_days x9 I L x I2 L2) : I2 37 = I 37 := by
  unfold pb_days at h
  obtain ⟨rfl, h⟩ := h
  rcases h with ⟨a1, a2, rfl, rfl⟩ | ⟨a1, rfl, rfl⟩
  · (repeat rw [px_u_ne (by omega)])
  · rfl

theorem eb_days_38_r {x9 x : Int32} {I I2 : px_I} {L L2 : px_L} (h : pb_days x9 I L x I2 L2) : I2 38 = I 38 := by
  unfold pb_days at h
  obtain ⟨rfl, h⟩ := h
  rcases h with ⟨a1, a2, rfl, rfl⟩ | ⟨a1, rfl, rfl⟩
  · (repeat rw [px_u_ne (by omega)])
  · rfl

theorem eb_days_39_r {x9 x : Int32} {I I2 : px_I} {L L2 : px_L} (h : pb_days x9 I L x I2 L2) : I2 39 = I 39 := by
  unfold pb_days at h
  obtain ⟨rfl, h⟩ := h
  rcases h with ⟨a1, a2, rfl, rfl⟩ | ⟨a1, rfl, rfl⟩
  · (repeat rw [px_u_ne (by omega)])
  · rfl

theorem ek_days_104_r {x9 x : Int32} {I I2 : px_I} {L L2 : px_L} (h : pk_days x9 I L x I2 L2) : I2 104 = I 104 := by
  unfold pk_days at h
  obtain ⟨rfl, h⟩ := h
  rcases h with ⟨a1, a2, a3, rfl, rfl⟩ | ⟨a1, rfl, rfl⟩
  · (repeat rw [px_u_ne (by omega)])
  · rfl

theorem ek_days_105_r {x9 x : Int32} {I I2 : px_I} {L L2 : px_L} (h : pk_days x9 I L x I2 L2) : I2 105 = I 105 := by
  unfold pk_days at h
  obtain ⟨rfl, h⟩ := h
  rcases h with ⟨a1, a2, a3, rfl, rfl⟩ | ⟨a1, rfl, rfl⟩
  · (repeat rw [px_u_ne (by omega)])
  · rfl

theorem ek_days_106_r {x9 x : Int32} {I I2 : px_I} {L L2 : px_L} (h : pk_days x9 I L x I2 L2) : I2 106 = I 106 := by
  unfold pk_days at h
  obtain ⟨rfl, h⟩ := h
  rcases h with ⟨a1, a2, a3, rfl, rfl⟩ | ⟨a1, rfl, rfl⟩
  · (repeat rw [px_u_ne (by omega)])
  · rfl

theorem ek_days_107_r {x9 x : Int32} {I I2 : px_I} {L L2 : px_L} (h : pk_days x9 I L x I2 L2) : I2 107 = I 107 := by
  unfold pk_days at h
  obtain ⟨rfl, h⟩ := h
  rcases h with ⟨a1, a2, a3, rfl, rfl⟩ | ⟨a1, rfl, rfl⟩
  · (repeat rw [px_u_ne (by omega)])
  · rfl

theorem ek_days_108_r {x9 x : Int32} {I I2 : px_I} {L L2 : px_L} (h : pk_days x9 I L x I2 L2) : I2 108 = I 108 := by
  unfold pk_days at h
  obtain ⟨rfl, h⟩ := h
  rcases h with ⟨a1, a2, a3, rfl, rfl⟩ | ⟨a1, rfl, rfl⟩
  · (repeat rw [px_u_ne (by omega)])
  · rfl

theorem ek_days_109_r {x9 x : Int32} {I I2 : px_I} {L L2 : px_L} (h : pk_days x9 I L x I2 L2) : I2 109 = I 109 := by
  unfold pk_days at h
  obtain ⟨rfl, h⟩ := h
  rcases h with ⟨a1, a2, a3, rfl, rfl⟩ | ⟨a1, rfl, rfl⟩
  · (repeat rw [px_u_ne (by omega)])
  · rfl

theorem eb_closed_34_r {a k x : Int32} {I I2 : px_I} {L L2 : px_L} (h : pb_closed a k I L x I2 L2) : I2 34 = I 34 := by
  unfold pb_closed at h
  obtain ⟨rfl, h⟩ := h
  rfl

theorem eb_closed_35_r {a k x : Int32} {I I2 : px_I} {L L2 : px_L} (h : pb_closed a k I L x I2 L2) : I2 35 = I 35 := by
  unfold pb_closed at h
  obtain ⟨rfl, h⟩ := h
  rfl

theorem eb_closed_36_r {a k x : Int32} {I I2 : px_I} {L L2 : px_L} (h : pb_closed a k I L x I2 L2) : I2 36 = I 36 := by
  unfold pb_closed at h
  obtain ⟨rfl, h⟩ := h
  rfl

theorem eb_closed_37_r {a k x : Int32} {I I2 : px_I} {L L2 : px_L} (h : pb_closed a k I L x I2 L2) : I2 37 = I 37 := by
  unfold pb_closed at h
  obtain ⟨rfl, h⟩ := h
  rfl

theorem eb_closed_38_r {a k x : Int32} {I I2 : px_I} {L L2 : px_L} (h : pb_closed a k I L x I2 L2) : I2 38 = I 38 := by
  unfold pb_closed at h
  obtain ⟨rfl, h⟩ := h
  rfl

theorem eb_closed_39_r {a k x : Int32} {I I2 : px_I} {L L2 : px_L} (h : pb_closed a k I L x I2 L2) : I2 39 = I 39 := by
  unfold pb_closed at h
  obtain ⟨rfl, h⟩ := h
  rfl

theorem ek_closed_104_r {a k x : Int32} {I I2 : px_I} {L L2 : px_L} (h : pk_closed a k I L x I2 L2) : I2 104 = I 104 := by
  unfold pk_closed at h
  exact funext fun j => h.1 104 j (by omega)

theorem ek_closed_105_r {a k x : Int32} {I I2 : px_I} {L L2 : px_L} (h : pk_closed a k I L x I2 L2) : I2 105 = I 105 := by
  unfold pk_closed at h
  exact funext fun j => h.1 105 j (by omega)

theorem ek_closed_106_r {a k x : Int32} {I I2 : px_I} {L L2 : px_L} (h : pk_closed a k I L x I2 L2) : I2 106 = I 106 := by
  unfold pk_closed at h
  exact funext fun j => h.1 106 j (by omega)

theorem ek_closed_107_r {a k x : Int32} {I I2 : px_I} {L L2 : px_L} (h : pk_closed a k I L x I2 L2) : I2 107 = I 107 := by
  unfold pk_closed at h
  exact funext fun j => h.1 107 j (by omega)

theorem ek_closed_108_r {a k x : Int32} {I I2 : px_I} {L L2 : px_L} (h : pk_closed a k I L x I2 L2) : I2 108 = I 108 := by
  unfold pk_closed at h
  exact funext fun j => h.1 108 j (by omega)

theorem ek_closed_109_r {a k x : Int32} {I I2 : px_I} {L L2 : px_L} (h : pk_closed a k I L x I2 L2) : I2 109 = I 109 := by
  unfold pk_closed at h
  exact funext fun j => h.1 109 j (by omega)

theorem eb_span_34_r {a t k h x : Int32} {I I2 : px_I} {L L2 : px_L} (h : pb_span a t k h I L x I2 L2) : I2 34 = I 34 := by
  unfold pb_span at h
  obtain ⟨rfl, h⟩ := h
  rfl

theorem eb_span_35_r {a t k h x : Int32} {I I2 : px_I} {L L2 : px_L} (h : pb_span a t k h I L x I2 L2) : I2 35 = I 35 := by
  unfold pb_span at h
  obtain ⟨rfl, h⟩ := h
  rfl

theorem eb_span_36_r {a t k h x : Int32} {I I2 : px_I} {L L2 : px_L} (h : pb_span a t k h I L x I2 L2) : I2 36 = I 36 := by
  unfold pb_span at h
  obtain ⟨rfl, h⟩ := h
  rfl

theorem eb_span_37_r {a t k h x : Int32} {I I2 : px_I} {L L2 : px_L} (h : pb_span a t k h I L x I2 L2) : I2 37 = I 37 := by
  unfold pb_span at h
  obtain ⟨rfl, h⟩ := h
  rfl

theorem eb_span_38_r {a t k h x : Int32} {I I2 : px_I} {L L2 : px_L} (h : pb_span a t k h I L x I2 L2) : I2 38 = I 38 := by
  unfold pb_span at h
  obtain ⟨rfl, h⟩ := h
  rfl

theorem eb_span_39_r {a t k h x : Int32} {I I2 : px_I} {L L2 : px_L} (h : pb_span a t k h I L x I2 L2) : I2 39 = I 39 := by
  unfold pb_span at h
  obtain ⟨rfl, h⟩ := h
  rfl

theorem ek_span_104_r {a t k h x : Int32} {I I2 : px_I} {L L2 : px_L} (h : pk_span a t k h I L x I2 L2) : I2 104 = I 104 := by
  unfold pk_span at h
  exact funext fun j => h.1 104 j (by omega)

theorem ek_span_105_r {a t k h x : Int32} {I I2 : px_I} {L L2 : px_L} (h : pk_span a t k h I L x I2 L2) : I2 105 = I 105 := by
  unfold pk_span at h
  exact funext fun j => h.1 105 j (by omega)

theorem ek_span_106_r {a t k h x : Int32} {I I2 : px_I} {L L2 : px_L} (h : pk_span a t k h I L x I2 L2) : I2 106 = I 106 := by
  unfold pk_span at h
  exact funext fun j => h.1 106 j (by omega)

theorem ek_span_107_r {a t k h x : Int32} {I I2 : px_I} {L L2 : px_L} (h : pk_span a t k h I L x I2 L2) : I2 107 = I 107 := by
  unfold pk_span at h
  exact funext fun j => h.1 107 j (by omega)

theorem ek_span_108_r {a t k h x : Int32} {I I2 : px_I} {L L2 : px_L} (h : pk_span a t k h I L x I2 L2) : I2 108 = I 108 := by
  unfold pk_span at h
  exact funext fun j => h.1 108 j (by omega)

theorem ek_span_109_r {a t k h x : Int32} {I I2 : px_I} {L L2 : px_L} (h : pk_span a t k h I L x I2 L2) : I2 109 = I 109 := by
  unfold pk_span at h
  exact funext fun j => h.1 109 j (by omega)

theorem eb_gap_34_r {a f t k h x : Int32} {I I2 : px_I} {L L2 : px_L} (h : pb_gap a f t k h I L x I2 L2) : I2 34 = I 34 := by
  unfold pb_gap at h
  obtain ⟨rfl, h⟩ := h
  rfl

theorem eb_gap_35_r {a f t k h x : Int32} {I I2 : px_I} {L L2 : px_L} (h : pb_gap a f t k h I L x I2 L2) : I2 35 = I 35 := by
  unfold pb_gap at h
  obtain ⟨rfl, h⟩ := h
  rfl

theorem eb_gap_36_r {a f t k h x : Int32} {I I2 : px_I} {L L2 : px_L} (h : pb_gap a f t k h I L x I2 L2) : I2 36 = I 36 := by
  unfold pb_gap at h
  obtain ⟨rfl, h⟩ := h
  rfl

theorem eb_gap_37_r {a f t k h x : Int32} {I I2 : px_I} {L L2 : px_L} (h : pb_gap a f t k h I L x I2 L2) : I2 37 = I 37 := by
  unfold pb_gap at h
  obtain ⟨rfl, h⟩ := h
  rfl

theorem eb_gap_38_r {a f t k h x : Int32} {I I2 : px_I} {L L2 : px_L} (h : pb_gap a f t k h I L x I2 L2) : I2 38 = I 38 := by
  unfold pb_gap at h
  obtain ⟨rfl, h⟩ := h
  rfl

theorem eb_gap_39_r {a f t k h x : Int32} {I I2 : px_I} {L L2 : px_L} (h : pb_gap a f t k h I L x I2 L2) : I2 39 = I 39 := by
  unfold pb_gap at h
  obtain ⟨rfl, h⟩ := h
  rfl

theorem ek_gap_104_r {a f t k h x : Int32} {I I2 : px_I} {L L2 : px_L} (h : pk_gap a f t k h I L x I2 L2) : I2 104 = I 104 := by
  unfold pk_gap at h
  exact funext fun j => h.1 104 j (by omega)

theorem ek_gap_105_r {a f t k h x : Int32} {I I2 : px_I} {L L2 : px_L} (h : pk_gap a f t k h I L x I2 L2) : I2 105 = I 105 := by
  unfold pk_gap at h
  exact funext fun j => h.1 105 j (by omega)

theorem ek_gap_106_r {a f t k h x : Int32} {I I2 : px_I} {L L2 : px_L} (h : pk_gap a f t k h I L x I2 L2) : I2 106 = I 106 := by
  unfold pk_gap at h
  exact funext fun j => h.1 106 j (by omega)

theorem ek_gap_107_r {a f t k h x : Int32} {I I2 : px_I} {L L2 : px_L} (h : pk_gap a f t k h I L x I2 L2) : I2 107 = I 107 := by
  unfold pk_gap at h
  exact funext fun j => h.1 107 j (by omega)

theorem ek_gap_108_r {a f t k h x : Int32} {I I2 : px_I} {L L2 : px_L} (h : pk_gap a f t k h I L x I2 L2) : I2 108 = I 108 := by
  unfold pk_gap at h
  exact funext fun j => h.1 108 j (by omega)

theorem ek_gap_109_r {a f t k h x : Int32} {I I2 : px_I} {L L2 : px_L} (h : pk_gap a f t k h I L x I2 L2) : I2 109 = I 109 := by
  unfold pk_gap at h
  exact funext fun j => h.1 109 j (by omega)

theorem eb_blamed_34_r {a k i x : Int32} {I I2 : px_I} {L L2 : px_L} (h : pb_blamed a k i I L x I2 L2) : I2 34 = I 34 := by
  unfold pb_blamed at h
  obtain ⟨rfl, h⟩ := h
  rfl

theorem eb_blamed_35_r {a k i x : Int32} {I I2 : px_I} {L L2 : px_L} (h : pb_blamed a k i I L x I2 L2) : I2 35 = I 35 := by
  unfold pb_blamed at h
  obtain ⟨rfl, h⟩ := h
  rfl

theorem eb_blamed_36_r {a k i x : Int32} {I I2 : px_I} {L L2 : px_L} (h : pb_blamed a k i I L x I2 L2) : I2 36 = I 36 := by
  unfold pb_blamed at h
  obtain ⟨rfl, h⟩ := h
  rfl

theorem eb_blamed_37_r {a k i x : Int32} {I I2 : px_I} {L L2 : px_L} (h : pb_blamed a k i I L x I2 L2) : I2 37 = I 37 := by
  unfold pb_blamed at h
  obtain ⟨rfl, h⟩ := h
  rfl

theorem eb_blamed_38_r {a k i x : Int32} {I I2 : px_I} {L L2 : px_L} (h : pb_blamed a k i I L x I2 L2) : I2 38 = I 38 := by
  unfold pb_blamed at h
  obtain ⟨rfl, h⟩ := h
  rfl

theorem eb_blamed_39_r {a k i x : Int32} {I I2 : px_I} {L L2 : px_L} (h : pb_blamed a k i I L x I2 L2) : I2 39 = I 39 := by
  unfold pb_blamed at h
  obtain ⟨rfl, h⟩ := h
  rfl

theorem ek_blamed_104_r {a k i x : Int32} {I I2 : px_I} {L L2 : px_L} (h : pk_blamed a k i I L x I2 L2) : I2 104 = I 104 := by
  unfold pk_blamed at h
  exact funext fun j => h.1 104 j (by omega)

theorem ek_blamed_105_r {a k i x : Int32} {I I2 : px_I} {L L2 : px_L} (h : pk_blamed a k i I L x I2 L2) : I2 105 = I 105 := by
  unfold pk_blamed at h
  exact funext fun j => h.1 105 j (by omega)

theorem ek_blamed_106_r {a k i x : Int32} {I I2 : px_I} {L L2 : px_L} (h : pk_blamed a k i I L x I2 L2) : I2 106 = I 106 := by
  unfold pk_blamed at h
  exact funext fun j => h.1 106 j (by omega)

theorem ek_blamed_107_r {a k i x : Int32} {I I2 : px_I} {L L2 : px_L} (h : pk_blamed a k i I L x I2 L2) : I2 107 = I 107 := by
  unfold pk_blamed at h
  exact funext fun j => h.1 107 j (by omega)

theorem ek_blamed_108_r {a k i x : Int32} {I I2 : px_I} {L L2 : px_L} (h : pk_blamed a k i I L x I2 L2) : I2 108 = I 108 := by
  unfold pk_blamed at h
  exact funext fun j => h.1 108 j (by omega)

theorem ek_blamed_109_r {a k i x : Int32} {I I2 : px_I} {L L2 : px_L} (h : pk_blamed a k i I L x I2 L2) : I2 109 = I 109 := by
  unfold pk_blamed at h
  exact funext fun j => h.1 109 j (by omega)

theorem eb_reach_34_r {g lo hi sl fa w st x : Int32} {I I2 : px_I} {L L2 : px_L} (h : pb_reach g lo hi sl fa w st I L x I2 L2) : I2 34 = I 34 := by
  unfold pb_reach at h
  obtain ⟨rfl, h⟩ := h
  rcases h with ⟨G, ⟨g1, g2, g3⟩, rfl, rfl⟩ | ⟨a1, rfl, rfl⟩
  · have gG : G = 41 ∨ G = 55 := by unfold bG at g1; omega
    rw [cReach_o (by omega)]
  · rfl

theorem eb_reach_35_r {g lo hi sl fa w st x : Int32} {I I2 : px_I} {L L2 : px_L} (h : pb_reach g lo hi sl fa w st I L x I2 L2) : I2 35 = I 35 := by
  unfold pb_reach at h
  obtain ⟨rfl, h⟩ := h
  rcases h with ⟨G, ⟨g1, g2, g3⟩, rfl, rfl⟩ | ⟨a1, rfl, rfl⟩
  · have gG : G = 41 ∨ G = 55 := by unfold bG at g1; omega
    rw [cReach_o (by omega)]
  · rfl

theorem eb_reach_36_r {g lo hi sl fa w st x : Int32} {I I2 : px_I} {L L2 : px_L} (h : pb_reach g lo hi sl fa w st I L x I2 L2) : I2 36 = I 36 := by
  unfold pb_reach at h
  obtain ⟨rfl, h⟩ := h
  rcases h with ⟨G, ⟨g1, g2, g3⟩, rfl, rfl⟩ | ⟨a1, rfl, rfl⟩
  · have gG : G = 41 ∨ G = 55 := by unfold bG at g1; omega
    rw [cReach_o (by omega)]
  · rfl

theorem eb_reach_37_r {g lo hi sl fa w st x : Int32} {I I2 : px_I} {L L2 : px_L} (h : pb_reach g lo hi sl fa w st I L x I2 L2) : I2 37 = I 37 := by
  unfold pb_reach at h
  obtain ⟨rfl, h⟩ := h
  rcases h with ⟨G, ⟨g1, g2, g3⟩, rfl, rfl⟩ | ⟨a1, rfl, rfl⟩
  · have gG : G = 41 ∨ G = 55 := by unfold bG at g1; omega
    rw [cReach_o (by omega)]
  · rfl

theorem eb_reach_38_r {g lo hi sl fa w st x : Int32} {I I2 : px_I} {L L2 : px_L} (h : pb_reach g lo hi sl fa w st I L x I2 L2) : I2 38 = I 38 := by
  unfold pb_reach at h
  obtain ⟨rfl, h⟩ := h
  rcases h with ⟨G, ⟨g1, g2, g3⟩, rfl, rfl⟩ | ⟨a1, rfl, rfl⟩
  · have gG : G = 41 ∨ G = 55 := by unfold bG at g1; omega
    rw [cReach_o (by omega)]
  · rfl

theorem eb_reach_39_r {g lo hi sl fa w st x : Int32} {I I2 : px_I} {L L2 : px_L} (h : pb_reach g lo hi sl fa w st I L x I2 L2) : I2 39 = I 39 := by
  unfold pb_reach at h
  obtain ⟨rfl, h⟩ := h
  rcases h with ⟨G, ⟨g1, g2, g3⟩, rfl, rfl⟩ | ⟨a1, rfl, rfl⟩
  · have gG : G = 41 ∨ G = 55 := by unfold bG at g1; omega
    rw [cReach_o (by omega)]
  · rfl

theorem ek_reach_104_r {g lo hi sl fa w st x : Int32} {I I2 : px_I} {L L2 : px_L} (h : pk_reach g lo hi sl fa w st I L x I2 L2) : I2 104 = I 104 := by
  unfold pk_reach at h
  obtain ⟨rfl, h⟩ := h
  rcases h with ⟨a1, rfl, rfl⟩ | ⟨a1, rfl, rfl⟩
  · unfold mReach; (repeat rw [px_u_ne (by omega)])
  · rfl

theorem ek_reach_105_r {g lo hi sl fa w st x : Int32} {I I2 : px_I} {L L2 : px_L} (h : pk_reach g lo hi sl fa w st I L x I2 L2) : I2 105 = I 105 := by
  unfold pk_reach at h
  obtain ⟨rfl, h⟩ := h
  rcases h with ⟨a1, rfl, rfl⟩ | ⟨a1, rfl, rfl⟩
  · unfold mReach; (repeat rw [px_u_ne (by omega)])
  · rfl

theorem ek_reach_106_r {g lo hi sl fa w st x : Int32} {I I2 : px_I} {L L2 : px_L} (h : pk_reach g lo hi sl fa w st I L x I2 L2) : I2 106 = I 106 := by
  unfold pk_reach at h
  obtain ⟨rfl, h⟩ := h
  rcases h with ⟨a1, rfl, rfl⟩ | ⟨a1, rfl, rfl⟩
  · unfold mReach; (repeat rw [px_u_ne (by omega)])
  · rfl

theorem ek_reach_107_r {g lo hi sl fa w st x : Int32} {I I2 : px_I} {L L2 : px_L} (h : pk_reach g lo hi sl fa w st I L x I2 L2) : I2 107 = I 107 := by
  unfold pk_reach at h
  obtain ⟨rfl, h⟩ := h
  rcases h with ⟨a1, rfl, rfl⟩ | ⟨a1, rfl, rfl⟩
  · unfold mReach; (repeat rw [px_u_ne (by omega)])
  · rfl

theorem ek_reach_108_r {g lo hi sl fa w st x : Int32} {I I2 : px_I} {L L2 : px_L} (h : pk_reach g lo hi sl fa w st I L x I2 L2) : I2 108 = I 108 := by
  unfold pk_reach at h
  obtain ⟨rfl, h⟩ := h
  rcases h with ⟨a1, rfl, rfl⟩ | ⟨a1, rfl, rfl⟩
  · unfold mReach; (repeat rw [px_u_ne (by omega)])
  · rfl

theorem ek_reach_109_r {g lo hi sl fa w st x : Int32} {I I2 : px_I} {L L2 : px_L} (h : pk_reach g lo hi sl fa w st I L x I2 L2) : I2 109 = I 109 := by
  unfold pk_reach at h
  obtain ⟨rfl, h⟩ := h
  rcases h with ⟨a1, rfl, rfl⟩ | ⟨a1, rfl, rfl⟩
  · unfold mReach; (repeat rw [px_u_ne (by omega)])
  · rfl

theorem eb_mouth_34_r {g st x : Int32} {I I2 : px_I} {L L2 : px_L} (h : pb_mouth g st I L x I2 L2) : I2 34 = I 34 := by
  unfold pb_mouth at h
  obtain ⟨rfl, h⟩ := h
  rcases h with ⟨G, g1, rfl⟩ | rfl
  · have gG : G = 41 ∨ G = 55 := by unfold bG at g1; omega
    (repeat rw [px_u_ne (by omega)])
  · rfl

theorem eb_mouth_35_r {g st x : Int32} {I I2 : px_I} {L L2 : px_L} (h : pb_mouth g st I L x I2 L2) : I2 35 = I 35 := by
  unfold pb_mouth at h
  obtain ⟨rfl, h⟩ := h
  rcases h with ⟨G, g1, rfl⟩ | rfl
  · have gG : G = 41 ∨ G = 55 := by unfold bG at g1; omega
    (repeat rw [px_u_ne (by omega)])
  · rfl

theorem eb_mouth_36_r {g st x : Int32} {I I2 : px_I} {L L2 : px_L} (h : pb_mouth g st I L x I2 L2) : I2 36 = I 36 := by
  unfold pb_mouth at h
  obtain ⟨rfl, h⟩ := h
  rcases h with ⟨G, g1, rfl⟩ | rfl
  · have gG : G = 41 ∨ G = 55 := by unfold bG at g1; omega
    (repeat rw [px_u_ne (by omega)])
  · rfl

theorem eb_mouth_37_r {g st x : Int32} {I I2 : px_I} {L L2 : px_L} (h : pb_mouth g st I L x I2 L2) : I2 37 = I 37 := by
  unfold pb_mouth at h
  obtain ⟨rfl, h⟩ := h
  rcases h with ⟨G, g1, rfl⟩ | rfl
  · have gG : G = 41 ∨ G = 55 := by unfold bG at g1; omega
    (repeat rw [px_u_ne (by omega)])
  · rfl

theorem eb_mouth_38_r {g st x : Int32} {I I2 : px_I} {L L2 : px_L} (h : pb_mouth g st I L x I2 L2) : I2 38 = I 38 := by
  unfold pb_mouth at h
  obtain ⟨rfl, h⟩ := h
  rcases h with ⟨G, g1, rfl⟩ | rfl
  · have gG : G = 41 ∨ G = 55 := by unfold bG at g1; omega
    (repeat rw [px_u_ne (by omega)])
  · rfl

theorem eb_mouth_39_r {g st x : Int32} {I I2 : px_I} {L L2 : px_L} (h : pb_mouth g st I L x I2 L2) : I2 39 = I 39 := by
  unfold pb_mouth at h
  obtain ⟨rfl, h⟩ := h
  rcases h with ⟨G, g1, rfl⟩ | rfl
  · have gG : G = 41 ∨ G = 55 := by unfold bG at g1; omega
    (repeat rw [px_u_ne (by omega)])
  · rfl

theorem ek_mouth_104_r {g st x : Int32} {I I2 : px_I} {L L2 : px_L} (h : pk_mouth g st I L x I2 L2) : I2 104 = I 104 := by
  unfold pk_mouth at h
  obtain ⟨rfl, h⟩ := h
  rcases h with ⟨a1, a2, rfl, rfl⟩ | ⟨a1, rfl, rfl⟩
  · (repeat rw [px_u_ne (by omega)])
  · rfl

theorem ek_mouth_105_r {g st x : Int32} {I I2 : px_I} {L L2 : px_L} (h : pk_mouth g st I L x I2 L2) : I2 105 = I 105 := by
  unfold pk_mouth at h
  obtain ⟨rfl, h⟩ := h
  rcases h with ⟨a1, a2, rfl, rfl⟩ | ⟨a1, rfl, rfl⟩
  · (repeat rw [px_u_ne (by omega)])
  · rfl

theorem ek_mouth_106_r {g st x : Int32} {I I2 : px_I} {L L2 : px_L} (h : pk_mouth g st I L x I2 L2) : I2 106 = I 106 := by
  unfold pk_mouth at h
  obtain ⟨rfl, h⟩ := h
  rcases h with ⟨a1, a2, rfl, rfl⟩ | ⟨a1, rfl, rfl⟩
  · (repeat rw [px_u_ne (by omega)])
  · rfl

theorem ek_mouth_107_r {g st x : Int32} {I I2 : px_I} {L L2 : px_L} (h : pk_mouth g st I L x I2 L2) : I2 107 = I 107 := by
  unfold pk_mouth at h
  obtain ⟨rfl, h⟩ := h
  rcases h with ⟨a1, a2, rfl, rfl⟩ | ⟨a1, rfl, rfl⟩
  · (repeat rw [px_u_ne (by omega)])
  · rfl

theorem ek_mouth_108_r {g st x : Int32} {I I2 : px_I} {L L2 : px_L} (h : pk_mouth g st I L x I2 L2) : I2 108 = I 108 := by
  unfold pk_mouth at h
  obtain ⟨rfl, h⟩ := h
  rcases h with ⟨a1, a2, rfl, rfl⟩ | ⟨a1, rfl, rfl⟩
  · (repeat rw [px_u_ne (by omega)])
  · rfl

theorem ek_mouth_109_r {g st x : Int32} {I I2 : px_I} {L L2 : px_L} (h : pk_mouth g st I L x I2 L2) : I2 109 = I 109 := by
  unfold pk_mouth at h
  obtain ⟨rfl, h⟩ := h
  rcases h with ⟨a1, a2, rfl, rfl⟩ | ⟨a1, rfl, rfl⟩
  · (repeat rw [px_u_ne (by omega)])
  · rfl

theorem eb_mark_34_r {g p f t x : Int32} {I I2 : px_I} {L L2 : px_L} (h : pb_mark g p f t I L x I2 L2) : I2 34 = I 34 := by
  unfold pb_mark at h
  obtain ⟨rfl, h⟩ := h
  rcases h with ⟨G, g1, rfl, rfl⟩ | ⟨a1, rfl, rfl⟩
  · have g2 := g1.1
    have gG : G = 41 ∨ G = 55 := by unfold bG at g2; omega
    unfold cMark; (repeat rw [px_u_ne (by omega)])
  · rfl

theorem eb_mark_35_r {g p f t x : Int32} {I I2 : px_I} {L L2 : px_L} (h : pb_mark g p f t I L x I2 L2) : I2 35 = I 35 := by
  unfold pb_mark at h
  obtain ⟨rfl, h⟩ := h
  rcases h with ⟨G, g1, rfl, rfl⟩ | ⟨a1, rfl, rfl⟩
  · have g2 := g1.1
    have gG : G = 41 ∨ G = 55 := by unfold bG at g2; omega
    unfold cMark; (repeat rw [px_u_ne (by omega)])
  · rfl

theorem eb_mark_36_r {g p f t x : Int32} {I I2 : px_I} {L L2 : px_L} (h : pb_mark g p f t I L x I2 L2) : I2 36 = I 36 := by
  unfold pb_mark at h
  obtain ⟨rfl, h⟩ := h
  rcases h with ⟨G, g1, rfl, rfl⟩ | ⟨a1, rfl, rfl⟩
  · have g2 := g1.1
    have gG : G = 41 ∨ G = 55 := by unfold bG at g2; omega
    unfold cMark; (repeat rw [px_u_ne (by omega)])
  · rfl

theorem eb_mark_37_r {g p f t x : Int32} {I I2 : px_I} {L L2 : px_L} (h : pb_mark g p f t I L x I2 L2) : I2 37 = I 37 := by
  unfold pb_mark at h
  obtain ⟨rfl, h⟩ := h
  rcases h with ⟨G, g1, rfl, rfl⟩ | ⟨a1, rfl, rfl⟩
  · have g2 := g1.1
    have gG : G = 41 ∨ G = 55 := by unfold bG at g2; omega
    unfold cMark; (repeat rw [px_u_ne (by omega)])
  · rfl

theorem eb_mark_38_r {g p f t x : Int32} {I I2 : px_I} {L L2 : px_L} (h : pb_mark g p f t I L x I2 L2) : I2 38 = I 38 := by
  unfold pb_mark at h
  obtain ⟨rfl, h⟩ := h
  rcases h with ⟨G, g1, rfl, rfl⟩ | ⟨a1, rfl, rfl⟩
  · have g2 := g1.1
    have gG : G = 41 ∨ G = 55 := by unfold bG at g2; omega
    unfold cMark; (repeat rw [px_u_ne (by omega)])
  · rfl

theorem eb_mark_39_r {g p f t x : Int32} {I I2 : px_I} {L L2 : px_L} (h : pb_mark g p f t I L x I2 L2) : I2 39 = I 39 := by
  unfold pb_mark at h
  obtain ⟨rfl, h⟩ := h
  rcases h with ⟨G, g1, rfl, rfl⟩ | ⟨a1, rfl, rfl⟩
  · have g2 := g1.1
    have gG : G = 41 ∨ G = 55 := by unfold bG at g2; omega
    unfold cMark; (repeat rw [px_u_ne (by omega)])
  · rfl

theorem ek_mark_104_r {g p f t x : Int32} {I I2 : px_I} {L L2 : px_L} (h : pk_mark g p f t I L x I2 L2) : I2 104 = I 104 := by
  unfold pk_mark at h
  obtain ⟨rfl, h⟩ := h
  rcases h with ⟨a1, rfl, rfl⟩ | ⟨a1, rfl, rfl⟩
  · unfold mMark; (repeat rw [px_u_ne (by omega)])
  · rfl

theorem ek_mark_105_r {g p f t x : Int32} {I I2 : px_I} {L L2 : px_L} (h : pk_mark g p f t I L x I2 L2) : I2 105 = I 105 := by
  unfold pk_mark at h
  obtain ⟨rfl, h⟩ := h
  rcases h with ⟨a1, rfl, rfl⟩ | ⟨a1, rfl, rfl⟩
  · unfold mMark; (repeat rw [px_u_ne (by omega)])
  · rfl

theorem ek_mark_106_r {g p f t x : Int32} {I I2 : px_I} {L L2 : px_L} (h : pk_mark g p f t I L x I2 L2) : I2 106 = I 106 := by
  unfold pk_mark at h
  obtain ⟨rfl, h⟩ := h
  rcases h with ⟨a1, rfl, rfl⟩ | ⟨a1, rfl, rfl⟩
  · unfold mMark; (repeat rw [px_u_ne (by omega)])
  · rfl

theorem ek_mark_107_r {g p f t x : Int32} {I I2 : px_I} {L L2 : px_L} (h : pk_mark g p f t I L x I2 L2) : I2 107 = I 107 := by
  unfold pk_mark at h
  obtain ⟨rfl, h⟩ := h
  rcases h with ⟨a1, rfl, rfl⟩ | ⟨a1, rfl, rfl⟩
  · unfold mMark; (repeat rw [px_u_ne (by omega)])
  · rfl

theorem ek_mark_108_r {g p f t x : Int32} {I I2 : px_I} {L L2 : px_L} (h : pk_mark g p f t I L x I2 L2) : I2 108 = I 108 := by
  unfold pk_mark at h
  obtain ⟨rfl, h⟩ := h
  rcases h with ⟨a1, rfl, rfl⟩ | ⟨a1, rfl, rfl⟩
  · unfold mMark; (repeat rw [px_u_ne (by omega)])
  · rfl

theorem ek_mark_109_r {g p f t x : Int32} {I I2 : px_I} {L L2 : px_L} (h : pk_mark g p f t I L x I2 L2) : I2 109 = I 109 := by
  unfold pk_mark at h
  obtain ⟨rfl, h⟩ := h
  rcases h with ⟨a1, rfl, rfl⟩ | ⟨a1, rfl, rfl⟩
  · unfold mMark; (repeat rw [px_u_ne (by omega)])
  · rfl

theorem eb_when_34_r {g p h x : Int32} {I I2 : px_I} {L L2 : px_L} (h : pb_when g p h I L x I2 L2) : I2 34 = I 34 := by
  unfold pb_when at h
  obtain ⟨rfl, h⟩ := h
  rw [h 34 (by decide) (by decide) (by decide) (by decide)]

theorem eb_when_35_r {g p h x : Int32} {I I2 : px_I} {L L2 : px_L} (h : pb_when g p h I L x I2 L2) : I2 35 = I 35 := by
  unfold pb_when at h
  obtain ⟨rfl, h⟩ := h
  rw [h 35 (by decide) (by decide) (by decide) (by decide)]

theorem eb_when_36_r {g p h x : Int32} {I I2 : px_I} {L L2 : px_L} (h : pb_when g p h I L x I2 L2) : I2 36 = I 36 := by
  unfold pb_when at h
  obtain ⟨rfl, h⟩ := h
  rw [h 36 (by decide) (by decide) (by decide) (by decide)]

theorem eb_when_37_r {g p h x : Int32} {I I2 : px_I} {L L2 : px_L} (h : pb_when g p h I L x I2 L2) : I2 37 = I 37 := by
  unfold pb_when at h
  obtain ⟨rfl, h⟩ := h
  rw [h 37 (by decide) (by decide) (by decide) (by decide)]

theorem eb_when_38_r {g p h x : Int32} {I I2 : px_I} {L L2 : px_L} (h : pb_when g p h I L x I2 L2) : I2 38 = I 38 := by
  unfold pb_when at h
  obtain ⟨rfl, h⟩ := h
  rw [h 38 (by decide) (by decide) (by decide) (by decide)]

theorem eb_when_39_r {g p h x : Int32} {I I2 : px_I} {L L2 : px_L} (h : pb_when g p h I L x I2 L2) : I2 39 = I 39 := by
  unfold pb_when at h
  obtain ⟨rfl, h⟩ := h
  rw [h 39 (by decide) (by decide) (by decide) (by decide)]

theorem ek_when_104_r {g p h x : Int32} {I I2 : px_I} {L L2 : px_L} (h : pk_when g p h I L x I2 L2) : I2 104 = I 104 := by
  unfold pk_when at h
  exact funext fun j => h.1 104 j (by omega)

theorem ek_when_105_r {g p h x : Int32} {I I2 : px_I} {L L2 : px_L} (h : pk_when g p h I L x I2 L2) : I2 105 = I 105 := by
  unfold pk_when at h
  exact funext fun j => h.1 105 j (by omega)

theorem ek_when_106_r {g p h x : Int32} {I I2 : px_I} {L L2 : px_L} (h : pk_when g p h I L x I2 L2) : I2 106 = I 106 := by
  unfold pk_when at h
  exact funext fun j => h.1 106 j (by omega)

theorem ek_when_107_r {g p h x : Int32} {I I2 : px_I} {L L2 : px_L} (h : pk_when g p h I L x I2 L2) : I2 107 = I 107 := by
  unfold pk_when at h
  exact funext fun j => h.1 107 j (by omega)

theorem ek_when_108_r {g p h x : Int32} {I I2 : px_I} {L L2 : px_L} (h : pk_when g p h I L x I2 L2) : I2 108 = I 108 := by
  unfold pk_when at h
  exact funext fun j => h.1 108 j (by omega)

theorem ek_when_109_r {g p h x : Int32} {I I2 : px_I} {L L2 : px_L} (h : pk_when g p h I L x I2 L2) : I2 109 = I 109 := by
  unfold pk_when at h
  exact funext fun j => h.1 109 j (by omega)

theorem eb_between_34_r {g p q h x : Int32} {I I2 : px_I} {L L2 : px_L} (h : pb_between g p q h I L x I2 L2) : I2 34 = I 34 := by
  unfold pb_between at h
  obtain ⟨rfl, h⟩ := h
  rw [h 34 (by decide) (by decide) (by decide) (by decide)]

theorem eb_between_35_r {g p q h x : Int32} {I I2 : px_I} {L L2 : px_L} (h : pb_between g p q h I L x I2 L2) : I2 35 = I 35 := by
  unfold pb_between at h
  obtain ⟨rfl, h⟩ := h
  rw [h 35 (by decide) (by decide) (by decide) (by decide)]

theorem eb_between_36_r {g p q h x : Int32} {I I2 : px_I} {L L2 : px_L} (h : pb_between g p q h I L x I2 L2) : I2 36 = I 36 := by
  unfold pb_between at h
  obtain ⟨rfl, h⟩ := h
  rw [h 36 (by decide) (by decide) (by decide) (by decide)]

theorem eb_between_37_r {g p q h x : Int32} {I I2 : px_I} {L L2 : px_L} (h : pb_between g p q h I L x I2 L2) : I2 37 = I 37 := by
  unfold pb_between at h
  obtain ⟨rfl, h⟩ := h
  rw [h 37 (by decide) (by decide) (by decide) (by decide)]

theorem eb_between_38_r {g p q h x : Int32} {I I2 : px_I} {L L2 : px_L} (h : pb_between g p q h I L x I2 L2) : I2 38 = I 38 := by
  unfold pb_between at h
  obtain ⟨rfl, h⟩ := h
  rw [h 38 (by decide) (by decide) (by decide) (by decide)]

theorem eb_between_39_r {g p q h x : Int32} {I I2 : px_I} {L L2 : px_L} (h : pb_between g p q h I L x I2 L2) : I2 39 = I 39 := by
  unfold pb_between at h
  obtain ⟨rfl, h⟩ := h
  rw [h 39 (by decide) (by decide) (by decide) (by decide)]

theorem ek_between_104_r {g p t h x : Int32} {I I2 : px_I} {L L2 : px_L} (h : pk_between g p t h I L x I2 L2) : I2 104 = I 104 := by
  unfold pk_between at h
  exact funext fun j => h.1 104 j (by omega)

theorem ek_between_105_r {g p t h x : Int32} {I I2 : px_I} {L L2 : px_L} (h : pk_between g p t h I L x I2 L2) : I2 105 = I 105 := by
  unfold pk_between at h
  exact funext fun j => h.1 105 j (by omega)

theorem ek_between_106_r {g p t h x : Int32} {I I2 : px_I} {L L2 : px_L} (h : pk_between g p t h I L x I2 L2) : I2 106 = I 106 := by
  unfold pk_between at h
  exact funext fun j => h.1 106 j (by omega)

theorem ek_between_107_r {g p t h x : Int32} {I I2 : px_I} {L L2 : px_L} (h : pk_between g p t h I L x I2 L2) : I2 107 = I 107 := by
  unfold pk_between at h
  exact funext fun j => h.1 107 j (by omega)

theorem ek_between_108_r {g p t h x : Int32} {I I2 : px_I} {L L2 : px_L} (h : pk_between g p t h I L x I2 L2) : I2 108 = I 108 := by
  unfold pk_between at h
  exact funext fun j => h.1 108 j (by omega)

theorem ek_between_109_r {g p t h x : Int32} {I I2 : px_I} {L L2 : px_L} (h : pk_between g p t h I L x I2 L2) : I2 109 = I 109 := by
  unfold pk_between at h
  exact funext fun j => h.1 109 j (by omega)

theorem eb_lamps_34_r {g p h lo hi x : Int32} {I I2 : px_I} {L L2 : px_L} (h : pb_lamps g p h lo hi I L x I2 L2) : I2 34 = I 34 := by
  unfold pb_lamps at h
  rw [h.1]

theorem eb_lamps_35_r {g p h lo hi x : Int32} {I I2 : px_I} {L L2 : px_L} (h : pb_lamps g p h lo hi I L x I2 L2) : I2 35 = I 35 := by
  unfold pb_lamps at h
  rw [h.1]

theorem eb_lamps_36_r {g p h lo hi x : Int32} {I I2 : px_I} {L L2 : px_L} (h : pb_lamps g p h lo hi I L x I2 L2) : I2 36 = I 36 := by
  unfold pb_lamps at h
  rw [h.1]

theorem eb_lamps_37_r {g p h lo hi x : Int32} {I I2 : px_I} {L L2 : px_L} (h : pb_lamps g p h lo hi I L x I2 L2) : I2 37 = I 37 := by
  unfold pb_lamps at h
  rw [h.1]

theorem eb_lamps_38_r {g p h lo hi x : Int32} {I I2 : px_I} {L L2 : px_L} (h : pb_lamps g p h lo hi I L x I2 L2) : I2 38 = I 38 := by
  unfold pb_lamps at h
  rw [h.1]

theorem eb_lamps_39_r {g p h lo hi x : Int32} {I I2 : px_I} {L L2 : px_L} (h : pb_lamps g p h lo hi I L x I2 L2) : I2 39 = I 39 := by
  unfold pb_lamps at h
  rw [h.1]

theorem ek_lamps_104_r {g p h lo hi x : Int32} {I I2 : px_I} {L L2 : px_L} (h : pk_lamps g p h lo hi I L x I2 L2) : I2 104 = I 104 := by
  unfold pk_lamps at h
  rw [h.1]

theorem ek_lamps_105_r {g p h lo hi x : Int32} {I I2 : px_I} {L L2 : px_L} (h : pk_lamps g p h lo hi I L x I2 L2) : I2 105 = I 105 := by
  unfold pk_lamps at h
  rw [h.1]

theorem ek_lamps_106_r {g p h lo hi x : Int32} {I I2 : px_I} {L L2 : px_L} (h : pk_lamps g p h lo hi I L x I2 L2) : I2 106 = I 106 := by
  unfold pk_lamps at h
  rw [h.1]

theorem ek_lamps_107_r {g p h lo hi x : Int32} {I I2 : px_I} {L L2 : px_L} (h : pk_lamps g p h lo hi I L x I2 L2) : I2 107 = I 107 := by
  unfold pk_lamps at h
  rw [h.1]

theorem ek_lamps_108_r {g p h lo hi x : Int32} {I I2 : px_I} {L L2 : px_L} (h : pk_lamps g p h lo hi I L x I2 L2) : I2 108 = I 108 := by
  unfold pk_lamps at h
  rw [h.1]

theorem ek_lamps_109_r {g p h lo hi x : Int32} {I I2 : px_I} {L L2 : px_L} (h : pk_lamps g p h lo hi I L x I2 L2) : I2 109 = I 109 := by
  unfold pk_lamps at h
  rw [h.1]

theorem eb_count_34_r {u lo hi x : Int32} {I I2 : px_I} {L L2 : px_L} (h : pb_count u lo hi I L x I2 L2) : I2 34 = I 34 := by
  unfold pb_count at h
  obtain ⟨rfl, h⟩ := h
  rcases h with ⟨a1, rfl, rfl⟩ | ⟨a1, rfl, rfl⟩
  · (repeat rw [px_u_ne (by omega)])
  · rfl

theorem eb_count_35_r {u lo hi x : Int32} {I I2 : px_I} {L L2 : px_L} (h : pb_count u lo hi I L x I2 L2) : I2 35 = I 35 := by
  unfold pb_count at h
  obtain ⟨rfl, h⟩ := h
  rcases h with ⟨a1, rfl, rfl⟩ | ⟨a1, rfl, rfl⟩
  · (repeat rw [px_u_ne (by omega)])
  · rfl

theorem eb_count_36_r {u lo hi x : Int32} {I I2 : px_I} {L L2 : px_L} (h : pb_count u lo hi I L x I2 L2) : I2 36 = I 36 := by
  unfold pb_count at h
  obtain ⟨rfl, h⟩ := h
  rcases h with ⟨a1, rfl, rfl⟩ | ⟨a1, rfl, rfl⟩
  · (repeat rw [px_u_ne (by omega)])
  · rfl

theorem eb_count_37_r {u lo hi x : Int32} {I I2 : px_I} {L L2 : px_L} (h : pb_count u lo hi I L x I2 L2) : I2 37 = I 37 := by
  unfold pb_count at h
  obtain ⟨rfl, h⟩ := h
  rcases h with ⟨a1, rfl, rfl⟩ | ⟨a1, rfl, rfl⟩
  · (repeat rw [px_u_ne (by omega)])
  · rfl

theorem eb_count_38_r {u lo hi x : Int32} {I I2 : px_I} {L L2 : px_L} (h : pb_count u lo hi I L x I2 L2) : I2 38 = I 38 := by
  unfold pb_count at h
  obtain ⟨rfl, h⟩ := h
  rcases h with ⟨a1, rfl, rfl⟩ | ⟨a1, rfl, rfl⟩
  · (repeat rw [px_u_ne (by omega)])
  · rfl

theorem eb_count_39_r {u lo hi x : Int32} {I I2 : px_I} {L L2 : px_L} (h : pb_count u lo hi I L x I2 L2) : I2 39 = I 39 := by
  unfold pb_count at h
  obtain ⟨rfl, h⟩ := h
  rcases h with ⟨a1, rfl, rfl⟩ | ⟨a1, rfl, rfl⟩
  · (repeat rw [px_u_ne (by omega)])
  · rfl

theorem ek_count_104_r {u lo hi x : Int32} {I I2 : px_I} {L L2 : px_L} (h : pk_count u lo hi I L x I2 L2) : I2 104 = I 104 := by
  unfold pk_count at h
  rcases h with ⟨a1, rfl, rfl, rfl⟩ | ⟨a1, rfl, rfl, rfl⟩
  · (repeat rw [px_u_ne (by omega)])
  · rfl

theorem ek_count_105_r {u lo hi x : Int32} {I I2 : px_I} {L L2 : px_L} (h : pk_count u lo hi I L x I2 L2) : I2 105 = I 105 := by
  unfold pk_count at h
  rcases h with ⟨a1, rfl, rfl, rfl⟩ | ⟨a1, rfl, rfl, rfl⟩
  · (repeat rw [px_u_ne (by omega)])
  · rfl

theorem ek_count_106_r {u lo hi x : Int32} {I I2 : px_I} {L L2 : px_L} (h : pk_count u lo hi I L x I2 L2) : I2 106 = I 106 := by
  unfold pk_count at h
  rcases h with ⟨a1, rfl, rfl, rfl⟩ | ⟨a1, rfl, rfl, rfl⟩
  · (repeat rw [px_u_ne (by omega)])
  · rfl

theorem ek_count_107_r {u lo hi x : Int32} {I I2 : px_I} {L L2 : px_L} (h : pk_count u lo hi I L x I2 L2) : I2 107 = I 107 := by
  unfold pk_count at h
  rcases h with ⟨a1, rfl, rfl, rfl⟩ | ⟨a1, rfl, rfl, rfl⟩
  · (repeat rw [px_u_ne (by omega)])
  · rfl

theorem ek_count_108_r {u lo hi x : Int32} {I I2 : px_I} {L L2 : px_L} (h : pk_count u lo hi I L x I2 L2) : I2 108 = I 108 := by
  unfold pk_count at h
  rcases h with ⟨a1, rfl, rfl, rfl⟩ | ⟨a1, rfl, rfl, rfl⟩
  · (repeat rw [px_u_ne (by omega)])
  · rfl

theorem ek_count_109_r {u lo hi x : Int32} {I I2 : px_I} {L L2 : px_L} (h : pk_count u lo hi I L x I2 L2) : I2 109 = I 109 := by
  unfold pk_count at h
  rcases h with ⟨a1, rfl, rfl, rfl⟩ | ⟨a1, rfl, rfl, rfl⟩
  · (repeat rw [px_u_ne (by omega)])
  · rfl

theorem eb_unit_34_r {h x : Int32} {I I2 : px_I} {L L2 : px_L} (h : pb_unit h I L x I2 L2) : I2 34 = I 34 := by
  unfold pb_unit at h
  rw [h.1]

theorem eb_unit_35_r {h x : Int32} {I I2 : px_I} {L L2 : px_L} (h : pb_unit h I L x I2 L2) : I2 35 = I 35 := by
  unfold pb_unit at h
  rw [h.1]

theorem eb_unit_36_r {h x : Int32} {I I2 : px_I} {L L2 : px_L} (h : pb_unit h I L x I2 L2) : I2 36 = I 36 := by
  unfold pb_unit at h
  rw [h.1]

theorem eb_unit_37_r {h x : Int32} {I I2 : px_I} {L L2 : px_L} (h : pb_unit h I L x I2 L2) : I2 37 = I 37 := by
  unfold pb_unit at h
  rw [h.1]

theorem eb_unit_38_r {h x : Int32} {I I2 : px_I} {L L2 : px_L} (h : pb_unit h I L x I2 L2) : I2 38 = I 38 := by
  unfold pb_unit at h
  rw [h.1]

theorem eb_unit_39_r {h x : Int32} {I I2 : px_I} {L L2 : px_L} (h : pb_unit h I L x I2 L2) : I2 39 = I 39 := by
  unfold pb_unit at h
  rw [h.1]

theorem ek_unit_104_r {h x : Int32} {I I2 : px_I} {L L2 : px_L} (h : pk_unit h I L x I2 L2) : I2 104 = I 104 := by
  unfold pk_unit at h
  rw [h.1]

theorem ek_unit_105_r {h x : Int32} {I I2 : px_I} {L L2 : px_L} (h : pk_unit h I L x I2 L2) : I2 105 = I 105 := by
  unfold pk_unit at h
  rw [h.1]

theorem ek_unit_106_r {h x : Int32} {I I2 : px_I} {L L2 : px_L} (h : pk_unit h I L x I2 L2) : I2 106 = I 106 := by
  unfold pk_unit at h
  rw [h.1]

theorem ek_unit_107_r {h x : Int32} {I I2 : px_I} {L L2 : px_L} (h : pk_unit h I L x I2 L2) : I2 107 = I 107 := by
  unfold pk_unit at h
  rw [h.1]

theorem ek_unit_108_r {h x : Int32} {I I2 : px_I} {L L2 : px_L} (h : pk_unit h I L x I2 L2) : I2 108 = I 108 := by
  unfold pk_unit at h
  rw [h.1]

theorem ek_unit_109_r {h x : Int32} {I I2 : px_I} {L L2 : px_L} (h : pk_unit h I L x I2 L2) : I2 109 = I 109 := by
  unfold pk_unit at h
  rw [h.1]

theorem eb_feed_34_r {a b c d e x : Int32} {I I2 : px_I} {L L2 : px_L} (h : pb_feed a b c d e I L x I2 L2) : I2 34 = I 34 := by
  unfold pb_feed at h
  obtain ⟨rfl, h⟩ := h
  rcases h with ⟨a1, rfl, rfl⟩ | ⟨a1, rfl, rfl⟩
  · rw [cApp_o _ _ (by omega) (by omega), cApp_o _ _ (by omega) (by omega), cApp_o _ _ (by omega) (by omega), cApp_o _ _ (by omega) (by omega), cApp_o _ _ (by omega) (by omega)]
  · rfl

theorem eb_feed_35_r {a b c d e x : Int32} {I I2 : px_I} {L L2 : px_L} (h : pb_feed a b c d e I L x I2 L2) : I2 35 = I 35 := by
  unfold pb_feed at h
  obtain ⟨rfl, h⟩ := h
  rcases h with ⟨a1, rfl, rfl⟩ | ⟨a1, rfl, rfl⟩
  · rw [cApp_o _ _ (by omega) (by omega), cApp_o _ _ (by omega) (by omega), cApp_o _ _ (by omega) (by omega), cApp_o _ _ (by omega) (by omega), cApp_o _ _ (by omega) (by omega)]
  · rfl

theorem eb_feed_36_r {a b c d e x : Int32} {I I2 : px_I} {L L2 : px_L} (h : pb_feed a b c d e I L x I2 L2) : I2 36 = I 36 := by
  unfold pb_feed at h
  obtain ⟨rfl, h⟩ := h
  rcases h with ⟨a1, rfl, rfl⟩ | ⟨a1, rfl, rfl⟩
  · rw [cApp_o _ _ (by omega) (by omega), cApp_o _ _ (by omega) (by omega), cApp_o _ _ (by omega) (by omega), cApp_o _ _ (by omega) (by omega), cApp_o _ _ (by omega) (by omega)]
  · rfl

theorem eb_feed_37_r {a b c d e x : Int32} {I I2 : px_I} {L L2 : px_L} (h : pb_feed a b c d e I L x I2 L2) : I2 37 = I 37 := by
  unfold pb_feed at h
  obtain ⟨rfl, h⟩ := h
  rcases h with ⟨a1, rfl, rfl⟩ | ⟨a1, rfl, rfl⟩
  · rw [cApp_o _ _ (by omega) (by omega), cApp_o _ _ (by omega) (by omega), cApp_o _ _ (by omega) (by omega), cApp_o _ _ (by omega) (by omega), cApp_o _ _ (by omega) (by omega)]
  · rfl

theorem eb_feed_38_r {a b c d e x : Int32} {I I2 : px_I} {L L2 : px_L} (h : pb_feed a b c d e I L x I2 L2) : I2 38 = I 38 := by
  unfold pb_feed at h
  obtain ⟨rfl, h⟩ := h
  rcases h with ⟨a1, rfl, rfl⟩ | ⟨a1, rfl, rfl⟩
  · rw [cApp_o _ _ (by omega) (by omega), cApp_o _ _ (by omega) (by omega), cApp_o _ _ (by omega) (by omega), cApp_o _ _ (by omega) (by omega), cApp_o _ _ (by omega) (by omega)]
  · rfl

theorem eb_feed_39_r {a b c d e x : Int32} {I I2 : px_I} {L L2 : px_L} (h : pb_feed a b c d e I L x I2 L2) : I2 39 = I 39 := by
  unfold pb_feed at h
  obtain ⟨rfl, h⟩ := h
  rcases h with ⟨a1, rfl, rfl⟩ | ⟨a1, rfl, rfl⟩
  · rw [cApp_o _ _ (by omega) (by omega), cApp_o _ _ (by omega) (by omega), cApp_o _ _ (by omega) (by omega), cApp_o _ _ (by omega) (by omega), cApp_o _ _ (by omega) (by omega)]
  · rfl

theorem ek_feed_104_r {a b c d e x : Int32} {I I2 : px_I} {L L2 : px_L} (h : pk_feed a b c d e I L x I2 L2) : I2 104 = I 104 := by
  unfold pk_feed at h
  obtain ⟨rfl, h⟩ := h
  rcases h with ⟨a1, rfl, rfl⟩ | ⟨a1, rfl, rfl⟩
  · funext j; rw [mPut_o (by omega) (by omega), mPut_o (by omega) (by omega), mPut_o (by omega) (by omega), mPut_o (by omega) (by omega), mPut_o (by omega) (by omega)]
  · rfl

theorem ek_feed_105_r {a b c d e x : Int32} {I I2 : px_I} {L L2 : px_L} (h : pk_feed a b c d e I L x I2 L2) : I2 105 = I 105 := by
  unfold pk_feed at h
  obtain ⟨rfl, h⟩ := h
  rcases h with ⟨a1, rfl, rfl⟩ | ⟨a1, rfl, rfl⟩
  · funext j; rw [mPut_o (by omega) (by omega), mPut_o (by omega) (by omega), mPut_o (by omega) (by omega), mPut_o (by omega) (by omega), mPut_o (by omega) (by omega)]
  · rfl

theorem ek_feed_106_r {a b c d e x : Int32} {I I2 : px_I} {L L2 : px_L} (h : pk_feed a b c d e I L x I2 L2) : I2 106 = I 106 := by
  unfold pk_feed at h
  obtain ⟨rfl, h⟩ := h
  rcases h with ⟨a1, rfl, rfl⟩ | ⟨a1, rfl, rfl⟩
  · funext j; rw [mPut_o (by omega) (by omega), mPut_o (by omega) (by omega), mPut_o (by omega) (by omega), mPut_o (by omega) (by omega), mPut_o (by omega) (by omega)]
  · rfl

theorem ek_feed_107_r {a b c d e x : Int32} {I I2 : px_I} {L L2 : px_L} (h : pk_feed a b c d e I L x I2 L2) : I2 107 = I 107 := by
  unfold pk_feed at h
  obtain ⟨rfl, h⟩ := h
  rcases h with ⟨a1, rfl, rfl⟩ | ⟨a1, rfl, rfl⟩
  · funext j; rw [mPut_o (by omega) (by omega), mPut_o (by omega) (by omega), mPut_o (by omega) (by omega), mPut_o (by omega) (by omega), mPut_o (by omega) (by omega)]
  · rfl

theorem ek_feed_108_r {a b c d e x : Int32} {I I2 : px_I} {L L2 : px_L} (h : pk_feed a b c d e I L x I2 L2) : I2 108 = I 108 := by
  unfold pk_feed at h
  obtain ⟨rfl, h⟩ := h
  rcases h with ⟨a1, rfl, rfl⟩ | ⟨a1, rfl, rfl⟩
  · funext j; rw [mPut_o (by omega) (by omega), mPut_o (by omega) (by omega), mPut_o (by omega) (by omega), mPut_o (by omega) (by omega), mPut_o (by omega) (by omega)]
  · rfl

theorem ek_feed_109_r {a b c d e x : Int32} {I I2 : px_I} {L L2 : px_L} (h : pk_feed a b c d e I L x I2 L2) : I2 109 = I 109 := by
  unfold pk_feed at h
  obtain ⟨rfl, h⟩ := h
  rcases h with ⟨a1, rfl, rfl⟩ | ⟨a1, rfl, rfl⟩
  · funext j; rw [mPut_o (by omega) (by omega), mPut_o (by omega) (by omega), mPut_o (by omega) (by omega), mPut_o (by omega) (by omega), mPut_o (by omega) (by omega)]
  · rfl

theorem eb_end_34_r {x9 x : Int32} {I I2 : px_I} {L L2 : px_L} (h : pb_end x9 I L x I2 L2) : I2 34 = I 34 := by
  unfold pb_end at h
  obtain ⟨rfl, h⟩ := h
  rcases h with ⟨a1, rfl, rfl⟩ | ⟨a1, rfl, rfl⟩
  · (repeat rw [px_u_ne (by omega)])
  · rfl

theorem eb_end_35_r {x9 x : Int32} {I I2 : px_I} {L L2 : px_L} (h : pb_end x9 I L x I2 L2) : I2 35 = I 35 := by
  unfold pb_end at h
  obtain ⟨rfl, h⟩ := h
  rcases h with ⟨a1, rfl, rfl⟩ | ⟨a1, rfl, rfl⟩
  · (repeat rw [px_u_ne (by omega)])
  · rfl

theorem eb_end_36_r {x9 x : Int32} {I I2 : px_I} {L L2 : px_L} (h : pb_end x9 I L x I2 L2) : I2 36 = I 36 := by
  unfold pb_end at h
  obtain ⟨rfl, h⟩ := h
  rcases h with ⟨a1, rfl, rfl⟩ | ⟨a1, rfl, rfl⟩
  · (repeat rw [px_u_ne (by omega)])
  · rfl

theorem eb_end_37_r {x9 x : Int32} {I I2 : px_I} {L L2 : px_L} (h : pb_end x9 I L x I2 L2) : I2 37 = I 37 := by
  unfold pb_end at h
  obtain ⟨rfl, h⟩ := h
  rcases h with ⟨a1, rfl, rfl⟩ | ⟨a1, rfl, rfl⟩
  · (repeat rw [px_u_ne (by omega)])
  · rfl

theorem eb_end_38_r {x9 x : Int32} {I I2 : px_I} {L L2 : px_L} (h : pb_end x9 I L x I2 L2) : I2 38 = I 38 := by
  unfold pb_end at h
  obtain ⟨rfl, h⟩ := h
  rcases h with ⟨a1, rfl, rfl⟩ | ⟨a1, rfl, rfl⟩
  · (repeat rw [px_u_ne (by omega)])
  · rfl

theorem eb_end_39_r {x9 x : Int32} {I I2 : px_I} {L L2 : px_L} (h : pb_end x9 I L x I2 L2) : I2 39 = I 39 := by
  unfold pb_end at h
  obtain ⟨rfl, h⟩ := h
  rcases h with ⟨a1, rfl, rfl⟩ | ⟨a1, rfl, rfl⟩
  · (repeat rw [px_u_ne (by omega)])
  · rfl

theorem ek_end_104_r {x9 x : Int32} {I I2 : px_I} {L L2 : px_L} (h : pk_end x9 I L x I2 L2) : I2 104 = I 104 := by
  unfold pk_end at h
  obtain ⟨rfl, h⟩ := h
  rcases h with ⟨a1, a2, rfl, rfl⟩ | ⟨a1, rfl, rfl⟩
  · (repeat rw [px_u_ne (by omega)])
  · rfl

theorem ek_end_105_r {x9 x : Int32} {I I2 : px_I} {L L2 : px_L} (h : pk_end x9 I L x I2 L2) : I2 105 = I 105 := by
  unfold pk_end at h
  obtain ⟨rfl, h⟩ := h
  rcases h with ⟨a1, a2, rfl, rfl⟩ | ⟨a1, rfl, rfl⟩
  · (repeat rw [px_u_ne (by omega)])
  · rfl

theorem ek_end_106_r {x9 x : Int32} {I I2 : px_I} {L L2 : px_L} (h : pk_end x9 I L x I2 L2) : I2 106 = I 106 := by
  unfold pk_end at h
  obtain ⟨rfl, h⟩ := h
  rcases h with ⟨a1, a2, rfl, rfl⟩ | ⟨a1, rfl, rfl⟩
  · (repeat rw [px_u_ne (by omega)])
  · rfl

theorem ek_end_107_r {x9 x : Int32} {I I2 : px_I} {L L2 : px_L} (h : pk_end x9 I L x I2 L2) : I2 107 = I 107 := by
  unfold pk_end at h
  obtain ⟨rfl, h⟩ := h
  rcases h with ⟨a1, a2, rfl, rfl⟩ | ⟨a1, rfl, rfl⟩
  · (repeat rw [px_u_ne (by omega)])
  · rfl

theorem ek_end_108_r {x9 x : Int32} {I I2 : px_I} {L L2 : px_L} (h : pk_end x9 I L x I2 L2) : I2 108 = I 108 := by
  unfold pk_end at h
  obtain ⟨rfl, h⟩ := h
  rcases h with ⟨a1, a2, rfl, rfl⟩ | ⟨a1, rfl, rfl⟩
  · (repeat rw [px_u_ne (by omega)])
  · rfl

theorem ek_end_109_r {x9 x : Int32} {I I2 : px_I} {L L2 : px_L} (h : pk_end x9 I L x I2 L2) : I2 109 = I 109 := by
  unfold pk_end at h
  obtain ⟨rfl, h⟩ := h
  rcases h with ⟨a1, a2, rfl, rfl⟩ | ⟨a1, rfl, rfl⟩
  · (repeat rw [px_u_ne (by omega)])
  · rfl

theorem eb_way_34_r {i x : Int32} {I I2 : px_I} {L L2 : px_L} (h : pb_way i I L x I2 L2) : I2 34 = I 34 := by
  unfold pb_way at h
  exact funext fun j => h.1 34 j (by omega) (by omega) (by omega) (by omega) (by omega)

theorem eb_way_35_r {i x : Int32} {I I2 : px_I} {L L2 : px_L} (h : pb_way i I L x I2 L2) : I2 35 = I 35 := by
  unfold pb_way at h
  exact funext fun j => h.1 35 j (by omega) (by omega) (by omega) (by omega) (by omega)

theorem eb_way_36_r {i x : Int32} {I I2 : px_I} {L L2 : px_L} (h : pb_way i I L x I2 L2) : I2 36 = I 36 := by
  unfold pb_way at h
  exact funext fun j => h.1 36 j (by omega) (by omega) (by omega) (by omega) (by omega)

theorem eb_way_37_r {i x : Int32} {I I2 : px_I} {L L2 : px_L} (h : pb_way i I L x I2 L2) : I2 37 = I 37 := by
  unfold pb_way at h
  exact funext fun j => h.1 37 j (by omega) (by omega) (by omega) (by omega) (by omega)

theorem eb_way_38_r {i x : Int32} {I I2 : px_I} {L L2 : px_L} (h : pb_way i I L x I2 L2) : I2 38 = I 38 := by
  unfold pb_way at h
  exact funext fun j => h.1 38 j (by omega) (by omega) (by omega) (by omega) (by omega)

theorem eb_way_39_r {i x : Int32} {I I2 : px_I} {L L2 : px_L} (h : pb_way i I L x I2 L2) : I2 39 = I 39 := by
  unfold pb_way at h
  exact funext fun j => h.1 39 j (by omega) (by omega) (by omega) (by omega) (by omega)

theorem ek_way_104_r {w x : Int32} {I I2 : px_I} {L L2 : px_L} (h : pk_way w I L x I2 L2) : I2 104 = I 104 := by
  unfold pk_way at h
  obtain ⟨rfl, h⟩ := h
  rcases h with ⟨a1, a2, rfl⟩ | ⟨a1, a2, a3⟩
  · rfl
  · exact funext fun j => a2 104 j (by omega) (by omega)

theorem ek_way_105_r {w x : Int32} {I I2 : px_I} {L L2 : px_L} (h : pk_way w I L x I2 L2) : I2 105 = I 105 := by
  unfold pk_way at h
  obtain ⟨rfl, h⟩ := h
  rcases h with ⟨a1, a2, rfl⟩ | ⟨a1, a2, a3⟩
  · rfl
  · exact funext fun j => a2 105 j (by omega) (by omega)

theorem ek_way_106_r {w x : Int32} {I I2 : px_I} {L L2 : px_L} (h : pk_way w I L x I2 L2) : I2 106 = I 106 := by
  unfold pk_way at h
  obtain ⟨rfl, h⟩ := h
  rcases h with ⟨a1, a2, rfl⟩ | ⟨a1, a2, a3⟩
  · rfl
  · exact funext fun j => a2 106 j (by omega) (by omega)

theorem ek_way_107_r {w x : Int32} {I I2 : px_I} {L L2 : px_L} (h : pk_way w I L x I2 L2) : I2 107 = I 107 := by
  unfold pk_way at h
  obtain ⟨rfl, h⟩ := h
  rcases h with ⟨a1, a2, rfl⟩ | ⟨a1, a2, a3⟩
  · rfl
  · exact funext fun j => a2 107 j (by omega) (by omega)

theorem ek_way_108_r {w x : Int32} {I I2 : px_I} {L L2 : px_L} (h : pk_way w I L x I2 L2) : I2 108 = I 108 := by
  unfold pk_way at h
  obtain ⟨rfl, h⟩ := h
  rcases h with ⟨a1, a2, rfl⟩ | ⟨a1, a2, a3⟩
  · rfl
  · exact funext fun j => a2 108 j (by omega) (by omega)

theorem ek_way_109_r {w x : Int32} {I I2 : px_I} {L L2 : px_L} (h : pk_way w I L x I2 L2) : I2 109 = I 109 := by
  unfold pk_way at h
  obtain ⟨rfl, h⟩ := h
  rcases h with ⟨a1, a2, rfl⟩ | ⟨a1, a2, a3⟩
  · rfl
  · exact funext fun j => a2 109 j (by omega) (by omega)

theorem eb_fault_34_r {x9 x : Int32} {I I2 : px_I} {L L2 : px_L} (h : pb_fault x9 I L x I2 L2) : I2 34 = I 34 := by
  unfold pb_fault at h
  rw [h.1]

theorem eb_fault_35_r {x9 x : Int32} {I I2 : px_I} {L L2 : px_L} (h : pb_fault x9 I L x I2 L2) : I2 35 = I 35 := by
  unfold pb_fault at h
  rw [h.1]

theorem eb_fault_36_r {x9 x : Int32} {I I2 : px_I} {L L2 : px_L} (h : pb_fault x9 I L x I2 L2) : I2 36 = I 36 := by
  unfold pb_fault at h
  rw [h.1]

theorem eb_fault_37_r {x9 x : Int32} {I I2 : px_I} {L L2 : px_L} (h : pb_fault x9 I L x I2 L2) : I2 37 = I 37 := by
  unfold pb_fault at h
  rw [h.1]

theorem eb_fault_38_r {x9 x : Int32} {I I2 : px_I} {L L2 : px_L} (h : pb_fault x9 I L x I2 L2) : I2 38 = I 38 := by
  unfold pb_fault at h
  rw [h.1]

theorem eb_fault_39_r {x9 x : Int32} {I I2 : px_I} {L L2 : px_L} (h : pb_fault x9 I L x I2 L2) : I2 39 = I 39 := by
  unfold pb_fault at h
  rw [h.1]

theorem ek_fault_104_r {x9 x : Int32} {I I2 : px_I} {L L2 : px_L} (h : pk_fault x9 I L x I2 L2) : I2 104 = I 104 := by
  unfold pk_fault at h
  rw [h.1]

theorem ek_fault_105_r {x9 x : Int32} {I I2 : px_I} {L L2 : px_L} (h : pk_fault x9 I L x I2 L2) : I2 105 = I 105 := by
  unfold pk_fault at h
  rw [h.1]

theorem ek_fault_106_r {x9 x : Int32} {I I2 : px_I} {L L2 : px_L} (h : pk_fault x9 I L x I2 L2) : I2 106 = I 106 := by
  unfold pk_fault at h
  rw [h.1]

theorem ek_fault_107_r {x9 x : Int32} {I I2 : px_I} {L L2 : px_L} (h : pk_fault x9 I L x I2 L2) : I2 107 = I 107 := by
  unfold pk_fault at h
  rw [h.1]

theorem ek_fault_108_r {x9 x : Int32} {I I2 : px_I} {L L2 : px_L} (h : pk_fault x9 I L x I2 L2) : I2 108 = I 108 := by
  unfold pk_fault at h
  rw [h.1]

theorem ek_fault_109_r {x9 x : Int32} {I I2 : px_I} {L L2 : px_L} (h : pk_fault x9 I L x I2 L2) : I2 109 = I 109 := by
  unfold pk_fault at h
  rw [h.1]

theorem eb_tools_34_r {a b c d e x : Int32} {I I2 : px_I} {L L2 : px_L} (h : pb_tools a b c d e I L x I2 L2) : I2 34 = I 34 := by
  unfold pb_tools at h
  obtain ⟨rfl, h⟩ := h
  rcases h with ⟨a1, rfl, a2⟩ | ⟨a1, rfl, rfl⟩
  · rw [a2 34 (by decide)]; (repeat rw [px_u_ne (by omega)])
  · rfl

theorem eb_tools_35_r {a b c d e x : Int32} {I I2 : px_I} {L L2 : px_L} (h : pb_tools a b c d e I L x I2 L2) : I2 35 = I 35 := by
  unfold pb_tools at h
  obtain ⟨rfl, h⟩ := h
  rcases h with ⟨a1, rfl, a2⟩ | ⟨a1, rfl, rfl⟩
  · rw [a2 35 (by decide)]; (repeat rw [px_u_ne (by omega)])
  · rfl

theorem eb_tools_36_r {a b c d e x : Int32} {I I2 : px_I} {L L2 : px_L} (h : pb_tools a b c d e I L x I2 L2) : I2 36 = I 36 := by
  unfold pb_tools at h
  obtain ⟨rfl, h⟩ := h
  rcases h with ⟨a1, rfl, a2⟩ | ⟨a1, rfl, rfl⟩
  · rw [a2 36 (by decide)]; (repeat rw [px_u_ne (by omega)])
  · rfl

theorem eb_tools_37_r {a b c d e x : Int32} {I I2 : px_I} {L L2 : px_L} (h : pb_tools a b c d e I L x I2 L2) : I2 37 = I 37 := by
  unfold pb_tools at h
  obtain ⟨rfl, h⟩ := h
  rcases h with ⟨a1, rfl, a2⟩ | ⟨a1, rfl, rfl⟩
  · rw [a2 37 (by decide)]; (repeat rw [px_u_ne (by omega)])
  · rfl

theorem eb_tools_38_r {a b c d e x : Int32} {I I2 : px_I} {L L2 : px_L} (h : pb_tools a b c d e I L x I2 L2) : I2 38 = I 38 := by
  unfold pb_tools at h
  obtain ⟨rfl, h⟩ := h
  rcases h with ⟨a1, rfl, a2⟩ | ⟨a1, rfl, rfl⟩
  · rw [a2 38 (by decide)]; (repeat rw [px_u_ne (by omega)])
  · rfl

theorem eb_tools_39_r {a b c d e x : Int32} {I I2 : px_I} {L L2 : px_L} (h : pb_tools a b c d e I L x I2 L2) : I2 39 = I 39 := by
  unfold pb_tools at h
  obtain ⟨rfl, h⟩ := h
  rcases h with ⟨a1, rfl, a2⟩ | ⟨a1, rfl, rfl⟩
  · rw [a2 39 (by decide)]; (repeat rw [px_u_ne (by omega)])
  · rfl

theorem ek_tools_104_r {a b c d e x : Int32} {I I2 : px_I} {L L2 : px_L} (h : pk_tools a b c d e I L x I2 L2) : I2 104 = I 104 := by
  unfold pk_tools at h
  obtain ⟨rfl, h⟩ := h
  rcases h with ⟨a1, rfl, rfl⟩ | ⟨a1, rfl, rfl⟩
  · (repeat rw [px_u_ne (by omega)])
  · rfl

theorem ek_tools_105_r {a b c d e x : Int32} {I I2 : px_I} {L L2 : px_L} (h : pk_tools a b c d e I L x I2 L2) : I2 105 = I 105 := by
  unfold pk_tools at h
  obtain ⟨rfl, h⟩ := h
  rcases h with ⟨a1, rfl, rfl⟩ | ⟨a1, rfl, rfl⟩
  · (repeat rw [px_u_ne (by omega)])
  · rfl

theorem ek_tools_106_r {a b c d e x : Int32} {I I2 : px_I} {L L2 : px_L} (h : pk_tools a b c d e I L x I2 L2) : I2 106 = I 106 := by
  unfold pk_tools at h
  obtain ⟨rfl, h⟩ := h
  rcases h with ⟨a1, rfl, rfl⟩ | ⟨a1, rfl, rfl⟩
  · (repeat rw [px_u_ne (by omega)])
  · rfl

theorem ek_tools_107_r {a b c d e x : Int32} {I I2 : px_I} {L L2 : px_L} (h : pk_tools a b c d e I L x I2 L2) : I2 107 = I 107 := by
  unfold pk_tools at h
  obtain ⟨rfl, h⟩ := h
  rcases h with ⟨a1, rfl, rfl⟩ | ⟨a1, rfl, rfl⟩
  · (repeat rw [px_u_ne (by omega)])
  · rfl

theorem ek_tools_108_r {a b c d e x : Int32} {I I2 : px_I} {L L2 : px_L} (h : pk_tools a b c d e I L x I2 L2) : I2 108 = I 108 := by
  unfold pk_tools at h
  obtain ⟨rfl, h⟩ := h
  rcases h with ⟨a1, rfl, rfl⟩ | ⟨a1, rfl, rfl⟩
  · (repeat rw [px_u_ne (by omega)])
  · rfl

theorem ek_tools_109_r {a b c d e x : Int32} {I I2 : px_I} {L L2 : px_L} (h : pk_tools a b c d e I L x I2 L2) : I2 109 = I 109 := by
  unfold pk_tools at h
  obtain ⟨rfl, h⟩ := h
  rcases h with ⟨a1, rfl, rfl⟩ | ⟨a1, rfl, rfl⟩
  · (repeat rw [px_u_ne (by omega)])
  · rfl

theorem eb_run_34_r {w h a x : Int32} {I I2 : px_I} {L L2 : px_L} (h : pb_run w h a I L x I2 L2) : I2 34 = I 34 := by
  unfold pb_run at h
  exact funext fun j => h.1 34 j (by omega) (by omega) (by omega) (by omega) (by omega) (by omega) (by omega)

theorem eb_run_35_r {w h a x : Int32} {I I2 : px_I} {L L2 : px_L} (h : pb_run w h a I L x I2 L2) : I2 35 = I 35 := by
  unfold pb_run at h
  exact funext fun j => h.1 35 j (by omega) (by omega) (by omega) (by omega) (by omega) (by omega) (by omega)

theorem eb_run_36_r {w h a x : Int32} {I I2 : px_I} {L L2 : px_L} (h : pb_run w h a I L x I2 L2) : I2 36 = I 36 := by
  unfold pb_run at h
  exact funext fun j => h.1 36 j (by omega) (by omega) (by omega) (by omega) (by omega) (by omega) (by omega)

theorem eb_run_37_r {w h a x : Int32} {I I2 : px_I} {L L2 : px_L} (h : pb_run w h a I L x I2 L2) : I2 37 = I 37 := by
  unfold pb_run at h
  exact funext fun j => h.1 37 j (by omega) (by omega) (by omega) (by omega) (by omega) (by omega) (by omega)

theorem eb_run_38_r {w h a x : Int32} {I I2 : px_I} {L L2 : px_L} (h : pb_run w h a I L x I2 L2) : I2 38 = I 38 := by
  unfold pb_run at h
  exact funext fun j => h.1 38 j (by omega) (by omega) (by omega) (by omega) (by omega) (by omega) (by omega)

theorem eb_run_39_r {w h a x : Int32} {I I2 : px_I} {L L2 : px_L} (h : pb_run w h a I L x I2 L2) : I2 39 = I 39 := by
  unfold pb_run at h
  exact funext fun j => h.1 39 j (by omega) (by omega) (by omega) (by omega) (by omega) (by omega) (by omega)

theorem ek_run_104_r {w h a x : Int32} {I I2 : px_I} {L L2 : px_L} (h : pk_run w h a I L x I2 L2) : I2 104 = I 104 := by
  unfold pk_run at h
  exact funext fun j => h.1 104 j (by omega) (by omega) (by omega)

theorem ek_run_105_r {w h a x : Int32} {I I2 : px_I} {L L2 : px_L} (h : pk_run w h a I L x I2 L2) : I2 105 = I 105 := by
  unfold pk_run at h
  exact funext fun j => h.1 105 j (by omega) (by omega) (by omega)

theorem ek_run_106_r {w h a x : Int32} {I I2 : px_I} {L L2 : px_L} (h : pk_run w h a I L x I2 L2) : I2 106 = I 106 := by
  unfold pk_run at h
  exact funext fun j => h.1 106 j (by omega) (by omega) (by omega)

theorem ek_run_107_r {w h a x : Int32} {I I2 : px_I} {L L2 : px_L} (h : pk_run w h a I L x I2 L2) : I2 107 = I 107 := by
  unfold pk_run at h
  exact funext fun j => h.1 107 j (by omega) (by omega) (by omega)

theorem ek_run_108_r {w h a x : Int32} {I I2 : px_I} {L L2 : px_L} (h : pk_run w h a I L x I2 L2) : I2 108 = I 108 := by
  unfold pk_run at h
  exact funext fun j => h.1 108 j (by omega) (by omega) (by omega)

theorem ek_run_109_r {w h a x : Int32} {I I2 : px_I} {L L2 : px_L} (h : pk_run w h a I L x I2 L2) : I2 109 = I 109 := by
  unfold pk_run at h
  exact funext fun j => h.1 109 j (by omega) (by omega) (by omega)

theorem eb_meeting_34_r {a f b t x9 h x : Int32} {I I2 : px_I} {L L2 : px_L} (h : pb_meeting a f b t x9 h I L x I2 L2) : I2 34 = I 34 := by
  unfold pb_meeting at h
  exact funext fun j => h.1 34 j (by omega) (by omega) (by omega) (by omega) (by omega) (by omega) (by omega)

theorem eb_meeting_35_r {a f b t x9 h x : Int32} {I I2 : px_I} {L L2 : px_L} (h : pb_meeting a f b t x9 h I L x I2 L2) : I2 35 = I 35 := by
  unfold pb_meeting at h
  exact funext fun j => h.1 35 j (by omega) (by omega) (by omega) (by omega) (by omega) (by omega) (by omega)

theorem eb_meeting_36_r {a f b t x9 h x : Int32} {I I2 : px_I} {L L2 : px_L} (h : pb_meeting a f b t x9 h I L x I2 L2) : I2 36 = I 36 := by
  unfold pb_meeting at h
  exact funext fun j => h.1 36 j (by omega) (by omega) (by omega) (by omega) (by omega) (by omega) (by omega)

theorem eb_meeting_37_r {a f b t x9 h x : Int32} {I I2 : px_I} {L L2 : px_L} (h : pb_meeting a f b t x9 h I L x I2 L2) : I2 37 = I 37 := by
  unfold pb_meeting at h
  exact funext fun j => h.1 37 j (by omega) (by omega) (by omega) (by omega) (by omega) (by omega) (by omega)

theorem eb_meeting_38_r {a f b t x9 h x : Int32} {I I2 : px_I} {L L2 : px_L} (h : pb_meeting a f b t x9 h I L x I2 L2) : I2 38 = I 38 := by
  unfold pb_meeting at h
  exact funext fun j => h.1 38 j (by omega) (by omega) (by omega) (by omega) (by omega) (by omega) (by omega)

theorem eb_meeting_39_r {a f b t x9 h x : Int32} {I I2 : px_I} {L L2 : px_L} (h : pb_meeting a f b t x9 h I L x I2 L2) : I2 39 = I 39 := by
  unfold pb_meeting at h
  exact funext fun j => h.1 39 j (by omega) (by omega) (by omega) (by omega) (by omega) (by omega) (by omega)

theorem ek_meeting_104_r {a f b t x9 h x : Int32} {I I2 : px_I} {L L2 : px_L} (h : pk_meeting a f b t x9 h I L x I2 L2) : I2 104 = I 104 := by
  unfold pk_meeting at h
  exact funext fun j => h.1 104 j (by omega) (by omega) (by omega)

theorem ek_meeting_105_r {a f b t x9 h x : Int32} {I I2 : px_I} {L L2 : px_L} (h : pk_meeting a f b t x9 h I L x I2 L2) : I2 105 = I 105 := by
  unfold pk_meeting at h
  exact funext fun j => h.1 105 j (by omega) (by omega) (by omega)

theorem ek_meeting_106_r {a f b t x9 h x : Int32} {I I2 : px_I} {L L2 : px_L} (h : pk_meeting a f b t x9 h I L x I2 L2) : I2 106 = I 106 := by
  unfold pk_meeting at h
  exact funext fun j => h.1 106 j (by omega) (by omega) (by omega)

theorem ek_meeting_107_r {a f b t x9 h x : Int32} {I I2 : px_I} {L L2 : px_L} (h : pk_meeting a f b t x9 h I L x I2 L2) : I2 107 = I 107 := by
  unfold pk_meeting at h
  exact funext fun j => h.1 107 j (by omega) (by omega) (by omega)

theorem ek_meeting_108_r {a f b t x9 h x : Int32} {I I2 : px_I} {L L2 : px_L} (h : pk_meeting a f b t x9 h I L x I2 L2) : I2 108 = I 108 := by
  unfold pk_meeting at h
  exact funext fun j => h.1 108 j (by omega) (by omega) (by omega)

theorem ek_meeting_109_r {a f b t x9 h x : Int32} {I I2 : px_I} {L L2 : px_L} (h : pk_meeting a f b t x9 h I L x I2 L2) : I2 109 = I 109 := by
  unfold pk_meeting at h
  exact funext fun j => h.1 109 j (by omega) (by omega) (by omega)

theorem eb_there_34_r {a lo hi x : Int32} {I I2 : px_I} {L L2 : px_L} (h : pb_there a lo hi I L x I2 L2) : I2 34 = I 34 := by
  unfold pb_there at h
  obtain ⟨rfl, h⟩ := h
  rcases h with ⟨a1, rfl, rfl⟩ | ⟨a1, rfl, rfl⟩
  · (repeat rw [px_u_ne (by omega)])
  · rfl

theorem eb_there_35_r {a lo hi x : Int32} {I I2 : px_I} {L L2 : px_L} (h : pb_there a lo hi I L x I2 L2) : I2 35 = I 35 := by
  unfold pb_there at h
  obtain ⟨rfl, h⟩ := h
  rcases h with ⟨a1, rfl, rfl⟩ | ⟨a1, rfl, rfl⟩
  · (repeat rw [px_u_ne (by omega)])
  · rfl

theorem eb_there_36_r {a lo hi x : Int32} {I I2 : px_I} {L L2 : px_L} (h : pb_there a lo hi I L x I2 L2) : I2 36 = I 36 := by
  unfold pb_there at h
  obtain ⟨rfl, h⟩ := h
  rcases h with ⟨a1, rfl, rfl⟩ | ⟨a1, rfl, rfl⟩
  · (repeat rw [px_u_ne (by omega)])
  · rfl

theorem eb_there_37_r {a lo hi x : Int32} {I I2 : px_I} {L L2 : px_L} (h : pb_there a lo hi I L x I2 L2) : I2 37 = I 37 := by
  unfold pb_there at h
  obtain ⟨rfl, h⟩ := h
  rcases h with ⟨a1, rfl, rfl⟩ | ⟨a1, rfl, rfl⟩
  · (repeat rw [px_u_ne (by omega)])
  · rfl

theorem eb_there_38_r {a lo hi x : Int32} {I I2 : px_I} {L L2 : px_L} (h : pb_there a lo hi I L x I2 L2) : I2 38 = I 38 := by
  unfold pb_there at h
  obtain ⟨rfl, h⟩ := h
  rcases h with ⟨a1, rfl, rfl⟩ | ⟨a1, rfl, rfl⟩
  · (repeat rw [px_u_ne (by omega)])
  · rfl

theorem eb_there_39_r {a lo hi x : Int32} {I I2 : px_I} {L L2 : px_L} (h : pb_there a lo hi I L x I2 L2) : I2 39 = I 39 := by
  unfold pb_there at h
  obtain ⟨rfl, h⟩ := h
  rcases h with ⟨a1, rfl, rfl⟩ | ⟨a1, rfl, rfl⟩
  · (repeat rw [px_u_ne (by omega)])
  · rfl

theorem ek_there_104_r {a lo hi x : Int32} {I I2 : px_I} {L L2 : px_L} (h : pk_there a lo hi I L x I2 L2) : I2 104 = I 104 := by
  unfold pk_there at h
  obtain ⟨rfl, h⟩ := h
  rcases h with ⟨a1, rfl, rfl⟩ | ⟨a1, rfl, rfl⟩
  · (repeat rw [px_u_ne (by omega)])
  · rfl

theorem ek_there_105_r {a lo hi x : Int32} {I I2 : px_I} {L L2 : px_L} (h : pk_there a lo hi I L x I2 L2) : I2 105 = I 105 := by
  unfold pk_there at h
  obtain ⟨rfl, h⟩ := h
  rcases h with ⟨a1, rfl, rfl⟩ | ⟨a1, rfl, rfl⟩
  · (repeat rw [px_u_ne (by omega)])
  · rfl

theorem ek_there_106_r {a lo hi x : Int32} {I I2 : px_I} {L L2 : px_L} (h : pk_there a lo hi I L x I2 L2) : I2 106 = I 106 := by
  unfold pk_there at h
  obtain ⟨rfl, h⟩ := h
  rcases h with ⟨a1, rfl, rfl⟩ | ⟨a1, rfl, rfl⟩
  · (repeat rw [px_u_ne (by omega)])
  · rfl

theorem ek_there_107_r {a lo hi x : Int32} {I I2 : px_I} {L L2 : px_L} (h : pk_there a lo hi I L x I2 L2) : I2 107 = I 107 := by
  unfold pk_there at h
  obtain ⟨rfl, h⟩ := h
  rcases h with ⟨a1, rfl, rfl⟩ | ⟨a1, rfl, rfl⟩
  · (repeat rw [px_u_ne (by omega)])
  · rfl

theorem ek_there_108_r {a lo hi x : Int32} {I I2 : px_I} {L L2 : px_L} (h : pk_there a lo hi I L x I2 L2) : I2 108 = I 108 := by
  unfold pk_there at h
  obtain ⟨rfl, h⟩ := h
  rcases h with ⟨a1, rfl, rfl⟩ | ⟨a1, rfl, rfl⟩
  · (repeat rw [px_u_ne (by omega)])
  · rfl

theorem ek_there_109_r {a lo hi x : Int32} {I I2 : px_I} {L L2 : px_L} (h : pk_there a lo hi I L x I2 L2) : I2 109 = I 109 := by
  unfold pk_there at h
  obtain ⟨rfl, h⟩ := h
  rcases h with ⟨a1, rfl, rfl⟩ | ⟨a1, rfl, rfl⟩
  · (repeat rw [px_u_ne (by omega)])
  · rfl

theorem eb_fits_34_r {a f b t x : Int32} {I I2 : px_I} {L L2 : px_L} (h : pb_fits a f b t I L x I2 L2) : I2 34 = I 34 := by
  unfold pb_fits at h
  exact funext fun j => h.1 34 j (by omega) (by omega) (by omega) (by omega) (by omega) (by omega) (by omega)

theorem eb_fits_35_r {a f b t x : Int32} {I I2 : px_I} {L L2 : px_L} (h : pb_fits a f b t I L x I2 L2) : I2 35 = I 35 := by
  unfold pb_fits at h
  exact funext fun j => h.1 35 j (by omega) (by omega) (by omega) (by omega) (by omega) (by omega) (by omega)

theorem eb_fits_36_r {a f b t x : Int32} {I I2 : px_I} {L L2 : px_L} (h : pb_fits a f b t I L x I2 L2) : I2 36 = I 36 := by
  unfold pb_fits at h
  exact funext fun j => h.1 36 j (by omega) (by omega) (by omega) (by omega) (by omega) (by omega) (by omega)

theorem eb_fits_37_r {a f b t x : Int32} {I I2 : px_I} {L L2 : px_L} (h : pb_fits a f b t I L x I2 L2) : I2 37 = I 37 := by
  unfold pb_fits at h
  exact funext fun j => h.1 37 j (by omega) (by omega) (by omega) (by omega) (by omega) (by omega) (by omega)

theorem eb_fits_38_r {a f b t x : Int32} {I I2 : px_I} {L L2 : px_L} (h : pb_fits a f b t I L x I2 L2) : I2 38 = I 38 := by
  unfold pb_fits at h
  exact funext fun j => h.1 38 j (by omega) (by omega) (by omega) (by omega) (by omega) (by omega) (by omega)

theorem eb_fits_39_r {a f b t x : Int32} {I I2 : px_I} {L L2 : px_L} (h : pb_fits a f b t I L x I2 L2) : I2 39 = I 39 := by
  unfold pb_fits at h
  exact funext fun j => h.1 39 j (by omega) (by omega) (by omega) (by omega) (by omega) (by omega) (by omega)

theorem ek_fits_104_r {a f b t x : Int32} {I I2 : px_I} {L L2 : px_L} (h : pk_fits a f b t I L x I2 L2) : I2 104 = I 104 := by
  unfold pk_fits at h
  exact funext fun j => h.1 104 j (by omega) (by omega) (by omega)

theorem ek_fits_105_r {a f b t x : Int32} {I I2 : px_I} {L L2 : px_L} (h : pk_fits a f b t I L x I2 L2) : I2 105 = I 105 := by
  unfold pk_fits at h
  exact funext fun j => h.1 105 j (by omega) (by omega) (by omega)

theorem ek_fits_106_r {a f b t x : Int32} {I I2 : px_I} {L L2 : px_L} (h : pk_fits a f b t I L x I2 L2) : I2 106 = I 106 := by
  unfold pk_fits at h
  exact funext fun j => h.1 106 j (by omega) (by omega) (by omega)

theorem ek_fits_107_r {a f b t x : Int32} {I I2 : px_I} {L L2 : px_L} (h : pk_fits a f b t I L x I2 L2) : I2 107 = I 107 := by
  unfold pk_fits at h
  exact funext fun j => h.1 107 j (by omega) (by omega) (by omega)

theorem ek_fits_108_r {a f b t x : Int32} {I I2 : px_I} {L L2 : px_L} (h : pk_fits a f b t I L x I2 L2) : I2 108 = I 108 := by
  unfold pk_fits at h
  exact funext fun j => h.1 108 j (by omega) (by omega) (by omega)

theorem ek_fits_109_r {a f b t x : Int32} {I I2 : px_I} {L L2 : px_L} (h : pk_fits a f b t I L x I2 L2) : I2 109 = I 109 := by
  unfold pk_fits at h
  exact funext fun j => h.1 109 j (by omega) (by omega) (by omega)

theorem eb_ways_34_r {a f b t x9 x : Int32} {I I2 : px_I} {L L2 : px_L} (h : pb_ways a f b t x9 I L x I2 L2) : I2 34 = I 34 := by
  unfold pb_ways at h
  exact funext fun j => h.1 34 j (by omega) (by omega) (by omega) (by omega) (by omega) (by omega) (by omega)

theorem eb_ways_35_r {a f b t x9 x : Int32} {I I2 : px_I} {L L2 : px_L} (h : pb_ways a f b t x9 I L x I2 L2) : I2 35 = I 35 := by
  unfold pb_ways at h
  exact funext fun j => h.1 35 j (by omega) (by omega) (by omega) (by omega) (by omega) (by omega) (by omega)

theorem eb_ways_36_r {a f b t x9 x : Int32} {I I2 : px_I} {L L2 : px_L} (h : pb_ways a f b t x9 I L x I2 L2) : I2 36 = I 36 := by
  unfold pb_ways at h
  exact funext fun j => h.1 36 j (by omega) (by omega) (by omega) (by omega) (by omega) (by omega) (by omega)

theorem eb_ways_37_r {a f b t x9 x : Int32} {I I2 : px_I} {L L2 : px_L} (h : pb_ways a f b t x9 I L x I2 L2) : I2 37 = I 37 := by
  unfold pb_ways at h
  exact funext fun j => h.1 37 j (by omega) (by omega) (by omega) (by omega) (by omega) (by omega) (by omega)

theorem eb_ways_38_r {a f b t x9 x : Int32} {I I2 : px_I} {L L2 : px_L} (h : pb_ways a f b t x9 I L x I2 L2) : I2 38 = I 38 := by
  unfold pb_ways at h
  exact funext fun j => h.1 38 j (by omega) (by omega) (by omega) (by omega) (by omega) (by omega) (by omega)

theorem eb_ways_39_r {a f b t x9 x : Int32} {I I2 : px_I} {L L2 : px_L} (h : pb_ways a f b t x9 I L x I2 L2) : I2 39 = I 39 := by
  unfold pb_ways at h
  exact funext fun j => h.1 39 j (by omega) (by omega) (by omega) (by omega) (by omega) (by omega) (by omega)

theorem ek_ways_104_r {a f b t x9 x : Int32} {I I2 : px_I} {L L2 : px_L} (h : pk_ways a f b t x9 I L x I2 L2) : I2 104 = I 104 := by
  unfold pk_ways at h
  exact funext fun j => h.1 104 j (by omega) (by omega) (by omega)

theorem ek_ways_105_r {a f b t x9 x : Int32} {I I2 : px_I} {L L2 : px_L} (h : pk_ways a f b t x9 I L x I2 L2) : I2 105 = I 105 := by
  unfold pk_ways at h
  exact funext fun j => h.1 105 j (by omega) (by omega) (by omega)

theorem ek_ways_106_r {a f b t x9 x : Int32} {I I2 : px_I} {L L2 : px_L} (h : pk_ways a f b t x9 I L x I2 L2) : I2 106 = I 106 := by
  unfold pk_ways at h
  exact funext fun j => h.1 106 j (by omega) (by omega) (by omega)

theorem ek_ways_107_r {a f b t x9 x : Int32} {I I2 : px_I} {L L2 : px_L} (h : pk_ways a f b t x9 I L x I2 L2) : I2 107 = I 107 := by
  unfold pk_ways at h
  exact funext fun j => h.1 107 j (by omega) (by omega) (by omega)

theorem ek_ways_108_r {a f b t x9 x : Int32} {I I2 : px_I} {L L2 : px_L} (h : pk_ways a f b t x9 I L x I2 L2) : I2 108 = I 108 := by
  unfold pk_ways at h
  exact funext fun j => h.1 108 j (by omega) (by omega) (by omega)

theorem ek_ways_109_r {a f b t x9 x : Int32} {I I2 : px_I} {L L2 : px_L} (h : pk_ways a f b t x9 I L x I2 L2) : I2 109 = I 109 := by
  unfold pk_ways at h
  exact funext fun j => h.1 109 j (by omega) (by omega) (by omega)

theorem eb_seek_34_r {a b c d e f x : Int32} {I I2 : px_I} {L L2 : px_L} (h : pb_seek a b c d e f I L x I2 L2) : I2 34 = I 34 := by
  unfold pb_seek at h
  obtain ⟨rfl, h⟩ := h
  rcases h with ⟨a1, rfl, rfl⟩ | ⟨a1, rfl, rfl⟩
  · (repeat rw [px_u_ne (by omega)])
  · rfl

theorem eb_seek_35_r {a b c d e f x : Int32} {I I2 : px_I} {L L2 : px_L} (h : pb_seek a b c d e f I L x I2 L2) : I2 35 = I 35 := by
  unfold pb_seek at h
  obtain ⟨rfl, h⟩ := h
  rcases h with ⟨a1, rfl, rfl⟩ | ⟨a1, rfl, rfl⟩
  · (repeat rw [px_u_ne (by omega)])
  · rfl

theorem eb_seek_36_r {a b c d e f x : Int32} {I I2 : px_I} {L L2 : px_L} (h : pb_seek a b c d e f I L x I2 L2) : I2 36 = I 36 := by
  unfold pb_seek at h
  obtain ⟨rfl, h⟩ := h
  rcases h with ⟨a1, rfl, rfl⟩ | ⟨a1, rfl, rfl⟩
  · (repeat rw [px_u_ne (by omega)])
  · rfl

theorem eb_seek_37_r {a b c d e f x : Int32} {I I2 : px_I} {L L2 : px_L} (h : pb_seek a b c d e f I L x I2 L2) : I2 37 = I 37 := by
  unfold pb_seek at h
  obtain ⟨rfl, h⟩ := h
  rcases h with ⟨a1, rfl, rfl⟩ | ⟨a1, rfl, rfl⟩
  · (repeat rw [px_u_ne (by omega)])
  · rfl

theorem eb_seek_38_r {a b c d e f x : Int32} {I I2 : px_I} {L L2 : px_L} (h : pb_seek a b c d e f I L x I2 L2) : I2 38 = I 38 := by
  unfold pb_seek at h
  obtain ⟨rfl, h⟩ := h
  rcases h with ⟨a1, rfl, rfl⟩ | ⟨a1, rfl, rfl⟩
  · (repeat rw [px_u_ne (by omega)])
  · rfl

theorem eb_seek_39_r {a b c d e f x : Int32} {I I2 : px_I} {L L2 : px_L} (h : pb_seek a b c d e f I L x I2 L2) : I2 39 = I 39 := by
  unfold pb_seek at h
  obtain ⟨rfl, h⟩ := h
  rcases h with ⟨a1, rfl, rfl⟩ | ⟨a1, rfl, rfl⟩
  · (repeat rw [px_u_ne (by omega)])
  · rfl

theorem ek_seek_104_r {a b c d e f x : Int32} {I I2 : px_I} {L L2 : px_L} (h : pk_seek a b c d e f I L x I2 L2) : I2 104 = I 104 := by
  unfold pk_seek at h
  obtain ⟨rfl, h⟩ := h
  rcases h with ⟨a1, rfl, rfl⟩ | ⟨a1, rfl, rfl⟩
  · (repeat rw [px_u_ne (by omega)])
  · rfl

theorem ek_seek_105_r {a b c d e f x : Int32} {I I2 : px_I} {L L2 : px_L} (h : pk_seek a b c d e f I L x I2 L2) : I2 105 = I 105 := by
  unfold pk_seek at h
  obtain ⟨rfl, h⟩ := h
  rcases h with ⟨a1, rfl, rfl⟩ | ⟨a1, rfl, rfl⟩
  · (repeat rw [px_u_ne (by omega)])
  · rfl

theorem ek_seek_106_r {a b c d e f x : Int32} {I I2 : px_I} {L L2 : px_L} (h : pk_seek a b c d e f I L x I2 L2) : I2 106 = I 106 := by
  unfold pk_seek at h
  obtain ⟨rfl, h⟩ := h
  rcases h with ⟨a1, rfl, rfl⟩ | ⟨a1, rfl, rfl⟩
  · (repeat rw [px_u_ne (by omega)])
  · rfl

theorem ek_seek_107_r {a b c d e f x : Int32} {I I2 : px_I} {L L2 : px_L} (h : pk_seek a b c d e f I L x I2 L2) : I2 107 = I 107 := by
  unfold pk_seek at h
  obtain ⟨rfl, h⟩ := h
  rcases h with ⟨a1, rfl, rfl⟩ | ⟨a1, rfl, rfl⟩
  · (repeat rw [px_u_ne (by omega)])
  · rfl

theorem ek_seek_108_r {a b c d e f x : Int32} {I I2 : px_I} {L L2 : px_L} (h : pk_seek a b c d e f I L x I2 L2) : I2 108 = I 108 := by
  unfold pk_seek at h
  obtain ⟨rfl, h⟩ := h
  rcases h with ⟨a1, rfl, rfl⟩ | ⟨a1, rfl, rfl⟩
  · (repeat rw [px_u_ne (by omega)])
  · rfl

theorem ek_seek_109_r {a b c d e f x : Int32} {I I2 : px_I} {L L2 : px_L} (h : pk_seek a b c d e f I L x I2 L2) : I2 109 = I 109 := by
  unfold pk_seek at h
  obtain ⟨rfl, h⟩ := h
  rcases h with ⟨a1, rfl, rfl⟩ | ⟨a1, rfl, rfl⟩
  · (repeat rw [px_u_ne (by omega)])
  · rfl

theorem eb_detour_34_r {a o h x : Int32} {I I2 : px_I} {L L2 : px_L} (h : pb_detour a o h I L x I2 L2) : I2 34 = I 34 := by
  unfold pb_detour at h
  rw [h.1]

theorem eb_detour_35_r {a o h x : Int32} {I I2 : px_I} {L L2 : px_L} (h : pb_detour a o h I L x I2 L2) : I2 35 = I 35 := by
  unfold pb_detour at h
  rw [h.1]

theorem eb_detour_36_r {a o h x : Int32} {I I2 : px_I} {L L2 : px_L} (h : pb_detour a o h I L x I2 L2) : I2 36 = I 36 := by
  unfold pb_detour at h
  rw [h.1]

theorem eb_detour_37_r {a o h x : Int32} {I I2 : px_I} {L L2 : px_L} (h : pb_detour a o h I L x I2 L2) : I2 37 = I 37 := by
  unfold pb_detour at h
  rw [h.1]

theorem eb_detour_38_r {a o h x : Int32} {I I2 : px_I} {L L2 : px_L} (h : pb_detour a o h I L x I2 L2) : I2 38 = I 38 := by
  unfold pb_detour at h
  rw [h.1]

theorem eb_detour_39_r {a o h x : Int32} {I I2 : px_I} {L L2 : px_L} (h : pb_detour a o h I L x I2 L2) : I2 39 = I 39 := by
  unfold pb_detour at h
  rw [h.1]

theorem ek_detour_104_r {a o lo x : Int32} {I I2 : px_I} {L L2 : px_L} (h : pk_detour a o lo I L x I2 L2) : I2 104 = I 104 := by
  unfold pk_detour at h
  rw [h.1]

theorem ek_detour_105_r {a o lo x : Int32} {I I2 : px_I} {L L2 : px_L} (h : pk_detour a o lo I L x I2 L2) : I2 105 = I 105 := by
  unfold pk_detour at h
  rw [h.1]

theorem ek_detour_106_r {a o lo x : Int32} {I I2 : px_I} {L L2 : px_L} (h : pk_detour a o lo I L x I2 L2) : I2 106 = I 106 := by
  unfold pk_detour at h
  rw [h.1]

theorem ek_detour_107_r {a o lo x : Int32} {I I2 : px_I} {L L2 : px_L} (h : pk_detour a o lo I L x I2 L2) : I2 107 = I 107 := by
  unfold pk_detour at h
  rw [h.1]

theorem ek_detour_108_r {a o lo x : Int32} {I I2 : px_I} {L L2 : px_L} (h : pk_detour a o lo I L x I2 L2) : I2 108 = I 108 := by
  unfold pk_detour at h
  rw [h.1]

theorem ek_detour_109_r {a o lo x : Int32} {I I2 : px_I} {L L2 : px_L} (h : pk_detour a o lo I L x I2 L2) : I2 109 = I 109 := by
  unfold pk_detour at h
  rw [h.1]

theorem eb_table_34_r {c v x : Int32} {I I2 : px_I} {L L2 : px_L} (h : pb_table c v I L x I2 L2) : I2 34 = I 34 := by
  unfold pb_table at h
  obtain ⟨rfl, h⟩ := h
  rcases h with ⟨a1, rfl, rfl⟩ | ⟨a1, rfl, rfl⟩
  · (repeat rw [px_u_ne (by omega)])
  · rfl

theorem eb_table_35_r {c v x : Int32} {I I2 : px_I} {L L2 : px_L} (h : pb_table c v I L x I2 L2) : I2 35 = I 35 := by
  unfold pb_table at h
  obtain ⟨rfl, h⟩ := h
  rcases h with ⟨a1, rfl, rfl⟩ | ⟨a1, rfl, rfl⟩
  · (repeat rw [px_u_ne (by omega)])
  · rfl

theorem eb_table_36_r {c v x : Int32} {I I2 : px_I} {L L2 : px_L} (h : pb_table c v I L x I2 L2) : I2 36 = I 36 := by
  unfold pb_table at h
  obtain ⟨rfl, h⟩ := h
  rcases h with ⟨a1, rfl, rfl⟩ | ⟨a1, rfl, rfl⟩
  · (repeat rw [px_u_ne (by omega)])
  · rfl

theorem eb_table_37_r {c v x : Int32} {I I2 : px_I} {L L2 : px_L} (h : pb_table c v I L x I2 L2) : I2 37 = I 37 := by
  unfold pb_table at h
  obtain ⟨rfl, h⟩ := h
  rcases h with ⟨a1, rfl, rfl⟩ | ⟨a1, rfl, rfl⟩
  · (repeat rw [px_u_ne (by omega)])
  · rfl

theorem eb_table_38_r {c v x : Int32} {I I2 : px_I} {L L2 : px_L} (h : pb_table c v I L x I2 L2) : I2 38 = I 38 := by
  unfold pb_table at h
  obtain ⟨rfl, h⟩ := h
  rcases h with ⟨a1, rfl, rfl⟩ | ⟨a1, rfl, rfl⟩
  · (repeat rw [px_u_ne (by omega)])
  · rfl

theorem eb_table_39_r {c v x : Int32} {I I2 : px_I} {L L2 : px_L} (h : pb_table c v I L x I2 L2) : I2 39 = I 39 := by
  unfold pb_table at h
  obtain ⟨rfl, h⟩ := h
  rcases h with ⟨a1, rfl, rfl⟩ | ⟨a1, rfl, rfl⟩
  · (repeat rw [px_u_ne (by omega)])
  · rfl

theorem ek_table_104_r {c v x : Int32} {I I2 : px_I} {L L2 : px_L} (h : pk_table c v I L x I2 L2) : I2 104 = I 104 := by
  unfold pk_table at h
  obtain ⟨rfl, h⟩ := h
  rcases h with ⟨a1, rfl, rfl⟩ | ⟨a1, rfl, rfl⟩
  · (repeat rw [px_u_ne (by omega)])
  · rfl

theorem ek_table_105_r {c v x : Int32} {I I2 : px_I} {L L2 : px_L} (h : pk_table c v I L x I2 L2) : I2 105 = I 105 := by
  unfold pk_table at h
  obtain ⟨rfl, h⟩ := h
  rcases h with ⟨a1, rfl, rfl⟩ | ⟨a1, rfl, rfl⟩
  · (repeat rw [px_u_ne (by omega)])
  · rfl

theorem ek_table_106_r {c v x : Int32} {I I2 : px_I} {L L2 : px_L} (h : pk_table c v I L x I2 L2) : I2 106 = I 106 := by
  unfold pk_table at h
  obtain ⟨rfl, h⟩ := h
  rcases h with ⟨a1, rfl, rfl⟩ | ⟨a1, rfl, rfl⟩
  · (repeat rw [px_u_ne (by omega)])
  · rfl

theorem ek_table_107_r {c v x : Int32} {I I2 : px_I} {L L2 : px_L} (h : pk_table c v I L x I2 L2) : I2 107 = I 107 := by
  unfold pk_table at h
  obtain ⟨rfl, h⟩ := h
  rcases h with ⟨a1, rfl, rfl⟩ | ⟨a1, rfl, rfl⟩
  · (repeat rw [px_u_ne (by omega)])
  · rfl

theorem ek_table_108_r {c v x : Int32} {I I2 : px_I} {L L2 : px_L} (h : pk_table c v I L x I2 L2) : I2 108 = I 108 := by
  unfold pk_table at h
  obtain ⟨rfl, h⟩ := h
  rcases h with ⟨a1, rfl, rfl⟩ | ⟨a1, rfl, rfl⟩
  · (repeat rw [px_u_ne (by omega)])
  · rfl

theorem ek_table_109_r {c v x : Int32} {I I2 : px_I} {L L2 : px_L} (h : pk_table c v I L x I2 L2) : I2 109 = I 109 := by
  unfold pk_table at h
  obtain ⟨rfl, h⟩ := h
  rcases h with ⟨a1, rfl, rfl⟩ | ⟨a1, rfl, rfl⟩
  · (repeat rw [px_u_ne (by omega)])
  · rfl

theorem eb_repair_34_r {g p y x : Int32} {I I2 : px_I} {L L2 : px_L} (h : pb_repair g p y I L x I2 L2) : I2 34 = I 34 := by
  unfold pb_repair at h
  obtain ⟨rfl, h⟩ := h
  rcases h with ⟨G, g1, rfl, rfl⟩ | ⟨a1, rfl, rfl⟩
  · have g2 := g1.1
    have gG : G = 41 ∨ G = 55 := by unfold bG at g2; omega
    unfold cRep; (repeat rw [px_u_ne (by omega)])
  · rfl

theorem eb_repair_35_r {g p y x : Int32} {I I2 : px_I} {L L2 : px_L} (h : pb_repair g p y I L x I2 L2) : I2 35 = I 35 := by
  unfold pb_repair at h
  obtain ⟨rfl, h⟩ := h
  rcases h with ⟨G, g1, rfl, rfl⟩ | ⟨a1, rfl, rfl⟩
  · have g2 := g1.1
    have gG : G = 41 ∨ G = 55 := by unfold bG at g2; omega
    unfold cRep; (repeat rw [px_u_ne (by omega)])
  · rfl

theorem eb_repair_36_r {g p y x : Int32} {I I2 : px_I} {L L2 : px_L} (h : pb_repair g p y I L x I2 L2) : I2 36 = I 36 := by
  unfold pb_repair at h
  obtain ⟨rfl, h⟩ := h
  rcases h with ⟨G, g1, rfl, rfl⟩ | ⟨a1, rfl, rfl⟩
  · have g2 := g1.1
    have gG : G = 41 ∨ G = 55 := by unfold bG at g2; omega
    unfold cRep; (repeat rw [px_u_ne (by omega)])
  · rfl

theorem eb_repair_37_r {g p y x : Int32} {I I2 : px_I} {L L2 : px_L} (h : pb_repair g p y I L x I2 L2) : I2 37 = I 37 := by
  unfold pb_repair at h
  obtain ⟨rfl, h⟩ := h
  rcases h with ⟨G, g1, rfl, rfl⟩ | ⟨a1, rfl, rfl⟩
  · have g2 := g1.1
    have gG : G = 41 ∨ G = 55 := by unfold bG at g2; omega
    unfold cRep; (repeat rw [px_u_ne (by omega)])
  · rfl

theorem eb_repair_38_r {g p y x : Int32} {I I2 : px_I} {L L2 : px_L} (h : pb_repair g p y I L x I2 L2) : I2 38 = I 38 := by
  unfold pb_repair at h
  obtain ⟨rfl, h⟩ := h
  rcases h with ⟨G, g1, rfl, rfl⟩ | ⟨a1, rfl, rfl⟩
  · have g2 := g1.1
    have gG : G = 41 ∨ G = 55 := by unfold bG at g2; omega
    unfold cRep; (repeat rw [px_u_ne (by omega)])
  · rfl

theorem eb_repair_39_r {g p y x : Int32} {I I2 : px_I} {L L2 : px_L} (h : pb_repair g p y I L x I2 L2) : I2 39 = I 39 := by
  unfold pb_repair at h
  obtain ⟨rfl, h⟩ := h
  rcases h with ⟨G, g1, rfl, rfl⟩ | ⟨a1, rfl, rfl⟩
  · have g2 := g1.1
    have gG : G = 41 ∨ G = 55 := by unfold bG at g2; omega
    unfold cRep; (repeat rw [px_u_ne (by omega)])
  · rfl

theorem ek_repair_104_r {g p y x : Int32} {I I2 : px_I} {L L2 : px_L} (h : pk_repair g p y I L x I2 L2) : I2 104 = I 104 := by
  unfold pk_repair at h
  obtain ⟨rfl, h⟩ := h
  rcases h with ⟨a1, rfl, rfl⟩ | ⟨a1, rfl, rfl⟩
  · (repeat rw [px_u_ne (by omega)])
  · rfl

theorem ek_repair_105_r {g p y x : Int32} {I I2 : px_I} {L L2 : px_L} (h : pk_repair g p y I L x I2 L2) : I2 105 = I 105 := by
  unfold pk_repair at h
  obtain ⟨rfl, h⟩ := h
  rcases h with ⟨a1, rfl, rfl⟩ | ⟨a1, rfl, rfl⟩
  · (repeat rw [px_u_ne (by omega)])
  · rfl

theorem ek_repair_106_r {g p y x : Int32} {I I2 : px_I} {L L2 : px_L} (h : pk_repair g p y I L x I2 L2) : I2 106 = I 106 := by
  unfold pk_repair at h
  obtain ⟨rfl, h⟩ := h
  rcases h with ⟨a1, rfl, rfl⟩ | ⟨a1, rfl, rfl⟩
  · (repeat rw [px_u_ne (by omega)])
  · rfl

theorem ek_repair_107_r {g p y x : Int32} {I I2 : px_I} {L L2 : px_L} (h : pk_repair g p y I L x I2 L2) : I2 107 = I 107 := by
  unfold pk_repair at h
  obtain ⟨rfl, h⟩ := h
  rcases h with ⟨a1, rfl, rfl⟩ | ⟨a1, rfl, rfl⟩
  · (repeat rw [px_u_ne (by omega)])
  · rfl

theorem ek_repair_108_r {g p y x : Int32} {I I2 : px_I} {L L2 : px_L} (h : pk_repair g p y I L x I2 L2) : I2 108 = I 108 := by
  unfold pk_repair at h
  obtain ⟨rfl, h⟩ := h
  rcases h with ⟨a1, rfl, rfl⟩ | ⟨a1, rfl, rfl⟩
  · (repeat rw [px_u_ne (by omega)])
  · rfl

theorem ek_repair_109_r {g p y x : Int32} {I I2 : px_I} {L L2 : px_L} (h : pk_repair g p y I L x I2 L2) : I2 109 = I 109 := by
  unfold pk_repair at h
  obtain ⟨rfl, h⟩ := h
  rcases h with ⟨a1, rfl, rfl⟩ | ⟨a1, rfl, rfl⟩
  · (repeat rw [px_u_ne (by omega)])
  · rfl

theorem eb_lime_34_r {v x : Int32} {I I2 : px_I} {L L2 : px_L} (h : pb_lime v I L x I2 L2) : I2 34 = I 34 := by
  unfold pb_lime at h
  obtain ⟨rfl, h⟩ := h
  rcases h with ⟨a1, rfl, rfl⟩ | ⟨a1, rfl, rfl⟩
  · (repeat rw [px_u_ne (by omega)])
  · rfl

theorem eb_lime_35_r {v x : Int32} {I I2 : px_I} {L L2 : px_L} (h : pb_lime v I L x I2 L2) : I2 35 = I 35 := by
  unfold pb_lime at h
  obtain ⟨rfl, h⟩ := h
  rcases h with ⟨a1, rfl, rfl⟩ | ⟨a1, rfl, rfl⟩
  · (repeat rw [px_u_ne (by omega)])
  · rfl

theorem eb_lime_36_r {v x : Int32} {I I2 : px_I} {L L2 : px_L} (h : pb_lime v I L x I2 L2) : I2 36 = I 36 := by
  unfold pb_lime at h
  obtain ⟨rfl, h⟩ := h
  rcases h with ⟨a1, rfl, rfl⟩ | ⟨a1, rfl, rfl⟩
  · (repeat rw [px_u_ne (by omega)])
  · rfl

theorem eb_lime_37_r {v x : Int32} {I I2 : px_I} {L L2 : px_L} (h : pb_lime v I L x I2 L2) : I2 37 = I 37 := by
  unfold pb_lime at h
  obtain ⟨rfl, h⟩ := h
  rcases h with ⟨a1, rfl, rfl⟩ | ⟨a1, rfl, rfl⟩
  · (repeat rw [px_u_ne (by omega)])
  · rfl

theorem eb_lime_38_r {v x : Int32} {I I2 : px_I} {L L2 : px_L} (h : pb_lime v I L x I2 L2) : I2 38 = I 38 := by
  unfold pb_lime at h
  obtain ⟨rfl, h⟩ := h
  rcases h with ⟨a1, rfl, rfl⟩ | ⟨a1, rfl, rfl⟩
  · (repeat rw [px_u_ne (by omega)])
  · rfl

theorem eb_lime_39_r {v x : Int32} {I I2 : px_I} {L L2 : px_L} (h : pb_lime v I L x I2 L2) : I2 39 = I 39 := by
  unfold pb_lime at h
  obtain ⟨rfl, h⟩ := h
  rcases h with ⟨a1, rfl, rfl⟩ | ⟨a1, rfl, rfl⟩
  · (repeat rw [px_u_ne (by omega)])
  · rfl

theorem ek_lime_104_r {v x : Int32} {I I2 : px_I} {L L2 : px_L} (h : pk_lime v I L x I2 L2) : I2 104 = I 104 := by
  unfold pk_lime at h
  obtain ⟨rfl, h⟩ := h
  rcases h with ⟨a1, a2, rfl, rfl⟩ | ⟨a1, rfl, rfl⟩
  · (repeat rw [px_u_ne (by omega)])
  · rfl

theorem ek_lime_105_r {v x : Int32} {I I2 : px_I} {L L2 : px_L} (h : pk_lime v I L x I2 L2) : I2 105 = I 105 := by
  unfold pk_lime at h
  obtain ⟨rfl, h⟩ := h
  rcases h with ⟨a1, a2, rfl, rfl⟩ | ⟨a1, rfl, rfl⟩
  · (repeat rw [px_u_ne (by omega)])
  · rfl

theorem ek_lime_106_r {v x : Int32} {I I2 : px_I} {L L2 : px_L} (h : pk_lime v I L x I2 L2) : I2 106 = I 106 := by
  unfold pk_lime at h
  obtain ⟨rfl, h⟩ := h
  rcases h with ⟨a1, a2, rfl, rfl⟩ | ⟨a1, rfl, rfl⟩
  · (repeat rw [px_u_ne (by omega)])
  · rfl

theorem ek_lime_107_r {v x : Int32} {I I2 : px_I} {L L2 : px_L} (h : pk_lime v I L x I2 L2) : I2 107 = I 107 := by
  unfold pk_lime at h
  obtain ⟨rfl, h⟩ := h
  rcases h with ⟨a1, a2, rfl, rfl⟩ | ⟨a1, rfl, rfl⟩
  · (repeat rw [px_u_ne (by omega)])
  · rfl

theorem ek_lime_108_r {v x : Int32} {I I2 : px_I} {L L2 : px_L} (h : pk_lime v I L x I2 L2) : I2 108 = I 108 := by
  unfold pk_lime at h
  obtain ⟨rfl, h⟩ := h
  rcases h with ⟨a1, a2, rfl, rfl⟩ | ⟨a1, rfl, rfl⟩
  · (repeat rw [px_u_ne (by omega)])
  · rfl

theorem ek_lime_109_r {v x : Int32} {I I2 : px_I} {L L2 : px_L} (h : pk_lime v I L x I2 L2) : I2 109 = I 109 := by
  unfold pk_lime at h
  obtain ⟨rfl, h⟩ := h
  rcases h with ⟨a1, a2, rfl, rfl⟩ | ⟨a1, rfl, rfl⟩
  · (repeat rw [px_u_ne (by omega)])
  · rfl

theorem eb_flow_34_r {g y k h x : Int32} {I I2 : px_I} {L L2 : px_L} (h : pb_flow g y k h I L x I2 L2) : I2 34 = I 34 := by
  unfold pb_flow at h
  exact funext fun j => h.1 34 j (by omega)

theorem eb_flow_35_r {g y k h x : Int32} {I I2 : px_I} {L L2 : px_L} (h : pb_flow g y k h I L x I2 L2) : I2 35 = I 35 := by
  unfold pb_flow at h
  exact funext fun j => h.1 35 j (by omega)

theorem eb_flow_36_r {g y k h x : Int32} {I I2 : px_I} {L L2 : px_L} (h : pb_flow g y k h I L x I2 L2) : I2 36 = I 36 := by
  unfold pb_flow at h
  exact funext fun j => h.1 36 j (by omega)

theorem eb_flow_37_r {g y k h x : Int32} {I I2 : px_I} {L L2 : px_L} (h : pb_flow g y k h I L x I2 L2) : I2 37 = I 37 := by
  unfold pb_flow at h
  exact funext fun j => h.1 37 j (by omega)

theorem eb_flow_38_r {g y k h x : Int32} {I I2 : px_I} {L L2 : px_L} (h : pb_flow g y k h I L x I2 L2) : I2 38 = I 38 := by
  unfold pb_flow at h
  exact funext fun j => h.1 38 j (by omega)

theorem eb_flow_39_r {g y k h x : Int32} {I I2 : px_I} {L L2 : px_L} (h : pb_flow g y k h I L x I2 L2) : I2 39 = I 39 := by
  unfold pb_flow at h
  exact funext fun j => h.1 39 j (by omega)

theorem ek_flow_104_r {g y k h x : Int32} {I I2 : px_I} {L L2 : px_L} (h : pk_flow g y k h I L x I2 L2) : I2 104 = I 104 := by
  unfold pk_flow at h
  exact funext fun j => h.1 104 j (by omega)

theorem ek_flow_105_r {g y k h x : Int32} {I I2 : px_I} {L L2 : px_L} (h : pk_flow g y k h I L x I2 L2) : I2 105 = I 105 := by
  unfold pk_flow at h
  exact funext fun j => h.1 105 j (by omega)

theorem ek_flow_106_r {g y k h x : Int32} {I I2 : px_I} {L L2 : px_L} (h : pk_flow g y k h I L x I2 L2) : I2 106 = I 106 := by
  unfold pk_flow at h
  exact funext fun j => h.1 106 j (by omega)

theorem ek_flow_107_r {g y k h x : Int32} {I I2 : px_I} {L L2 : px_L} (h : pk_flow g y k h I L x I2 L2) : I2 107 = I 107 := by
  unfold pk_flow at h
  exact funext fun j => h.1 107 j (by omega)

theorem ek_flow_108_r {g y k h x : Int32} {I I2 : px_I} {L L2 : px_L} (h : pk_flow g y k h I L x I2 L2) : I2 108 = I 108 := by
  unfold pk_flow at h
  exact funext fun j => h.1 108 j (by omega)

theorem ek_flow_109_r {g y k h x : Int32} {I I2 : px_I} {L L2 : px_L} (h : pk_flow g y k h I L x I2 L2) : I2 109 = I 109 := by
  unfold pk_flow at h
  exact funext fun j => h.1 109 j (by omega)

theorem eb_narrow_34_r {g y k x : Int32} {I I2 : px_I} {L L2 : px_L} (h : pb_narrow g y k I L x I2 L2) : I2 34 = I 34 := by
  unfold pb_narrow at h
  exact funext fun j => h.1 34 j (by omega)

theorem eb_narrow_35_r {g y k x : Int32} {I I2 : px_I} {L L2 : px_L} (h : pb_narrow g y k I L x I2 L2) : I2 35 = I 35 := by
  unfold pb_narrow at h
  exact funext fun j => h.1 35 j (by omega)

theorem eb_narrow_36_r {g y k x : Int32} {I I2 : px_I} {L L2 : px_L} (h : pb_narrow g y k I L x I2 L2) : I2 36 = I 36 := by
  unfold pb_narrow at h
  exact funext fun j => h.1 36 j (by omega)

theorem eb_narrow_37_r {g y k x : Int32} {I I2 : px_I} {L L2 : px_L} (h : pb_narrow g y k I L x I2 L2) : I2 37 = I 37 := by
  unfold pb_narrow at h
  exact funext fun j => h.1 37 j (by omega)

theorem eb_narrow_38_r {g y k x : Int32} {I I2 : px_I} {L L2 : px_L} (h : pb_narrow g y k I L x I2 L2) : I2 38 = I 38 := by
  unfold pb_narrow at h
  exact funext fun j => h.1 38 j (by omega)

theorem eb_narrow_39_r {g y k x : Int32} {I I2 : px_I} {L L2 : px_L} (h : pb_narrow g y k I L x I2 L2) : I2 39 = I 39 := by
  unfold pb_narrow at h
  exact funext fun j => h.1 39 j (by omega)

theorem ek_narrow_104_r {g y k x : Int32} {I I2 : px_I} {L L2 : px_L} (h : pk_narrow g y k I L x I2 L2) : I2 104 = I 104 := by
  unfold pk_narrow at h
  exact funext fun j => h.1 104 j (by omega)

theorem ek_narrow_105_r {g y k x : Int32} {I I2 : px_I} {L L2 : px_L} (h : pk_narrow g y k I L x I2 L2) : I2 105 = I 105 := by
  unfold pk_narrow at h
  exact funext fun j => h.1 105 j (by omega)

theorem ek_narrow_106_r {g y k x : Int32} {I I2 : px_I} {L L2 : px_L} (h : pk_narrow g y k I L x I2 L2) : I2 106 = I 106 := by
  unfold pk_narrow at h
  exact funext fun j => h.1 106 j (by omega)

theorem ek_narrow_107_r {g y k x : Int32} {I I2 : px_I} {L L2 : px_L} (h : pk_narrow g y k I L x I2 L2) : I2 107 = I 107 := by
  unfold pk_narrow at h
  exact funext fun j => h.1 107 j (by omega)

theorem ek_narrow_108_r {g y k x : Int32} {I I2 : px_I} {L L2 : px_L} (h : pk_narrow g y k I L x I2 L2) : I2 108 = I 108 := by
  unfold pk_narrow at h
  exact funext fun j => h.1 108 j (by omega)

theorem ek_narrow_109_r {g y k x : Int32} {I I2 : px_I} {L L2 : px_L} (h : pk_narrow g y k I L x I2 L2) : I2 109 = I 109 := by
  unfold pk_narrow at h
  exact funext fun j => h.1 109 j (by omega)

theorem eb_about_34_r {w x : Int32} {I I2 : px_I} {L L2 : px_L} (h : pb_about w I L x I2 L2) : I2 34 = I 34 := by
  unfold pb_about at h
  rw [h.1]

theorem eb_about_35_r {w x : Int32} {I I2 : px_I} {L L2 : px_L} (h : pb_about w I L x I2 L2) : I2 35 = I 35 := by
  unfold pb_about at h
  rw [h.1]

theorem eb_about_36_r {w x : Int32} {I I2 : px_I} {L L2 : px_L} (h : pb_about w I L x I2 L2) : I2 36 = I 36 := by
  unfold pb_about at h
  rw [h.1]

theorem eb_about_37_r {w x : Int32} {I I2 : px_I} {L L2 : px_L} (h : pb_about w I L x I2 L2) : I2 37 = I 37 := by
  unfold pb_about at h
  rw [h.1]

theorem eb_about_38_r {w x : Int32} {I I2 : px_I} {L L2 : px_L} (h : pb_about w I L x I2 L2) : I2 38 = I 38 := by
  unfold pb_about at h
  rw [h.1]

theorem eb_about_39_r {w x : Int32} {I I2 : px_I} {L L2 : px_L} (h : pb_about w I L x I2 L2) : I2 39 = I 39 := by
  unfold pb_about at h
  rw [h.1]

theorem ek_about_104_r {w x : Int32} {I I2 : px_I} {L L2 : px_L} (h : pk_about w I L x I2 L2) : I2 104 = I 104 := by
  unfold pk_about at h
  rw [h.1]

theorem ek_about_105_r {w x : Int32} {I I2 : px_I} {L L2 : px_L} (h : pk_about w I L x I2 L2) : I2 105 = I 105 := by
  unfold pk_about at h
  rw [h.1]

theorem ek_about_106_r {w x : Int32} {I I2 : px_I} {L L2 : px_L} (h : pk_about w I L x I2 L2) : I2 106 = I 106 := by
  unfold pk_about at h
  rw [h.1]

theorem ek_about_107_r {w x : Int32} {I I2 : px_I} {L L2 : px_L} (h : pk_about w I L x I2 L2) : I2 107 = I 107 := by
  unfold pk_about at h
  rw [h.1]

theorem ek_about_108_r {w x : Int32} {I I2 : px_I} {L L2 : px_L} (h : pk_about w I L x I2 L2) : I2 108 = I 108 := by
  unfold pk_about at h
  rw [h.1]

theorem ek_about_109_r {w x : Int32} {I I2 : px_I} {L L2 : px_L} (h : pk_about w I L x I2 L2) : I2 109 = I 109 := by
  unfold pk_about at h
  rw [h.1]

theorem eb_days_70_5 {x9 x : Int32} {I I2 : px_I} {L L2 : px_L} (h : pb_days x9 I L x I2 L2) : I2 70 5 = I 70 5 := by
  unfold pb_days at h
  obtain ⟨rfl, h⟩ := h
  rcases h with ⟨a1, a2, rfl, rfl⟩ | ⟨a1, rfl, rfl⟩
  · (repeat rw [px_u_out (by omega)])
  · rfl

theorem ek_days_103_25 {x9 x : Int32} {I I2 : px_I} {L L2 : px_L} (h : pk_days x9 I L x I2 L2) : I2 103 25 = I 103 25 := by
  unfold pk_days at h
  obtain ⟨rfl, h⟩ := h
  rcases h with ⟨a1, a2, a3, rfl, rfl⟩ | ⟨a1, rfl, rfl⟩
  · (repeat rw [px_u_out (by omega)])
  · rfl

theorem eb_station_70_5 { x : Int32} {I I2 : px_I} {L L2 : px_L} (h : pb_station  I L x I2 L2) : I2 70 5 = I 70 5 := by
  unfold pb_station at h
  obtain ⟨rfl, h⟩ := h
  rcases h with ⟨a1, rfl, rfl⟩ | ⟨a1, rfl, rfl⟩
  · (repeat rw [px_u_out (by omega)])
  · rfl

theorem ek_station_103_25 { x : Int32} {I I2 : px_I} {L L2 : px_L} (h : pk_station  I L x I2 L2) : I2 103 25 = I 103 25 := by
  unfold pk_station at h
  obtain ⟨rfl, h⟩ := h
  rcases h with ⟨a1, rfl, rfl⟩ | ⟨a1, rfl, rfl⟩
  · (repeat rw [px_u_out (by omega)])
  · rfl

theorem eb_sight_70_5 {a f t lo hi x : Int32} {I I2 : px_I} {L L2 : px_L} (h : pb_sight a f t lo hi I L x I2 L2) : I2 70 5 = I 70 5 := by
  unfold pb_sight at h
  obtain ⟨rfl, h⟩ := h
  rcases h with ⟨a1, rfl, rfl⟩ | ⟨a1, rfl, rfl⟩
  · (repeat rw [px_u_out (by omega)])
  · rfl

theorem ek_sight_103_25 {a f t lo hi x : Int32} {I I2 : px_I} {L L2 : px_L} (h : pk_sight a f t lo hi I L x I2 L2) : I2 103 25 = I 103 25 := by
  unfold pk_sight at h
  obtain ⟨rfl, h⟩ := h
  rcases h with ⟨a1, rfl, rfl⟩ | ⟨a1, rfl, rfl⟩
  · (repeat rw [px_u_out (by omega)])
  · rfl

theorem eb_closed_70_5 {a k x : Int32} {I I2 : px_I} {L L2 : px_L} (h : pb_closed a k I L x I2 L2) : I2 70 5 = I 70 5 := by
  unfold pb_closed at h
  obtain ⟨rfl, h⟩ := h
  rfl

theorem ek_closed_103_25 {a k x : Int32} {I I2 : px_I} {L L2 : px_L} (h : pk_closed a k I L x I2 L2) : I2 103 25 = I 103 25 := by
  unfold pk_closed at h
  exact h.1 103 25 (by omega)

theorem eb_span_70_5 {a t k h x : Int32} {I I2 : px_I} {L L2 : px_L} (h : pb_span a t k h I L x I2 L2) : I2 70 5 = I 70 5 := by
  unfold pb_span at h
  obtain ⟨rfl, h⟩ := h
  rfl

theorem ek_span_103_25 {a t k h x : Int32} {I I2 : px_I} {L L2 : px_L} (h : pk_span a t k h I L x I2 L2) : I2 103 25 = I 103 25 := by
  unfold pk_span at h
  exact h.1 103 25 (by omega)

theorem eb_gap_70_5 {a f t k h x : Int32} {I I2 : px_I} {L L2 : px_L} (h : pb_gap a f t k h I L x I2 L2) : I2 70 5 = I 70 5 := by
  unfold pb_gap at h
  obtain ⟨rfl, h⟩ := h
  rfl

theorem ek_gap_103_25 {a f t k h x : Int32} {I I2 : px_I} {L L2 : px_L} (h : pk_gap a f t k h I L x I2 L2) : I2 103 25 = I 103 25 := by
  unfold pk_gap at h
  exact h.1 103 25 (by omega)

theorem eb_blamed_70_5 {a k i x : Int32} {I I2 : px_I} {L L2 : px_L} (h : pb_blamed a k i I L x I2 L2) : I2 70 5 = I 70 5 := by
  unfold pb_blamed at h
  obtain ⟨rfl, h⟩ := h
  rfl

theorem ek_blamed_103_25 {a k i x : Int32} {I I2 : px_I} {L L2 : px_L} (h : pk_blamed a k i I L x I2 L2) : I2 103 25 = I 103 25 := by
  unfold pk_blamed at h
  exact h.1 103 25 (by omega)

theorem eb_reach_70_5 {g lo hi sl fa w st x : Int32} {I I2 : px_I} {L L2 : px_L} (h : pb_reach g lo hi sl fa w st I L x I2 L2) : I2 70 5 = I 70 5 := by
  unfold pb_reach at h
  obtain ⟨rfl, h⟩ := h
  rcases h with ⟨G, ⟨g1, g2, g3⟩, rfl, rfl⟩ | ⟨a1, rfl, rfl⟩
  · have gG : G = 41 ∨ G = 55 := by unfold bG at g1; omega
    rw [cReach_o (by omega)]
  · rfl

theorem ek_reach_103_25 {g lo hi sl fa w st x : Int32} {I I2 : px_I} {L L2 : px_L} (h : pk_reach g lo hi sl fa w st I L x I2 L2) : I2 103 25 = I 103 25 := by
  unfold pk_reach at h
  obtain ⟨rfl, h⟩ := h
  rcases h with ⟨a1, rfl, rfl⟩ | ⟨a1, rfl, rfl⟩
  · unfold mReach; (repeat rw [px_u_out (by omega)])
  · rfl

theorem eb_mouth_70_5 {g st x : Int32} {I I2 : px_I} {L L2 : px_L} (h : pb_mouth g st I L x I2 L2) : I2 70 5 = I 70 5 := by
  unfold pb_mouth at h
  obtain ⟨rfl, h⟩ := h
  rcases h with ⟨G, g1, rfl⟩ | rfl
  · have gG : G = 41 ∨ G = 55 := by unfold bG at g1; omega
    (repeat rw [px_u_out (by omega)])
  · rfl

theorem ek_mouth_103_25 {g st x : Int32} {I I2 : px_I} {L L2 : px_L} (h : pk_mouth g st I L x I2 L2) : I2 103 25 = I 103 25 := by
  unfold pk_mouth at h
  obtain ⟨rfl, h⟩ := h
  rcases h with ⟨a1, a2, rfl, rfl⟩ | ⟨a1, rfl, rfl⟩
  · (repeat rw [px_u_out (by omega)])
  · rfl

theorem eb_mark_70_5 {g p f t x : Int32} {I I2 : px_I} {L L2 : px_L} (h : pb_mark g p f t I L x I2 L2) : I2 70 5 = I 70 5 := by
  unfold pb_mark at h
  obtain ⟨rfl, h⟩ := h
  rcases h with ⟨G, g1, rfl, rfl⟩ | ⟨a1, rfl, rfl⟩
  · have g2 := g1.1
    have gG : G = 41 ∨ G = 55 := by unfold bG at g2; omega
    unfold cMark; (repeat rw [px_u_out (by omega)])
  · rfl

theorem ek_mark_103_25 {g p f t x : Int32} {I I2 : px_I} {L L2 : px_L} (h : pk_mark g p f t I L x I2 L2) : I2 103 25 = I 103 25 := by
  unfold pk_mark at h
  obtain ⟨rfl, h⟩ := h
  rcases h with ⟨a1, rfl, rfl⟩ | ⟨a1, rfl, rfl⟩
  · unfold mMark; (repeat rw [px_u_out (by omega)])
  · rfl

theorem eb_when_70_5 {g p h x : Int32} {I I2 : px_I} {L L2 : px_L} (h : pb_when g p h I L x I2 L2) : I2 70 5 = I 70 5 := by
  unfold pb_when at h
  obtain ⟨rfl, h⟩ := h
  rw [h 70 (by decide) (by decide) (by decide) (by decide)]

theorem ek_when_103_25 {g p h x : Int32} {I I2 : px_I} {L L2 : px_L} (h : pk_when g p h I L x I2 L2) : I2 103 25 = I 103 25 := by
  unfold pk_when at h
  exact h.1 103 25 (by omega)

theorem eb_between_70_5 {g p q h x : Int32} {I I2 : px_I} {L L2 : px_L} (h : pb_between g p q h I L x I2 L2) : I2 70 5 = I 70 5 := by
  unfold pb_between at h
  obtain ⟨rfl, h⟩ := h
  rw [h 70 (by decide) (by decide) (by decide) (by decide)]

theorem ek_between_103_25 {g p t h x : Int32} {I I2 : px_I} {L L2 : px_L} (h : pk_between g p t h I L x I2 L2) : I2 103 25 = I 103 25 := by
  unfold pk_between at h
  exact h.1 103 25 (by omega)

theorem eb_lamps_70_5 {g p h lo hi x : Int32} {I I2 : px_I} {L L2 : px_L} (h : pb_lamps g p h lo hi I L x I2 L2) : I2 70 5 = I 70 5 := by
  unfold pb_lamps at h
  rw [h.1]

theorem ek_lamps_103_25 {g p h lo hi x : Int32} {I I2 : px_I} {L L2 : px_L} (h : pk_lamps g p h lo hi I L x I2 L2) : I2 103 25 = I 103 25 := by
  unfold pk_lamps at h
  rw [h.1]

theorem eb_count_70_5 {u lo hi x : Int32} {I I2 : px_I} {L L2 : px_L} (h : pb_count u lo hi I L x I2 L2) : I2 70 5 = I 70 5 := by
  unfold pb_count at h
  obtain ⟨rfl, h⟩ := h
  rcases h with ⟨a1, rfl, rfl⟩ | ⟨a1, rfl, rfl⟩
  · (repeat rw [px_u_out (by omega)])
  · rfl

theorem ek_count_103_25 {u lo hi x : Int32} {I I2 : px_I} {L L2 : px_L} (h : pk_count u lo hi I L x I2 L2) : I2 103 25 = I 103 25 := by
  unfold pk_count at h
  rcases h with ⟨a1, rfl, rfl, rfl⟩ | ⟨a1, rfl, rfl, rfl⟩
  · (repeat rw [px_u_out (by omega)])
  · rfl

theorem eb_unit_70_5 {h x : Int32} {I I2 : px_I} {L L2 : px_L} (h : pb_unit h I L x I2 L2) : I2 70 5 = I 70 5 := by
  unfold pb_unit at h
  rw [h.1]

theorem ek_unit_103_25 {h x : Int32} {I I2 : px_I} {L L2 : px_L} (h : pk_unit h I L x I2 L2) : I2 103 25 = I 103 25 := by
  unfold pk_unit at h
  rw [h.1]

theorem eb_fault_70_5 {x9 x : Int32} {I I2 : px_I} {L L2 : px_L} (h : pb_fault x9 I L x I2 L2) : I2 70 5 = I 70 5 := by
  unfold pb_fault at h
  rw [h.1]

theorem ek_fault_103_25 {x9 x : Int32} {I I2 : px_I} {L L2 : px_L} (h : pk_fault x9 I L x I2 L2) : I2 103 25 = I 103 25 := by
  unfold pk_fault at h
  rw [h.1]

theorem eb_tools_70_5 {a b c d e x : Int32} {I I2 : px_I} {L L2 : px_L} (h : pb_tools a b c d e I L x I2 L2) : I2 70 5 = I 70 5 := by
  unfold pb_tools at h
  obtain ⟨rfl, h⟩ := h
  rcases h with ⟨a1, rfl, a2⟩ | ⟨a1, rfl, rfl⟩
  · rw [a2 70 (by decide)]; (repeat rw [px_u_out (by omega)])
  · rfl

theorem ek_tools_103_25 {a b c d e x : Int32} {I I2 : px_I} {L L2 : px_L} (h : pk_tools a b c d e I L x I2 L2) : I2 103 25 = I 103 25 := by
  unfold pk_tools at h
  obtain ⟨rfl, h⟩ := h
  rcases h with ⟨a1, rfl, rfl⟩ | ⟨a1, rfl, rfl⟩
  · (repeat rw [px_u_out (by omega)])
  · rfl

theorem eb_run_70_5 {w h a x : Int32} {I I2 : px_I} {L L2 : px_L} (h : pb_run w h a I L x I2 L2) : I2 70 5 = I 70 5 := by
  unfold pb_run at h
  exact h.1 70 5 (by omega) (by omega) (by omega) (by omega) (by omega) (by omega) (by omega)

theorem ek_run_103_25 {w h a x : Int32} {I I2 : px_I} {L L2 : px_L} (h : pk_run w h a I L x I2 L2) : I2 103 25 = I 103 25 := by
  unfold pk_run at h
  exact h.1 103 25 (by omega) (by omega) (by omega)

theorem eb_meeting_70_5 {a f b t x9 h x : Int32} {I I2 : px_I} {L L2 : px_L} (h : pb_meeting a f b t x9 h I L x I2 L2) : I2 70 5 = I 70 5 := by
  unfold pb_meeting at h
  exact h.1 70 5 (by omega) (by omega) (by omega) (by omega) (by omega) (by omega) (by omega)

theorem ek_meeting_103_25 {a f b t x9 h x : Int32} {I I2 : px_I} {L L2 : px_L} (h : pk_meeting a f b t x9 h I L x I2 L2) : I2 103 25 = I 103 25 := by
  unfold pk_meeting at h
  exact h.1 103 25 (by omega) (by omega) (by omega)

theorem eb_there_70_5 {a lo hi x : Int32} {I I2 : px_I} {L L2 : px_L} (h : pb_there a lo hi I L x I2 L2) : I2 70 5 = I 70 5 := by
  unfold pb_there at h
  obtain ⟨rfl, h⟩ := h
  rcases h with ⟨a1, rfl, rfl⟩ | ⟨a1, rfl, rfl⟩
  · (repeat rw [px_u_out (by omega)])
  · rfl

theorem ek_there_103_25 {a lo hi x : Int32} {I I2 : px_I} {L L2 : px_L} (h : pk_there a lo hi I L x I2 L2) : I2 103 25 = I 103 25 := by
  unfold pk_there at h
  obtain ⟨rfl, h⟩ := h
  rcases h with ⟨a1, rfl, rfl⟩ | ⟨a1, rfl, rfl⟩
  · (repeat rw [px_u_out (by omega)])
  · rfl

theorem eb_fits_70_5 {a f b t x : Int32} {I I2 : px_I} {L L2 : px_L} (h : pb_fits a f b t I L x I2 L2) : I2 70 5 = I 70 5 := by
  unfold pb_fits at h
  exact h.1 70 5 (by omega) (by omega) (by omega) (by omega) (by omega) (by omega) (by omega)

theorem ek_fits_103_25 {a f b t x : Int32} {I I2 : px_I} {L L2 : px_L} (h : pk_fits a f b t I L x I2 L2) : I2 103 25 = I 103 25 := by
  unfold pk_fits at h
  exact h.1 103 25 (by omega) (by omega) (by omega)

theorem eb_ways_70_5 {a f b t x9 x : Int32} {I I2 : px_I} {L L2 : px_L} (h : pb_ways a f b t x9 I L x I2 L2) : I2 70 5 = I 70 5 := by
  unfold pb_ways at h
  exact h.1 70 5 (by omega) (by omega) (by omega) (by omega) (by omega) (by omega) (by omega)

theorem ek_ways_103_25 {a f b t x9 x : Int32} {I I2 : px_I} {L L2 : px_L} (h : pk_ways a f b t x9 I L x I2 L2) : I2 103 25 = I 103 25 := by
  unfold pk_ways at h
  exact h.1 103 25 (by omega) (by omega) (by omega)

theorem eb_seek_70_5 {a b c d e f x : Int32} {I I2 : px_I} {L L2 : px_L} (h : pb_seek a b c d e f I L x I2 L2) : I2 70 5 = I 70 5 := by
  unfold pb_seek at h
  obtain ⟨rfl, h⟩ := h
  rcases h with ⟨a1, rfl, rfl⟩ | ⟨a1, rfl, rfl⟩
  · (repeat rw [px_u_out (by omega)])
  · rfl

theorem ek_seek_103_25 {a b c d e f x : Int32} {I I2 : px_I} {L L2 : px_L} (h : pk_seek a b c d e f I L x I2 L2) : I2 103 25 = I 103 25 := by
  unfold pk_seek at h
  obtain ⟨rfl, h⟩ := h
  rcases h with ⟨a1, rfl, rfl⟩ | ⟨a1, rfl, rfl⟩
  · (repeat rw [px_u_out (by omega)])
  · rfl

theorem eb_detour_70_5 {a o h x : Int32} {I I2 : px_I} {L L2 : px_L} (h : pb_detour a o h I L x I2 L2) : I2 70 5 = I 70 5 := by
  unfold pb_detour at h
  rw [h.1]

theorem ek_detour_103_25 {a o lo x : Int32} {I I2 : px_I} {L L2 : px_L} (h : pk_detour a o lo I L x I2 L2) : I2 103 25 = I 103 25 := by
  unfold pk_detour at h
  rw [h.1]

theorem eb_table_70_5 {c v x : Int32} {I I2 : px_I} {L L2 : px_L} (h : pb_table c v I L x I2 L2) : I2 70 5 = I 70 5 := by
  unfold pb_table at h
  obtain ⟨rfl, h⟩ := h
  rcases h with ⟨a1, rfl, rfl⟩ | ⟨a1, rfl, rfl⟩
  · (repeat rw [px_u_out (by omega)])
  · rfl

theorem ek_table_103_25 {c v x : Int32} {I I2 : px_I} {L L2 : px_L} (h : pk_table c v I L x I2 L2) : I2 103 25 = I 103 25 := by
  unfold pk_table at h
  obtain ⟨rfl, h⟩ := h
  rcases h with ⟨a1, rfl, rfl⟩ | ⟨a1, rfl, rfl⟩
  · (repeat rw [px_u_out (by omega)])
  · rfl

theorem eb_repair_70_5 {g p y x : Int32} {I I2 : px_I} {L L2 : px_L} (h : pb_repair g p y I L x I2 L2) : I2 70 5 = I 70 5 := by
  unfold pb_repair at h
  obtain ⟨rfl, h⟩ := h
  rcases h with ⟨G, g1, rfl, rfl⟩ | ⟨a1, rfl, rfl⟩
  · have g2 := g1.1
    have gG : G = 41 ∨ G = 55 := by unfold bG at g2; omega
    unfold cRep; (repeat rw [px_u_out (by omega)])
  · rfl

theorem ek_repair_103_25 {g p y x : Int32} {I I2 : px_I} {L L2 : px_L} (h : pk_repair g p y I L x I2 L2) : I2 103 25 = I 103 25 := by
  unfold pk_repair at h
  obtain ⟨rfl, h⟩ := h
  rcases h with ⟨a1, rfl, rfl⟩ | ⟨a1, rfl, rfl⟩
  · (repeat rw [px_u_out (by omega)])
  · rfl

theorem eb_lime_70_5 {v x : Int32} {I I2 : px_I} {L L2 : px_L} (h : pb_lime v I L x I2 L2) : I2 70 5 = I 70 5 := by
  unfold pb_lime at h
  obtain ⟨rfl, h⟩ := h
  rcases h with ⟨a1, rfl, rfl⟩ | ⟨a1, rfl, rfl⟩
  · (repeat rw [px_u_out (by omega)])
  · rfl

theorem ek_lime_103_25 {v x : Int32} {I I2 : px_I} {L L2 : px_L} (h : pk_lime v I L x I2 L2) : I2 103 25 = I 103 25 := by
  unfold pk_lime at h
  obtain ⟨rfl, h⟩ := h
  rcases h with ⟨a1, a2, rfl, rfl⟩ | ⟨a1, rfl, rfl⟩
  · (repeat rw [px_u_out (by omega)])
  · rfl

theorem eb_flow_70_5 {g y k h x : Int32} {I I2 : px_I} {L L2 : px_L} (h : pb_flow g y k h I L x I2 L2) : I2 70 5 = I 70 5 := by
  unfold pb_flow at h
  exact h.1 70 5 (by omega)

theorem ek_flow_103_25 {g y k h x : Int32} {I I2 : px_I} {L L2 : px_L} (h : pk_flow g y k h I L x I2 L2) : I2 103 25 = I 103 25 := by
  unfold pk_flow at h
  exact h.1 103 25 (by omega)

theorem eb_narrow_70_5 {g y k x : Int32} {I I2 : px_I} {L L2 : px_L} (h : pb_narrow g y k I L x I2 L2) : I2 70 5 = I 70 5 := by
  unfold pb_narrow at h
  exact h.1 70 5 (by omega)

theorem ek_narrow_103_25 {g y k x : Int32} {I I2 : px_I} {L L2 : px_L} (h : pk_narrow g y k I L x I2 L2) : I2 103 25 = I 103 25 := by
  unfold pk_narrow at h
  exact h.1 103 25 (by omega)

theorem eb_about_70_5 {w x : Int32} {I I2 : px_I} {L L2 : px_L} (h : pb_about w I L x I2 L2) : I2 70 5 = I 70 5 := by
  unfold pb_about at h
  rw [h.1]

theorem ek_about_103_25 {w x : Int32} {I I2 : px_I} {L L2 : px_L} (h : pk_about w I L x I2 L2) : I2 103 25 = I 103 25 := by
  unfold pk_about at h
  rw [h.1]

theorem eb_days_71_r {x9 x : Int32} {I I2 : px_I} {L L2 : px_L} (h : pb_days x9 I L x I2 L2) : I2 71 = I 71 := by
  unfold pb_days at h
  obtain ⟨rfl, h⟩ := h
  rcases h with ⟨a1, a2, rfl, rfl⟩ | ⟨a1, rfl, rfl⟩
  · (repeat rw [px_u_ne (by omega)])
  · rfl

theorem ek_days_121_r {x9 x : Int32} {I I2 : px_I} {L L2 : px_L} (h : pk_days x9 I L x I2 L2) : I2 121 = I 121 := by
  unfold pk_days at h
  obtain ⟨rfl, h⟩ := h
  rcases h with ⟨a1, a2, a3, rfl, rfl⟩ | ⟨a1, rfl, rfl⟩
  · (repeat rw [px_u_ne (by omega)])
  · rfl

theorem eb_station_71_r { x : Int32} {I I2 : px_I} {L L2 : px_L} (h : pb_station  I L x I2 L2) : I2 71 = I 71 := by
  unfold pb_station at h
  obtain ⟨rfl, h⟩ := h
  rcases h with ⟨a1, rfl, rfl⟩ | ⟨a1, rfl, rfl⟩
  · (repeat rw [px_u_ne (by omega)])
  · rfl

theorem ek_station_121_r { x : Int32} {I I2 : px_I} {L L2 : px_L} (h : pk_station  I L x I2 L2) : I2 121 = I 121 := by
  unfold pk_station at h
  obtain ⟨rfl, h⟩ := h
  rcases h with ⟨a1, rfl, rfl⟩ | ⟨a1, rfl, rfl⟩
  · (repeat rw [px_u_ne (by omega)])
  · rfl

theorem eb_sight_71_r {a f t lo hi x : Int32} {I I2 : px_I} {L L2 : px_L} (h : pb_sight a f t lo hi I L x I2 L2) : I2 71 = I 71 := by
  unfold pb_sight at h
  obtain ⟨rfl, h⟩ := h
  rcases h with ⟨a1, rfl, rfl⟩ | ⟨a1, rfl, rfl⟩
  · (repeat rw [px_u_ne (by omega)])
  · rfl

theorem ek_sight_121_r {a f t lo hi x : Int32} {I I2 : px_I} {L L2 : px_L} (h : pk_sight a f t lo hi I L x I2 L2) : I2 121 = I 121 := by
  unfold pk_sight at h
  obtain ⟨rfl, h⟩ := h
  rcases h with ⟨a1, rfl, rfl⟩ | ⟨a1, rfl, rfl⟩
  · (repeat rw [px_u_ne (by omega)])
  · rfl

theorem eb_closed_71_r {a k x : Int32} {I I2 : px_I} {L L2 : px_L} (h : pb_closed a k I L x I2 L2) : I2 71 = I 71 := by
  unfold pb_closed at h
  obtain ⟨rfl, h⟩ := h
  rfl

theorem ek_closed_121_r {a k x : Int32} {I I2 : px_I} {L L2 : px_L} (h : pk_closed a k I L x I2 L2) : I2 121 = I 121 := by
  unfold pk_closed at h
  exact funext fun j => h.1 121 j (by omega)

theorem eb_span_71_r {a t k h x : Int32} {I I2 : px_I} {L L2 : px_L} (h : pb_span a t k h I L x I2 L2) : I2 71 = I 71 := by
  unfold pb_span at h
  obtain ⟨rfl, h⟩ := h
  rfl

theorem ek_span_121_r {a t k h x : Int32} {I I2 : px_I} {L L2 : px_L} (h : pk_span a t k h I L x I2 L2) : I2 121 = I 121 := by
  unfold pk_span at h
  exact funext fun j => h.1 121 j (by omega)

theorem eb_gap_71_r {a f t k h x : Int32} {I I2 : px_I} {L L2 : px_L} (h : pb_gap a f t k h I L x I2 L2) : I2 71 = I 71 := by
  unfold pb_gap at h
  obtain ⟨rfl, h⟩ := h
  rfl

theorem ek_gap_121_r {a f t k h x : Int32} {I I2 : px_I} {L L2 : px_L} (h : pk_gap a f t k h I L x I2 L2) : I2 121 = I 121 := by
  unfold pk_gap at h
  exact funext fun j => h.1 121 j (by omega)

theorem eb_blamed_71_r {a k i x : Int32} {I I2 : px_I} {L L2 : px_L} (h : pb_blamed a k i I L x I2 L2) : I2 71 = I 71 := by
  unfold pb_blamed at h
  obtain ⟨rfl, h⟩ := h
  rfl

theorem ek_blamed_121_r {a k i x : Int32} {I I2 : px_I} {L L2 : px_L} (h : pk_blamed a k i I L x I2 L2) : I2 121 = I 121 := by
  unfold pk_blamed at h
  exact funext fun j => h.1 121 j (by omega)

theorem eb_reach_71_r {g lo hi sl fa w st x : Int32} {I I2 : px_I} {L L2 : px_L} (h : pb_reach g lo hi sl fa w st I L x I2 L2) : I2 71 = I 71 := by
  unfold pb_reach at h
  obtain ⟨rfl, h⟩ := h
  rcases h with ⟨G, ⟨g1, g2, g3⟩, rfl, rfl⟩ | ⟨a1, rfl, rfl⟩
  · have gG : G = 41 ∨ G = 55 := by unfold bG at g1; omega
    rw [cReach_o (by omega)]
  · rfl

theorem ek_reach_121_r {g lo hi sl fa w st x : Int32} {I I2 : px_I} {L L2 : px_L} (h : pk_reach g lo hi sl fa w st I L x I2 L2) : I2 121 = I 121 := by
  unfold pk_reach at h
  obtain ⟨rfl, h⟩ := h
  rcases h with ⟨a1, rfl, rfl⟩ | ⟨a1, rfl, rfl⟩
  · unfold mReach; (repeat rw [px_u_ne (by omega)])
  · rfl

theorem eb_mouth_71_r {g st x : Int32} {I I2 : px_I} {L L2 : px_L} (h : pb_mouth g st I L x I2 L2) : I2 71 = I 71 := by
  unfold pb_mouth at h
  obtain ⟨rfl, h⟩ := h
  rcases h with ⟨G, g1, rfl⟩ | rfl
  · have gG : G = 41 ∨ G = 55 := by unfold bG at g1; omega
    (repeat rw [px_u_ne (by omega)])
  · rfl

theorem ek_mouth_121_r {g st x : Int32} {I I2 : px_I} {L L2 : px_L} (h : pk_mouth g st I L x I2 L2) : I2 121 = I 121 := by
  unfold pk_mouth at h
  obtain ⟨rfl, h⟩ := h
  rcases h with ⟨a1, a2, rfl, rfl⟩ | ⟨a1, rfl, rfl⟩
  · (repeat rw [px_u_ne (by omega)])
  · rfl

theorem eb_mark_71_r {g p f t x : Int32} {I I2 : px_I} {L L2 : px_L} (h : pb_mark g p f t I L x I2 L2) : I2 71 = I 71 := by
  unfold pb_mark at h
  obtain ⟨rfl, h⟩ := h
  rcases h with ⟨G, g1, rfl, rfl⟩ | ⟨a1, rfl, rfl⟩
  · have g2 := g1.1
    have gG : G = 41 ∨ G = 55 := by unfold bG at g2; omega
    unfold cMark; (repeat rw [px_u_ne (by omega)])
  · rfl

theorem ek_mark_121_r {g p f t x : Int32} {I I2 : px_I} {L L2 : px_L} (h : pk_mark g p f t I L x I2 L2) : I2 121 = I 121 := by
  unfold pk_mark at h
  obtain ⟨rfl, h⟩ := h
  rcases h with ⟨a1, rfl, rfl⟩ | ⟨a1, rfl, rfl⟩
  · unfold mMark; (repeat rw [px_u_ne (by omega)])
  · rfl

theorem eb_when_71_r {g p h x : Int32} {I I2 : px_I} {L L2 : px_L} (h : pb_when g p h I L x I2 L2) : I2 71 = I 71 := by
  unfold pb_when at h
  obtain ⟨rfl, h⟩ := h
  rw [h 71 (by decide) (by decide) (by decide) (by decide)]

theorem ek_when_121_r {g p h x : Int32} {I I2 : px_I} {L L2 : px_L} (h : pk_when g p h I L x I2 L2) : I2 121 = I 121 := by
  unfold pk_when at h
  exact funext fun j => h.1 121 j (by omega)

theorem eb_between_71_r {g p q h x : Int32} {I I2 : px_I} {L L2 : px_L} (h : pb_between g p q h I L x I2 L2) : I2 71 = I 71 := by
  unfold pb_between at h
  obtain ⟨rfl, h⟩ := h
  rw [h 71 (by decide) (by decide) (by decide) (by decide)]

theorem ek_between_121_r {g p t h x : Int32} {I I2 : px_I} {L L2 : px_L} (h : pk_between g p t h I L x I2 L2) : I2 121 = I 121 := by
  unfold pk_between at h
  exact funext fun j => h.1 121 j (by omega)

theorem eb_lamps_71_r {g p h lo hi x : Int32} {I I2 : px_I} {L L2 : px_L} (h : pb_lamps g p h lo hi I L x I2 L2) : I2 71 = I 71 := by
  unfold pb_lamps at h
  rw [h.1]

theorem ek_lamps_121_r {g p h lo hi x : Int32} {I I2 : px_I} {L L2 : px_L} (h : pk_lamps g p h lo hi I L x I2 L2) : I2 121 = I 121 := by
  unfold pk_lamps at h
  rw [h.1]

theorem eb_count_71_r {u lo hi x : Int32} {I I2 : px_I} {L L2 : px_L} (h : pb_count u lo hi I L x I2 L2) : I2 71 = I 71 := by
  unfold pb_count at h
  obtain ⟨rfl, h⟩ := h
  rcases h with ⟨a1, rfl, rfl⟩ | ⟨a1, rfl, rfl⟩
  · (repeat rw [px_u_ne (by omega)])
  · rfl

theorem ek_count_121_r {u lo hi x : Int32} {I I2 : px_I} {L L2 : px_L} (h : pk_count u lo hi I L x I2 L2) : I2 121 = I 121 := by
  unfold pk_count at h
  rcases h with ⟨a1, rfl, rfl, rfl⟩ | ⟨a1, rfl, rfl, rfl⟩
  · (repeat rw [px_u_ne (by omega)])
  · rfl

theorem eb_unit_71_r {h x : Int32} {I I2 : px_I} {L L2 : px_L} (h : pb_unit h I L x I2 L2) : I2 71 = I 71 := by
  unfold pb_unit at h
  rw [h.1]

theorem ek_unit_121_r {h x : Int32} {I I2 : px_I} {L L2 : px_L} (h : pk_unit h I L x I2 L2) : I2 121 = I 121 := by
  unfold pk_unit at h
  rw [h.1]

theorem eb_end_71_r {x9 x : Int32} {I I2 : px_I} {L L2 : px_L} (h : pb_end x9 I L x I2 L2) : I2 71 = I 71 := by
  unfold pb_end at h
  obtain ⟨rfl, h⟩ := h
  rcases h with ⟨a1, rfl, rfl⟩ | ⟨a1, rfl, rfl⟩
  · (repeat rw [px_u_ne (by omega)])
  · rfl

theorem ek_end_121_r {x9 x : Int32} {I I2 : px_I} {L L2 : px_L} (h : pk_end x9 I L x I2 L2) : I2 121 = I 121 := by
  unfold pk_end at h
  obtain ⟨rfl, h⟩ := h
  rcases h with ⟨a1, a2, rfl, rfl⟩ | ⟨a1, rfl, rfl⟩
  · (repeat rw [px_u_ne (by omega)])
  · rfl

theorem eb_way_71_r {i x : Int32} {I I2 : px_I} {L L2 : px_L} (h : pb_way i I L x I2 L2) : I2 71 = I 71 := by
  unfold pb_way at h
  exact funext fun j => h.1 71 j (by omega) (by omega) (by omega) (by omega) (by omega)

theorem ek_way_121_r {w x : Int32} {I I2 : px_I} {L L2 : px_L} (h : pk_way w I L x I2 L2) : I2 121 = I 121 := by
  unfold pk_way at h
  obtain ⟨rfl, h⟩ := h
  rcases h with ⟨a1, a2, rfl⟩ | ⟨a1, a2, a3⟩
  · rfl
  · exact funext fun j => a2 121 j (by omega) (by omega)

theorem eb_fault_71_r {x9 x : Int32} {I I2 : px_I} {L L2 : px_L} (h : pb_fault x9 I L x I2 L2) : I2 71 = I 71 := by
  unfold pb_fault at h
  rw [h.1]

theorem ek_fault_121_r {x9 x : Int32} {I I2 : px_I} {L L2 : px_L} (h : pk_fault x9 I L x I2 L2) : I2 121 = I 121 := by
  unfold pk_fault at h
  rw [h.1]

theorem eb_tools_71_r {a b c d e x : Int32} {I I2 : px_I} {L L2 : px_L} (h : pb_tools a b c d e I L x I2 L2) : I2 71 = I 71 := by
  unfold pb_tools at h
  obtain ⟨rfl, h⟩ := h
  rcases h with ⟨a1, rfl, a2⟩ | ⟨a1, rfl, rfl⟩
  · rw [a2 71 (by decide)]; (repeat rw [px_u_ne (by omega)])
  · rfl

theorem ek_tools_121_r {a b c d e x : Int32} {I I2 : px_I} {L L2 : px_L} (h : pk_tools a b c d e I L x I2 L2) : I2 121 = I 121 := by
  unfold pk_tools at h
  obtain ⟨rfl, h⟩ := h
  rcases h with ⟨a1, rfl, rfl⟩ | ⟨a1, rfl, rfl⟩
  · (repeat rw [px_u_ne (by omega)])
  · rfl

theorem eb_run_71_r {w h a x : Int32} {I I2 : px_I} {L L2 : px_L} (h : pb_run w h a I L x I2 L2) : I2 71 = I 71 := by
  unfold pb_run at h
  exact funext fun j => h.1 71 j (by omega) (by omega) (by omega) (by omega) (by omega) (by omega) (by omega)

theorem ek_run_121_r {w h a x : Int32} {I I2 : px_I} {L L2 : px_L} (h : pk_run w h a I L x I2 L2) : I2 121 = I 121 := by
  unfold pk_run at h
  exact funext fun j => h.1 121 j (by omega) (by omega) (by omega)

theorem eb_meeting_71_r {a f b t x9 h x : Int32} {I I2 : px_I} {L L2 : px_L} (h : pb_meeting a f b t x9 h I L x I2 L2) : I2 71 = I 71 := by
  unfold pb_meeting at h
  exact funext fun j => h.1 71 j (by omega) (by omega) (by omega) (by omega) (by omega) (by omega) (by omega)

theorem ek_meeting_121_r {a f b t x9 h x : Int32} {I I2 : px_I} {L L2 : px_L} (h : pk_meeting a f b t x9 h I L x I2 L2) : I2 121 = I 121 := by
  unfold pk_meeting at h
  exact funext fun j => h.1 121 j (by omega) (by omega) (by omega)

theorem eb_there_71_r {a lo hi x : Int32} {I I2 : px_I} {L L2 : px_L} (h : pb_there a lo hi I L x I2 L2) : I2 71 = I 71 := by
  unfold pb_there at h
  obtain ⟨rfl, h⟩ := h
  rcases h with ⟨a1, rfl, rfl⟩ | ⟨a1, rfl, rfl⟩
  · (repeat rw [px_u_ne (by omega)])
  · rfl

theorem ek_there_121_r {a lo hi x : Int32} {I I2 : px_I} {L L2 : px_L} (h : pk_there a lo hi I L x I2 L2) : I2 121 = I 121 := by
  unfold pk_there at h
  obtain ⟨rfl, h⟩ := h
  rcases h with ⟨a1, rfl, rfl⟩ | ⟨a1, rfl, rfl⟩
  · (repeat rw [px_u_ne (by omega)])
  · rfl

theorem eb_fits_71_r {a f b t x : Int32} {I I2 : px_I} {L L2 : px_L} (h : pb_fits a f b t I L x I2 L2) : I2 71 = I 71 := by
  unfold pb_fits at h
  exact funext fun j => h.1 71 j (by omega) (by omega) (by omega) (by omega) (by omega) (by omega) (by omega)

theorem ek_fits_121_r {a f b t x : Int32} {I I2 : px_I} {L L2 : px_L} (h : pk_fits a f b t I L x I2 L2) : I2 121 = I 121 := by
  unfold pk_fits at h
  exact funext fun j => h.1 121 j (by omega) (by omega) (by omega)

theorem eb_ways_71_r {a f b t x9 x : Int32} {I I2 : px_I} {L L2 : px_L} (h : pb_ways a f b t x9 I L x I2 L2) : I2 71 = I 71 := by
  unfold pb_ways at h
  exact funext fun j => h.1 71 j (by omega) (by omega) (by omega) (by omega) (by omega) (by omega) (by omega)

theorem ek_ways_121_r {a f b t x9 x : Int32} {I I2 : px_I} {L L2 : px_L} (h : pk_ways a f b t x9 I L x I2 L2) : I2 121 = I 121 := by
  unfold pk_ways at h
  exact funext fun j => h.1 121 j (by omega) (by omega) (by omega)

theorem eb_seek_71_r {a b c d e f x : Int32} {I I2 : px_I} {L L2 : px_L} (h : pb_seek a b c d e f I L x I2 L2) : I2 71 = I 71 := by
  unfold pb_seek at h
  obtain ⟨rfl, h⟩ := h
  rcases h with ⟨a1, rfl, rfl⟩ | ⟨a1, rfl, rfl⟩
  · (repeat rw [px_u_ne (by omega)])
  · rfl

theorem ek_seek_121_r {a b c d e f x : Int32} {I I2 : px_I} {L L2 : px_L} (h : pk_seek a b c d e f I L x I2 L2) : I2 121 = I 121 := by
  unfold pk_seek at h
  obtain ⟨rfl, h⟩ := h
  rcases h with ⟨a1, rfl, rfl⟩ | ⟨a1, rfl, rfl⟩
  · (repeat rw [px_u_ne (by omega)])
  · rfl

theorem eb_detour_71_r {a o h x : Int32} {I I2 : px_I} {L L2 : px_L} (h : pb_detour a o h I L x I2 L2) : I2 71 = I 71 := by
  unfold pb_detour at h
  rw [h.1]

theorem ek_detour_121_r {a o lo x : Int32} {I I2 : px_I} {L L2 : px_L} (h : pk_detour a o lo I L x I2 L2) : I2 121 = I 121 := by
  unfold pk_detour at h
  rw [h.1]

theorem eb_table_71_r {c v x : Int32} {I I2 : px_I} {L L2 : px_L} (h : pb_table c v I L x I2 L2) : I2 71 = I 71 := by
  unfold pb_table at h
  obtain ⟨rfl, h⟩ := h
  rcases h with ⟨a1, rfl, rfl⟩ | ⟨a1, rfl, rfl⟩
  · (repeat rw [px_u_ne (by omega)])
  · rfl

theorem ek_table_121_r {c v x : Int32} {I I2 : px_I} {L L2 : px_L} (h : pk_table c v I L x I2 L2) : I2 121 = I 121 := by
  unfold pk_table at h
  obtain ⟨rfl, h⟩ := h
  rcases h with ⟨a1, rfl, rfl⟩ | ⟨a1, rfl, rfl⟩
  · (repeat rw [px_u_ne (by omega)])
  · rfl

theorem eb_repair_71_r {g p y x : Int32} {I I2 : px_I} {L L2 : px_L} (h : pb_repair g p y I L x I2 L2) : I2 71 = I 71 := by
  unfold pb_repair at h
  obtain ⟨rfl, h⟩ := h
  rcases h with ⟨G, g1, rfl, rfl⟩ | ⟨a1, rfl, rfl⟩
  · have g2 := g1.1
    have gG : G = 41 ∨ G = 55 := by unfold bG at g2; omega
    unfold cRep; (repeat rw [px_u_ne (by omega)])
  · rfl

theorem ek_repair_121_r {g p y x : Int32} {I I2 : px_I} {L L2 : px_L} (h : pk_repair g p y I L x I2 L2) : I2 121 = I 121 := by
  unfold pk_repair at h
  obtain ⟨rfl, h⟩ := h
  rcases h with ⟨a1, rfl, rfl⟩ | ⟨a1, rfl, rfl⟩
  · (repeat rw [px_u_ne (by omega)])
  · rfl

theorem eb_lime_71_r {v x : Int32} {I I2 : px_I} {L L2 : px_L} (h : pb_lime v I L x I2 L2) : I2 71 = I 71 := by
  unfold pb_lime at h
  obtain ⟨rfl, h⟩ := h
  rcases h with ⟨a1, rfl, rfl⟩ | ⟨a1, rfl, rfl⟩
  · (repeat rw [px_u_ne (by omega)])
  · rfl

theorem ek_lime_121_r {v x : Int32} {I I2 : px_I} {L L2 : px_L} (h : pk_lime v I L x I2 L2) : I2 121 = I 121 := by
  unfold pk_lime at h
  obtain ⟨rfl, h⟩ := h
  rcases h with ⟨a1, a2, rfl, rfl⟩ | ⟨a1, rfl, rfl⟩
  · (repeat rw [px_u_ne (by omega)])
  · rfl

theorem eb_flow_71_r {g y k h x : Int32} {I I2 : px_I} {L L2 : px_L} (h : pb_flow g y k h I L x I2 L2) : I2 71 = I 71 := by
  unfold pb_flow at h
  exact funext fun j => h.1 71 j (by omega)

theorem ek_flow_121_r {g y k h x : Int32} {I I2 : px_I} {L L2 : px_L} (h : pk_flow g y k h I L x I2 L2) : I2 121 = I 121 := by
  unfold pk_flow at h
  exact funext fun j => h.1 121 j (by omega)

theorem eb_narrow_71_r {g y k x : Int32} {I I2 : px_I} {L L2 : px_L} (h : pb_narrow g y k I L x I2 L2) : I2 71 = I 71 := by
  unfold pb_narrow at h
  exact funext fun j => h.1 71 j (by omega)

theorem ek_narrow_121_r {g y k x : Int32} {I I2 : px_I} {L L2 : px_L} (h : pk_narrow g y k I L x I2 L2) : I2 121 = I 121 := by
  unfold pk_narrow at h
  exact funext fun j => h.1 121 j (by omega)

theorem eb_about_71_r {w x : Int32} {I I2 : px_I} {L L2 : px_L} (h : pb_about w I L x I2 L2) : I2 71 = I 71 := by
  unfold pb_about at h
  rw [h.1]

theorem ek_about_121_r {w x : Int32} {I I2 : px_I} {L L2 : px_L} (h : pk_about w I L x I2 L2) : I2 121 = I 121 := by
  unfold pk_about at h
  rw [h.1]

theorem eb_days_90_r {x9 x : Int32} {I I2 : px_I} {L L2 : px_L} (h : pb_days x9 I L x I2 L2) : I2 90 = I 90 := by
  unfold pb_days at h
  obtain ⟨rfl, h⟩ := h
  rcases h with ⟨a1, a2, rfl, rfl⟩ | ⟨a1, rfl, rfl⟩
  · (repeat rw [px_u_ne (by omega)])
  · rfl

theorem eb_days_91_r {x9 x : Int32} {I I2 : px_I} {L L2 : px_L} (h : pb_days x9 I L x I2 L2) : I2 91 = I 91 := by
  unfold pb_days at h
  obtain ⟨rfl, h⟩ := h
  rcases h with ⟨a1, a2, rfl, rfl⟩ | ⟨a1, rfl, rfl⟩
  · (repeat rw [px_u_ne (by omega)])
  · rfl

theorem eb_days_86_3 {x9 x : Int32} {I I2 : px_I} {L L2 : px_L} (h : pb_days x9 I L x I2 L2) : I2 86 3 = I 86 3 := by
  unfold pb_days at h
  obtain ⟨rfl, h⟩ := h
  rcases h with ⟨a1, a2, rfl, rfl⟩ | ⟨a1, rfl, rfl⟩
  · (repeat rw [px_u_out (by omega)])
  · rfl

theorem eb_days_86_4 {x9 x : Int32} {I I2 : px_I} {L L2 : px_L} (h : pb_days x9 I L x I2 L2) : I2 86 4 = I 86 4 := by
  unfold pb_days at h
  obtain ⟨rfl, h⟩ := h
  rcases h with ⟨a1, a2, rfl, rfl⟩ | ⟨a1, rfl, rfl⟩
  · (repeat rw [px_u_out (by omega)])
  · rfl

theorem eb_days_86_5 {x9 x : Int32} {I I2 : px_I} {L L2 : px_L} (h : pb_days x9 I L x I2 L2) : I2 86 5 = I 86 5 := by
  unfold pb_days at h
  obtain ⟨rfl, h⟩ := h
  rcases h with ⟨a1, a2, rfl, rfl⟩ | ⟨a1, rfl, rfl⟩
  · (repeat rw [px_u_out (by omega)])
  · rfl

theorem eb_days_86_6 {x9 x : Int32} {I I2 : px_I} {L L2 : px_L} (h : pb_days x9 I L x I2 L2) : I2 86 6 = I 86 6 := by
  unfold pb_days at h
  obtain ⟨rfl, h⟩ := h
  rcases h with ⟨a1, a2, rfl, rfl⟩ | ⟨a1, rfl, rfl⟩
  · (repeat rw [px_u_out (by omega)])
  · rfl

theorem eb_days_86_7 {x9 x : Int32} {I I2 : px_I} {L L2 : px_L} (h : pb_days x9 I L x I2 L2) : I2 86 7 = I 86 7 := by
  unfold pb_days at h
  obtain ⟨rfl, h⟩ := h
  rcases h with ⟨a1, a2, rfl, rfl⟩ | ⟨a1, rfl, rfl⟩
  · (repeat rw [px_u_out (by omega)])
  · rfl

theorem eb_days_9999_r {x9 x : Int32} {I I2 : px_I} {L L2 : px_L} (h : pb_days x9 I L x I2 L2) (b : Nat) (hb : (77 ≤ b ∧ b ≤ 79) ∨ 147 ≤ b) : I2 b = I b := by
  unfold pb_days at h
  obtain ⟨rfl, h⟩ := h
  rcases h with ⟨a1, a2, rfl, rfl⟩ | ⟨a1, rfl, rfl⟩
  · (repeat rw [px_u_ne (by omega)])
  · rfl

theorem ek_days_129_r {x9 x : Int32} {I I2 : px_I} {L L2 : px_L} (h : pk_days x9 I L x I2 L2) : I2 129 = I 129 := by
  unfold pk_days at h
  obtain ⟨rfl, h⟩ := h
  rcases h with ⟨a1, a2, a3, rfl, rfl⟩ | ⟨a1, rfl, rfl⟩
  · (repeat rw [px_u_ne (by omega)])
  · rfl

theorem ek_days_130_r {x9 x : Int32} {I I2 : px_I} {L L2 : px_L} (h : pk_days x9 I L x I2 L2) : I2 130 = I 130 := by
  unfold pk_days at h
  obtain ⟨rfl, h⟩ := h
  rcases h with ⟨a1, a2, a3, rfl, rfl⟩ | ⟨a1, rfl, rfl⟩
  · (repeat rw [px_u_ne (by omega)])
  · rfl

theorem ek_days_131_r {x9 x : Int32} {I I2 : px_I} {L L2 : px_L} (h : pk_days x9 I L x I2 L2) : I2 131 = I 131 := by
  unfold pk_days at h
  obtain ⟨rfl, h⟩ := h
  rcases h with ⟨a1, a2, a3, rfl, rfl⟩ | ⟨a1, rfl, rfl⟩
  · (repeat rw [px_u_ne (by omega)])
  · rfl

theorem ek_days_103_47 {x9 x : Int32} {I I2 : px_I} {L L2 : px_L} (h : pk_days x9 I L x I2 L2) : I2 103 47 = I 103 47 := by
  unfold pk_days at h
  obtain ⟨rfl, h⟩ := h
  rcases h with ⟨a1, a2, a3, rfl, rfl⟩ | ⟨a1, rfl, rfl⟩
  · (repeat rw [px_u_out (by omega)])
  · rfl

theorem ek_days_103_48 {x9 x : Int32} {I I2 : px_I} {L L2 : px_L} (h : pk_days x9 I L x I2 L2) : I2 103 48 = I 103 48 := by
  unfold pk_days at h
  obtain ⟨rfl, h⟩ := h
  rcases h with ⟨a1, a2, a3, rfl, rfl⟩ | ⟨a1, rfl, rfl⟩
  · (repeat rw [px_u_out (by omega)])
  · rfl

theorem ek_days_103_49 {x9 x : Int32} {I I2 : px_I} {L L2 : px_L} (h : pk_days x9 I L x I2 L2) : I2 103 49 = I 103 49 := by
  unfold pk_days at h
  obtain ⟨rfl, h⟩ := h
  rcases h with ⟨a1, a2, a3, rfl, rfl⟩ | ⟨a1, rfl, rfl⟩
  · (repeat rw [px_u_out (by omega)])
  · rfl

theorem ek_days_103_50 {x9 x : Int32} {I I2 : px_I} {L L2 : px_L} (h : pk_days x9 I L x I2 L2) : I2 103 50 = I 103 50 := by
  unfold pk_days at h
  obtain ⟨rfl, h⟩ := h
  rcases h with ⟨a1, a2, a3, rfl, rfl⟩ | ⟨a1, rfl, rfl⟩
  · (repeat rw [px_u_out (by omega)])
  · rfl

theorem ek_days_103_51 {x9 x : Int32} {I I2 : px_I} {L L2 : px_L} (h : pk_days x9 I L x I2 L2) : I2 103 51 = I 103 51 := by
  unfold pk_days at h
  obtain ⟨rfl, h⟩ := h
  rcases h with ⟨a1, a2, a3, rfl, rfl⟩ | ⟨a1, rfl, rfl⟩
  · (repeat rw [px_u_out (by omega)])
  · rfl

theorem eb_station_90_r { x : Int32} {I I2 : px_I} {L L2 : px_L} (h : pb_station  I L x I2 L2) : I2 90 = I 90 := by
  unfold pb_station at h
  obtain ⟨rfl, h⟩ := h
  rcases h with ⟨a1, rfl, rfl⟩ | ⟨a1, rfl, rfl⟩
  · (repeat rw [px_u_ne (by omega)])
  · rfl

theorem eb_station_91_r { x : Int32} {I I2 : px_I} {L L2 : px_L} (h : pb_station  I L x I2 L2) : I2 91 = I 91 := by
  unfold pb_station at h
  obtain ⟨rfl, h⟩ := h
  rcases h with ⟨a1, rfl, rfl⟩ | ⟨a1, rfl, rfl⟩
  · (repeat rw [px_u_ne (by omega)])
  · rfl

theorem eb_station_86_3 { x : Int32} {I I2 : px_I} {L L2 : px_L} (h : pb_station  I L x I2 L2) : I2 86 3 = I 86 3 := by
  unfold pb_station at h
  obtain ⟨rfl, h⟩ := h
  rcases h with ⟨a1, rfl, rfl⟩ | ⟨a1, rfl, rfl⟩
  · (repeat rw [px_u_out (by omega)])
  · rfl

theorem eb_station_86_4 { x : Int32} {I I2 : px_I} {L L2 : px_L} (h : pb_station  I L x I2 L2) : I2 86 4 = I 86 4 := by
  unfold pb_station at h
  obtain ⟨rfl, h⟩ := h
  rcases h with ⟨a1, rfl, rfl⟩ | ⟨a1, rfl, rfl⟩
  · (repeat rw [px_u_out (by omega)])
  · rfl

theorem eb_station_86_5 { x : Int32} {I I2 : px_I} {L L2 : px_L} (h : pb_station  I L x I2 L2) : I2 86 5 = I 86 5 := by
  unfold pb_station at h
  obtain ⟨rfl, h⟩ := h
  rcases h with ⟨a1, rfl, rfl⟩ | ⟨a1, rfl, rfl⟩
  · (repeat rw [px_u_out (by omega)])
  · rfl

theorem eb_station_86_6 { x : Int32} {I I2 : px_I} {L L2 : px_L} (h : pb_station  I L x I2 L2) : I2 86 6 = I 86 6 := by
  unfold pb_station at h
  obtain ⟨rfl, h⟩ := h
  rcases h with ⟨a1, rfl, rfl⟩ | ⟨a1, rfl, rfl⟩
  · (repeat rw [px_u_out (by omega)])
  · rfl

theorem eb_station_86_7 { x : Int32} {I I2 : px_I} {L L2 : px_L} (h : pb_station  I L x I2 L2) : I2 86 7 = I 86 7 := by
  unfold pb_station at h
  obtain ⟨rfl, h⟩ := h
  rcases h with ⟨a1, rfl, rfl⟩ | ⟨a1, rfl, rfl⟩
  · (repeat rw [px_u_out (by omega)])
  · rfl

theorem eb_station_9999_r { x : Int32} {I I2 : px_I} {L L2 : px_L} (h : pb_station  I L x I2 L2) (b : Nat) (hb : (77 ≤ b ∧ b ≤ 79) ∨ 147 ≤ b) : I2 b = I b := by
  unfold pb_station at h
  obtain ⟨rfl, h⟩ := h
  rcases h with ⟨a1, rfl, rfl⟩ | ⟨a1, rfl, rfl⟩
  · (repeat rw [px_u_ne (by omega)])
  · rfl

theorem ek_station_129_r { x : Int32} {I I2 : px_I} {L L2 : px_L} (h : pk_station  I L x I2 L2) : I2 129 = I 129 := by
  unfold pk_station at h
  obtain ⟨rfl, h⟩ := h
  rcases h with ⟨a1, rfl, rfl⟩ | ⟨a1, rfl, rfl⟩
  · (repeat rw [px_u_ne (by omega)])
  · rfl

theorem ek_station_130_r { x : Int32} {I I2 : px_I} {L L2 : px_L} (h : pk_station  I L x I2 L2) : I2 130 = I 130 := by
  unfold pk_station at h
  obtain ⟨rfl, h⟩ := h
  rcases h with ⟨a1, rfl, rfl⟩ | ⟨a1, rfl, rfl⟩
  · (repeat rw [px_u_ne (by omega)])
  · rfl

theorem ek_station_131_r { x : Int32} {I I2 : px_I} {L L2 : px_L} (h : pk_station  I L x I2 L2) : I2 131 = I 131 := by
  unfold pk_station at h
  obtain ⟨rfl, h⟩ := h
  rcases h with ⟨a1, rfl, rfl⟩ | ⟨a1, rfl, rfl⟩
  · (repeat rw [px_u_ne (by omega)])
  · rfl

theorem ek_station_103_47 { x : Int32} {I I2 : px_I} {L L2 : px_L} (h : pk_station  I L x I2 L2) : I2 103 47 = I 103 47 := by
  unfold pk_station at h
  obtain ⟨rfl, h⟩ := h
  rcases h with ⟨a1, rfl, rfl⟩ | ⟨a1, rfl, rfl⟩
  · (repeat rw [px_u_out (by omega)])
  · rfl

theorem ek_station_103_48 { x : Int32} {I I2 : px_I} {L L2 : px_L} (h : pk_station  I L x I2 L2) : I2 103 48 = I 103 48 := by
  unfold pk_station at h
  obtain ⟨rfl, h⟩ := h
  rcases h with ⟨a1, rfl, rfl⟩ | ⟨a1, rfl, rfl⟩
  · (repeat rw [px_u_out (by omega)])
  · rfl

theorem ek_station_103_49 { x : Int32} {I I2 : px_I} {L L2 : px_L} (h : pk_station  I L x I2 L2) : I2 103 49 = I 103 49 := by
  unfold pk_station at h
  obtain ⟨rfl, h⟩ := h
  rcases h with ⟨a1, rfl, rfl⟩ | ⟨a1, rfl, rfl⟩
  · (repeat rw [px_u_out (by omega)])
  · rfl

theorem ek_station_103_50 { x : Int32} {I I2 : px_I} {L L2 : px_L} (h : pk_station  I L x I2 L2) : I2 103 50 = I 103 50 := by
  unfold pk_station at h
  obtain ⟨rfl, h⟩ := h
  rcases h with ⟨a1, rfl, rfl⟩ | ⟨a1, rfl, rfl⟩
  · (repeat rw [px_u_out (by omega)])
  · rfl

theorem ek_station_103_51 { x : Int32} {I I2 : px_I} {L L2 : px_L} (h : pk_station  I L x I2 L2) : I2 103 51 = I 103 51 := by
  unfold pk_station at h
  obtain ⟨rfl, h⟩ := h
  rcases h with ⟨a1, rfl, rfl⟩ | ⟨a1, rfl, rfl⟩
  · (repeat rw [px_u_out (by omega)])
  · rfl

theorem eb_sight_90_r {a f t lo hi x : Int32} {I I2 : px_I} {L L2 : px_L} (h : pb_sight a f t lo hi I L x I2 L2) : I2 90 = I 90 := by
  unfold pb_sight at h
  obtain ⟨rfl, h⟩ := h
  rcases h with ⟨a1, rfl, rfl⟩ | ⟨a1, rfl, rfl⟩
  · (repeat rw [px_u_ne (by omega)])
  · rfl

theorem eb_sight_91_r {a f t lo hi x : Int32} {I I2 : px_I} {L L2 : px_L} (h : pb_sight a f t lo hi I L x I2 L2) : I2 91 = I 91 := by
  unfold pb_sight at h
  obtain ⟨rfl, h⟩ := h
  rcases h with ⟨a1, rfl, rfl⟩ | ⟨a1, rfl, rfl⟩
  · (repeat rw [px_u_ne (by omega)])
  · rfl

theorem eb_sight_86_3 {a f t lo hi x : Int32} {I I2 : px_I} {L L2 : px_L} (h : pb_sight a f t lo hi I L x I2 L2) : I2 86 3 = I 86 3 := by
  unfold pb_sight at h
  obtain ⟨rfl, h⟩ := h
  rcases h with ⟨a1, rfl, rfl⟩ | ⟨a1, rfl, rfl⟩
  · (repeat rw [px_u_out (by omega)])
  · rfl

theorem eb_sight_86_4 {a f t lo hi x : Int32} {I I2 : px_I} {L L2 : px_L} (h : pb_sight a f t lo hi I L x I2 L2) : I2 86 4 = I 86 4 := by
  unfold pb_sight at h
  obtain ⟨rfl, h⟩ := h
  rcases h with ⟨a1, rfl, rfl⟩ | ⟨a1, rfl, rfl⟩
  · (repeat rw [px_u_out (by omega)])
  · rfl

theorem eb_sight_86_5 {a f t lo hi x : Int32} {I I2 : px_I} {L L2 : px_L} (h : pb_sight a f t lo hi I L x I2 L2) : I2 86 5 = I 86 5 := by
  unfold pb_sight at h
  obtain ⟨rfl, h⟩ := h
  rcases h with ⟨a1, rfl, rfl⟩ | ⟨a1, rfl, rfl⟩
  · (repeat rw [px_u_out (by omega)])
  · rfl

theorem eb_sight_86_6 {a f t lo hi x : Int32} {I I2 : px_I} {L L2 : px_L} (h : pb_sight a f t lo hi I L x I2 L2) : I2 86 6 = I 86 6 := by
  unfold pb_sight at h
  obtain ⟨rfl, h⟩ := h
  rcases h with ⟨a1, rfl, rfl⟩ | ⟨a1, rfl, rfl⟩
  · (repeat rw [px_u_out (by omega)])
  · rfl

theorem eb_sight_86_7 {a f t lo hi x : Int32} {I I2 : px_I} {L L2 : px_L} (h : pb_sight a f t lo hi I L x I2 L2) : I2 86 7 = I 86 7 := by
  unfold pb_sight at h
  obtain ⟨rfl, h⟩ := h
  rcases h with ⟨a1, rfl, rfl⟩ | ⟨a1, rfl, rfl⟩
  · (repeat rw [px_u_out (by omega)])
  · rfl

theorem eb_sight_9999_r {a f t lo hi x : Int32} {I I2 : px_I} {L L2 : px_L} (h : pb_sight a f t lo hi I L x I2 L2) (b : Nat) (hb : (77 ≤ b ∧ b ≤ 79) ∨ 147 ≤ b) : I2 b = I b := by
  unfold pb_sight at h
  obtain ⟨rfl, h⟩ := h
  rcases h with ⟨a1, rfl, rfl⟩ | ⟨a1, rfl, rfl⟩
  · (repeat rw [px_u_ne (by omega)])
  · rfl

theorem ek_sight_129_r {a f t lo hi x : Int32} {I I2 : px_I} {L L2 : px_L} (h : pk_sight a f t lo hi I L x I2 L2) : I2 129 = I 129 := by
  unfold pk_sight at h
  obtain ⟨rfl, h⟩ := h
  rcases h with ⟨a1, rfl, rfl⟩ | ⟨a1, rfl, rfl⟩
  · (repeat rw [px_u_ne (by omega)])
  · rfl

theorem ek_sight_130_r {a f t lo hi x : Int32} {I I2 : px_I} {L L2 : px_L} (h : pk_sight a f t lo hi I L x I2 L2) : I2 130 = I 130 := by
  unfold pk_sight at h
  obtain ⟨rfl, h⟩ := h
  rcases h with ⟨a1, rfl, rfl⟩ | ⟨a1, rfl, rfl⟩
  · (repeat rw [px_u_ne (by omega)])
  · rfl

theorem ek_sight_131_r {a f t lo hi x : Int32} {I I2 : px_I} {L L2 : px_L} (h : pk_sight a f t lo hi I L x I2 L2) : I2 131 = I 131 := by
  unfold pk_sight at h
  obtain ⟨rfl, h⟩ := h
  rcases h with ⟨a1, rfl, rfl⟩ | ⟨a1, rfl, rfl⟩
  · (repeat rw [px_u_ne (by omega)])
  · rfl

theorem ek_sight_103_47 {a f t lo hi x : Int32} {I I2 : px_I} {L L2 : px_L} (h : pk_sight a f t lo hi I L x I2 L2) : I2 103 47 = I 103 47 := by
  unfold pk_sight at h
  obtain ⟨rfl, h⟩ := h
  rcases h with ⟨a1, rfl, rfl⟩ | ⟨a1, rfl, rfl⟩
  · (repeat rw [px_u_out (by omega)])
  · rfl

theorem ek_sight_103_48 {a f t lo hi x : Int32} {I I2 : px_I} {L L2 : px_L} (h : pk_sight a f t lo hi I L x I2 L2) : I2 103 48 = I 103 48 := by
  unfold pk_sight at h
  obtain ⟨rfl, h⟩ := h
  rcases h with ⟨a1, rfl, rfl⟩ | ⟨a1, rfl, rfl⟩
  · (repeat rw [px_u_out (by omega)])
  · rfl

theorem ek_sight_103_49 {a f t lo hi x : Int32} {I I2 : px_I} {L L2 : px_L} (h : pk_sight a f t lo hi I L x I2 L2) : I2 103 49 = I 103 49 := by
  unfold pk_sight at h
  obtain ⟨rfl, h⟩ := h
  rcases h with ⟨a1, rfl, rfl⟩ | ⟨a1, rfl, rfl⟩
  · (repeat rw [px_u_out (by omega)])
  · rfl

theorem ek_sight_103_50 {a f t lo hi x : Int32} {I I2 : px_I} {L L2 : px_L} (h : pk_sight a f t lo hi I L x I2 L2) : I2 103 50 = I 103 50 := by
  unfold pk_sight at h
  obtain ⟨rfl, h⟩ := h
  rcases h with ⟨a1, rfl, rfl⟩ | ⟨a1, rfl, rfl⟩
  · (repeat rw [px_u_out (by omega)])
  · rfl

theorem ek_sight_103_51 {a f t lo hi x : Int32} {I I2 : px_I} {L L2 : px_L} (h : pk_sight a f t lo hi I L x I2 L2) : I2 103 51 = I 103 51 := by
  unfold pk_sight at h
  obtain ⟨rfl, h⟩ := h
  rcases h with ⟨a1, rfl, rfl⟩ | ⟨a1, rfl, rfl⟩
  · (repeat rw [px_u_out (by omega)])
  · rfl

theorem eb_closed_90_r {a k x : Int32} {I I2 : px_I} {L L2 : px_L} (h : pb_closed a k I L x I2 L2) : I2 90 = I 90 := by
  unfold pb_closed at h
  obtain ⟨rfl, h⟩ := h
  rfl

theorem eb_closed_91_r {a k x : Int32} {I I2 : px_I} {L L2 : px_L} (h : pb_closed a k I L x I2 L2) : I2 91 = I 91 := by
  unfold pb_closed at h
  obtain ⟨rfl, h⟩ := h
  rfl

theorem eb_closed_86_3 {a k x : Int32} {I I2 : px_I} {L L2 : px_L} (h : pb_closed a k I L x I2 L2) : I2 86 3 = I 86 3 := by
  unfold pb_closed at h
  obtain ⟨rfl, h⟩ := h
  rfl

theorem eb_closed_86_4 {a k x : Int32} {I I2 : px_I} {L L2 : px_L} (h : pb_closed a k I L x I2 L2) : I2 86 4 = I 86 4 := by
  unfold pb_closed at h
  obtain ⟨rfl, h⟩ := h
  rfl

theorem eb_closed_86_5 {a k x : Int32} {I I2 : px_I} {L L2 : px_L} (h : pb_closed a k I L x I2 L2) : I2 86 5 = I 86 5 := by
  unfold pb_closed at h
  obtain ⟨rfl, h⟩ := h
  rfl

theorem eb_closed_86_6 {a k x : Int32} {I I2 : px_I} {L L2 : px_L} (h : pb_closed a k I L x I2 L2) : I2 86 6 = I 86 6 := by
  unfold pb_closed at h
  obtain ⟨rfl, h⟩ := h
  rfl

theorem eb_closed_86_7 {a k x : Int32} {I I2 : px_I} {L L2 : px_L} (h : pb_closed a k I L x I2 L2) : I2 86 7 = I 86 7 := by
  unfold pb_closed at h
  obtain ⟨rfl, h⟩ := h
  rfl

theorem eb_closed_9999_r {a k x : Int32} {I I2 : px_I} {L L2 : px_L} (h : pb_closed a k I L x I2 L2) (b : Nat) (hb : (77 ≤ b ∧ b ≤ 79) ∨ 147 ≤ b) : I2 b = I b := by
  unfold pb_closed at h
  obtain ⟨rfl, h⟩ := h
  rfl

theorem ek_closed_129_r {a k x : Int32} {I I2 : px_I} {L L2 : px_L} (h : pk_closed a k I L x I2 L2) : I2 129 = I 129 := by
  unfold pk_closed at h
  exact funext fun j => h.1 129 j (by omega)

theorem ek_closed_130_r {a k x : Int32} {I I2 : px_I} {L L2 : px_L} (h : pk_closed a k I L x I2 L2) : I2 130 = I 130 := by
  unfold pk_closed at h
  exact funext fun j => h.1 130 j (by omega)

theorem ek_closed_131_r {a k x : Int32} {I I2 : px_I} {L L2 : px_L} (h : pk_closed a k I L x I2 L2) : I2 131 = I 131 := by
  unfold pk_closed at h
  exact funext fun j => h.1 131 j (by omega)

theorem ek_closed_103_47 {a k x : Int32} {I I2 : px_I} {L L2 : px_L} (h : pk_closed a k I L x I2 L2) : I2 103 47 = I 103 47 := by
  unfold pk_closed at h
  exact h.1 103 47 (by omega)

theorem ek_closed_103_48 {a k x : Int32} {I I2 : px_I} {L L2 : px_L} (h : pk_closed a k I L x I2 L2) : I2 103 48 = I 103 48 := by
  unfold pk_closed at h
  exact h.1 103 48 (by omega)

theorem ek_closed_103_49 {a k x : Int32} {I I2 : px_I} {L L2 : px_L} (h : pk_closed a k I L x I2 L2) : I2 103 49 = I 103 49 := by
  unfold pk_closed at h
  exact h.1 103 49 (by omega)

theorem ek_closed_103_50 {a k x : Int32} {I I2 : px_I} {L L2 : px_L} (h : pk_closed a k I L x I2 L2) : I2 103 50 = I 103 50 := by
  unfold pk_closed at h
  exact h.1 103 50 (by omega)

theorem ek_closed_103_51 {a k x : Int32} {I I2 : px_I} {L L2 : px_L} (h : pk_closed a k I L x I2 L2) : I2 103 51 = I 103 51 := by
  unfold pk_closed at h
  exact h.1 103 51 (by omega)

theorem eb_span_90_r {a t k h x : Int32} {I I2 : px_I} {L L2 : px_L} (h : pb_span a t k h I L x I2 L2) : I2 90 = I 90 := by
  unfold pb_span at h
  obtain ⟨rfl, h⟩ := h
  rfl

theorem eb_span_91_r {a t k h x : Int32} {I I2 : px_I} {L L2 : px_L} (h : pb_span a t k h I L x I2 L2) : I2 91 = I 91 := by
  unfold pb_span at h
  obtain ⟨rfl, h⟩ := h
  rfl

theorem eb_span_86_3 {a t k h x : Int32} {I I2 : px_I} {L L2 : px_L} (h : pb_span a t k h I L x I2 L2) : I2 86 3 = I 86 3 := by
  unfold pb_span at h
  obtain ⟨rfl, h⟩ := h
  rfl

theorem eb_span_86_4 {a t k h x : Int32} {I I2 : px_I} {L L2 : px_L} (h : pb_span a t k h I L x I2 L2) : I2 86 4 = I 86 4 := by
  unfold pb_span at h
  obtain ⟨rfl, h⟩ := h
  rfl

theorem eb_span_86_5 {a t k h x : Int32} {I I2 : px_I} {L L2 : px_L} (h : pb_span a t k h I L x I2 L2) : I2 86 5 = I 86 5 := by
  unfold pb_span at h
  obtain ⟨rfl, h⟩ := h
  rfl

theorem eb_span_86_6 {a t k h x : Int32} {I I2 : px_I} {L L2 : px_L} (h : pb_span a t k h I L x I2 L2) : I2 86 6 = I 86 6 := by
  unfold pb_span at h
  obtain ⟨rfl, h⟩ := h
  rfl

theorem eb_span_86_7 {a t k h x : Int32} {I I2 : px_I} {L L2 : px_L} (h : pb_span a t k h I L x I2 L2) : I2 86 7 = I 86 7 := by
  unfold pb_span at h
  obtain ⟨rfl, h⟩ := h
  rfl

theorem eb_span_9999_r {a t k h x : Int32} {I I2 : px_I} {L L2 : px_L} (h : pb_span a t k h I L x I2 L2) (b : Nat) (hb : (77 ≤ b ∧ b ≤ 79) ∨ 147 ≤ b) : I2 b = I b := by
  unfold pb_span at h
  obtain ⟨rfl, h⟩ := h
  rfl

theorem ek_span_129_r {a t k h x : Int32} {I I2 : px_I} {L L2 : px_L} (h : pk_span a t k h I L x I2 L2) : I2 129 = I 129 := by
  unfold pk_span at h
  exact funext fun j => h.1 129 j (by omega)

theorem ek_span_130_r {a t k h x : Int32} {I I2 : px_I} {L L2 : px_L} (h : pk_span a t k h I L x I2 L2) : I2 130 = I 130 := by
  unfold pk_span at h
  exact funext fun j => h.1 130 j (by omega)

theorem ek_span_131_r {a t k h x : Int32} {I I2 : px_I} {L L2 : px_L} (h : pk_span a t k h I L x I2 L2) : I2 131 = I 131 := by
  unfold pk_span at h
  exact funext fun j => h.1 131 j (by omega)

theorem ek_span_103_47 {a t k h x : Int32} {I I2 : px_I} {L L2 : px_L} (h : pk_span a t k h I L x I2 L2) : I2 103 47 = I 103 47 := by
  unfold pk_span at h
  exact h.1 103 47 (by omega)

theorem ek_span_103_48 {a t k h x : Int32} {I I2 : px_I} {L L2 : px_L} (h : pk_span a t k h I L x I2 L2) : I2 103 48 = I 103 48 := by
  unfold pk_span at h
  exact h.1 103 48 (by omega)

theorem ek_span_103_49 {a t k h x : Int32} {I I2 : px_I} {L L2 : px_L} (h : pk_span a t k h I L x I2 L2) : I2 103 49 = I 103 49 := by
  unfold pk_span at h
  exact h.1 103 49 (by omega)

theorem ek_span_103_50 {a t k h x : Int32} {I I2 : px_I} {L L2 : px_L} (h : pk_span a t k h I L x I2 L2) : I2 103 50 = I 103 50 := by
  unfold pk_span at h
  exact h.1 103 50 (by omega)

theorem ek_span_103_51 {a t k h x : Int32} {I I2 : px_I} {L L2 : px_L} (h : pk_span a t k h I L x I2 L2) : I2 103 51 = I 103 51 := by
  unfold pk_span at h
  exact h.1 103 51 (by omega)

theorem eb_gap_90_r {a f t k h x : Int32} {I I2 : px_I} {L L2 : px_L} (h : pb_gap a f t k h I L x I2 L2) : I2 90 = I 90 := by
  unfold pb_gap at h
  obtain ⟨rfl, h⟩ := h
  rfl

theorem eb_gap_91_r {a f t k h x : Int32} {I I2 : px_I} {L L2 : px_L} (h : pb_gap a f t k h I L x I2 L2) : I2 91 = I 91 := by
  unfold pb_gap at h
  obtain ⟨rfl, h⟩ := h
  rfl

theorem eb_gap_86_3 {a f t k h x : Int32} {I I2 : px_I} {L L2 : px_L} (h : pb_gap a f t k h I L x I2 L2) : I2 86 3 = I 86 3 := by
  unfold pb_gap at h
  obtain ⟨rfl, h⟩ := h
  rfl

theorem eb_gap_86_4 {a f t k h x : Int32} {I I2 : px_I} {L L2 : px_L} (h : pb_gap a f t k h I L x I2 L2) : I2 86 4 = I 86 4 := by
  unfold pb_gap at h
  obtain ⟨rfl, h⟩ := h
  rfl

theorem eb_gap_86_5 {a f t k h x : Int32} {I I2 : px_I} {L L2 : px_L} (h : pb_gap a f t k h I L x I2 L2) : I2 86 5 = I 86 5 := by
  unfold pb_gap at h
  obtain ⟨rfl, h⟩ := h
  rfl

theorem eb_gap_86_6 {a f t k h x : Int32} {I I2 : px_I} {L L2 : px_L} (h : pb_gap a f t k h I L x I2 L2) : I2 86 6 = I 86 6 := by
  unfold pb_gap at h
  obtain ⟨rfl, h⟩ := h
  rfl

theorem eb_gap_86_7 {a f t k h x : Int32} {I I2 : px_I} {L L2 : px_L} (h : pb_gap a f t k h I L x I2 L2) : I2 86 7 = I 86 7 := by
  unfold pb_gap at h
  obtain ⟨rfl, h⟩ := h
  rfl

theorem eb_gap_9999_r {a f t k h x : Int32} {I I2 : px_I} {L L2 : px_L} (h : pb_gap a f t k h I L x I2 L2) (b : Nat) (hb : (77 ≤ b ∧ b ≤ 79) ∨ 147 ≤ b) : I2 b = I b := by
  unfold pb_gap at h
  obtain ⟨rfl, h⟩ := h
  rfl

theorem ek_gap_129_r {a f t k h x : Int32} {I I2 : px_I} {L L2 : px_L} (h : pk_gap a f t k h I L x I2 L2) : I2 129 = I 129 := by
  unfold pk_gap at h
  exact funext fun j => h.1 129 j (by omega)

theorem ek_gap_130_r {a f t k h x : Int32} {I I2 : px_I} {L L2 : px_L} (h : pk_gap a f t k h I L x I2 L2) : I2 130 = I 130 := by
  unfold pk_gap at h
  exact funext fun j => h.1 130 j (by omega)

theorem ek_gap_131_r {a f t k h x : Int32} {I I2 : px_I} {L L2 : px_L} (h : pk_gap a f t k h I L x I2 L2) : I2 131 = I 131 := by
  unfold pk_gap at h
  exact funext fun j => h.1 131 j (by omega)

theorem ek_gap_103_47 {a f t k h x : Int32} {I I2 : px_I} {L L2 : px_L} (h : pk_gap a f t k h I L x I2 L2) : I2 103 47 = I 103 47 := by
  unfold pk_gap at h
  exact h.1 103 47 (by omega)

theorem ek_gap_103_48 {a f t k h x : Int32} {I I2 : px_I} {L L2 : px_L} (h : pk_gap a f t k h I L x I2 L2) : I2 103 48 = I 103 48 := by
  unfold pk_gap at h
  exact h.1 103 48 (by omega)

theorem ek_gap_103_49 {a f t k h x : Int32} {I I2 : px_I} {L L2 : px_L} (h : pk_gap a f t k h I L x I2 L2) : I2 103 49 = I 103 49 := by
  unfold pk_gap at h
  exact h.1 103 49 (by omega)

theorem ek_gap_103_50 {a f t k h x : Int32} {I I2 : px_I} {L L2 : px_L} (h : pk_gap a f t k h I L x I2 L2) : I2 103 50 = I 103 50 := by
  unfold pk_gap at h
  exact h.1 103 50 (by omega)

theorem ek_gap_103_51 {a f t k h x : Int32} {I I2 : px_I} {L L2 : px_L} (h : pk_gap a f t k h I L x I2 L2) : I2 103 51 = I 103 51 := by
  unfold pk_gap at h
  exact h.1 103 51 (by omega)

theorem eb_blamed_90_r {a k i x : Int32} {I I2 : px_I} {L L2 : px_L} (h : pb_blamed a k i I L x I2 L2) : I2 90 = I 90 := by
  unfold pb_blamed at h
  obtain ⟨rfl, h⟩ := h
  rfl

theorem eb_blamed_91_r {a k i x : Int32} {I I2 : px_I} {L L2 : px_L} (h : pb_blamed a k i I L x I2 L2) : I2 91 = I 91 := by
  unfold pb_blamed at h
  obtain ⟨rfl, h⟩ := h
  rfl

theorem eb_blamed_86_3 {a k i x : Int32} {I I2 : px_I} {L L2 : px_L} (h : pb_blamed a k i I L x I2 L2) : I2 86 3 = I 86 3 := by
  unfold pb_blamed at h
  obtain ⟨rfl, h⟩ := h
  rfl

theorem eb_blamed_86_4 {a k i x : Int32} {I I2 : px_I} {L L2 : px_L} (h : pb_blamed a k i I L x I2 L2) : I2 86 4 = I 86 4 := by
  unfold pb_blamed at h
  obtain ⟨rfl, h⟩ := h
  rfl

theorem eb_blamed_86_5 {a k i x : Int32} {I I2 : px_I} {L L2 : px_L} (h : pb_blamed a k i I L x I2 L2) : I2 86 5 = I 86 5 := by
  unfold pb_blamed at h
  obtain ⟨rfl, h⟩ := h
  rfl

theorem eb_blamed_86_6 {a k i x : Int32} {I I2 : px_I} {L L2 : px_L} (h : pb_blamed a k i I L x I2 L2) : I2 86 6 = I 86 6 := by
  unfold pb_blamed at h
  obtain ⟨rfl, h⟩ := h
  rfl

theorem eb_blamed_86_7 {a k i x : Int32} {I I2 : px_I} {L L2 : px_L} (h : pb_blamed a k i I L x I2 L2) : I2 86 7 = I 86 7 := by
  unfold pb_blamed at h
  obtain ⟨rfl, h⟩ := h
  rfl

theorem eb_blamed_9999_r {a k i x : Int32} {I I2 : px_I} {L L2 : px_L} (h : pb_blamed a k i I L x I2 L2) (b : Nat) (hb : (77 ≤ b ∧ b ≤ 79) ∨ 147 ≤ b) : I2 b = I b := by
  unfold pb_blamed at h
  obtain ⟨rfl, h⟩ := h
  rfl

theorem ek_blamed_129_r {a k i x : Int32} {I I2 : px_I} {L L2 : px_L} (h : pk_blamed a k i I L x I2 L2) : I2 129 = I 129 := by
  unfold pk_blamed at h
  exact funext fun j => h.1 129 j (by omega)

theorem ek_blamed_130_r {a k i x : Int32} {I I2 : px_I} {L L2 : px_L} (h : pk_blamed a k i I L x I2 L2) : I2 130 = I 130 := by
  unfold pk_blamed at h
  exact funext fun j => h.1 130 j (by omega)

theorem ek_blamed_131_r {a k i x : Int32} {I I2 : px_I} {L L2 : px_L} (h : pk_blamed a k i I L x I2 L2) : I2 131 = I 131 := by
  unfold pk_blamed at h
  exact funext fun j => h.1 131 j (by omega)

theorem ek_blamed_103_47 {a k i x : Int32} {I I2 : px_I} {L L2 : px_L} (h : pk_blamed a k i I L x I2 L2) : I2 103 47 = I 103 47 := by
  unfold pk_blamed at h
  exact h.1 103 47 (by omega)

theorem ek_blamed_103_48 {a k i x : Int32} {I I2 : px_I} {L L2 : px_L} (h : pk_blamed a k i I L x I2 L2) : I2 103 48 = I 103 48 := by
  unfold pk_blamed at h
  exact h.1 103 48 (by omega)

theorem ek_blamed_103_49 {a k i x : Int32} {I I2 : px_I} {L L2 : px_L} (h : pk_blamed a k i I L x I2 L2) : I2 103 49 = I 103 49 := by
  unfold pk_blamed at h
  exact h.1 103 49 (by omega)

theorem ek_blamed_103_50 {a k i x : Int32} {I I2 : px_I} {L L2 : px_L} (h : pk_blamed a k i I L x I2 L2) : I2 103 50 = I 103 50 := by
  unfold pk_blamed at h
  exact h.1 103 50 (by omega)

theorem ek_blamed_103_51 {a k i x : Int32} {I I2 : px_I} {L L2 : px_L} (h : pk_blamed a k i I L x I2 L2) : I2 103 51 = I 103 51 := by
  unfold pk_blamed at h
  exact h.1 103 51 (by omega)

theorem eb_reach_90_r {g lo hi sl fa w st x : Int32} {I I2 : px_I} {L L2 : px_L} (h : pb_reach g lo hi sl fa w st I L x I2 L2) : I2 90 = I 90 := by
  unfold pb_reach at h
  obtain ⟨rfl, h⟩ := h
  rcases h with ⟨G, ⟨g1, g2, g3⟩, rfl, rfl⟩ | ⟨a1, rfl, rfl⟩
  · have gG : G = 41 ∨ G = 55 := by unfold bG at g1; omega
    rw [cReach_o (by omega)]
  · rfl

theorem eb_reach_91_r {g lo hi sl fa w st x : Int32} {I I2 : px_I} {L L2 : px_L} (h : pb_reach g lo hi sl fa w st I L x I2 L2) : I2 91 = I 91 := by
  unfold pb_reach at h
  obtain ⟨rfl, h⟩ := h
  rcases h with ⟨G, ⟨g1, g2, g3⟩, rfl, rfl⟩ | ⟨a1, rfl, rfl⟩
  · have gG : G = 41 ∨ G = 55 := by unfold bG at g1; omega
    rw [cReach_o (by omega)]
  · rfl

theorem eb_reach_86_3 {g lo hi sl fa w st x : Int32} {I I2 : px_I} {L L2 : px_L} (h : pb_reach g lo hi sl fa w st I L x I2 L2) : I2 86 3 = I 86 3 := by
  unfold pb_reach at h
  obtain ⟨rfl, h⟩ := h
  rcases h with ⟨G, ⟨g1, g2, g3⟩, rfl, rfl⟩ | ⟨a1, rfl, rfl⟩
  · have gG : G = 41 ∨ G = 55 := by unfold bG at g1; omega
    rw [cReach_o (by omega)]
  · rfl

theorem eb_reach_86_4 {g lo hi sl fa w st x : Int32} {I I2 : px_I} {L L2 : px_L} (h : pb_reach g lo hi sl fa w st I L x I2 L2) : I2 86 4 = I 86 4 := by
  unfold pb_reach at h
  obtain ⟨rfl, h⟩ := h
  rcases h with ⟨G, ⟨g1, g2, g3⟩, rfl, rfl⟩ | ⟨a1, rfl, rfl⟩
  · have gG : G = 41 ∨ G = 55 := by unfold bG at g1; omega
    rw [cReach_o (by omega)]
  · rfl

theorem eb_reach_86_5 {g lo hi sl fa w st x : Int32} {I I2 : px_I} {L L2 : px_L} (h : pb_reach g lo hi sl fa w st I L x I2 L2) : I2 86 5 = I 86 5 := by
  unfold pb_reach at h
  obtain ⟨rfl, h⟩ := h
  rcases h with ⟨G, ⟨g1, g2, g3⟩, rfl, rfl⟩ | ⟨a1, rfl, rfl⟩
  · have gG : G = 41 ∨ G = 55 := by unfold bG at g1; omega
    rw [cReach_o (by omega)]
  · rfl

theorem eb_reach_86_6 {g lo hi sl fa w st x : Int32} {I I2 : px_I} {L L2 : px_L} (h : pb_reach g lo hi sl fa w st I L x I2 L2) : I2 86 6 = I 86 6 := by
  unfold pb_reach at h
  obtain ⟨rfl, h⟩ := h
  rcases h with ⟨G, ⟨g1, g2, g3⟩, rfl, rfl⟩ | ⟨a1, rfl, rfl⟩
  · have gG : G = 41 ∨ G = 55 := by unfold bG at g1; omega
    rw [cReach_o (by omega)]
  · rfl

theorem eb_reach_86_7 {g lo hi sl fa w st x : Int32} {I I2 : px_I} {L L2 : px_L} (h : pb_reach g lo hi sl fa w st I L x I2 L2) : I2 86 7 = I 86 7 := by
  unfold pb_reach at h
  obtain ⟨rfl, h⟩ := h
  rcases h with ⟨G, ⟨g1, g2, g3⟩, rfl, rfl⟩ | ⟨a1, rfl, rfl⟩
  · have gG : G = 41 ∨ G = 55 := by unfold bG at g1; omega
    rw [cReach_o (by omega)]
  · rfl

theorem eb_reach_9999_r {g lo hi sl fa w st x : Int32} {I I2 : px_I} {L L2 : px_L} (h : pb_reach g lo hi sl fa w st I L x I2 L2) (b : Nat) (hb : (77 ≤ b ∧ b ≤ 79) ∨ 147 ≤ b) : I2 b = I b := by
  unfold pb_reach at h
  obtain ⟨rfl, h⟩ := h
  rcases h with ⟨G, ⟨g1, g2, g3⟩, rfl, rfl⟩ | ⟨a1, rfl, rfl⟩
  · have gG : G = 41 ∨ G = 55 := by unfold bG at g1; omega
    rw [cReach_o (by omega)]
  · rfl

theorem ek_reach_129_r {g lo hi sl fa w st x : Int32} {I I2 : px_I} {L L2 : px_L} (h : pk_reach g lo hi sl fa w st I L x I2 L2) : I2 129 = I 129 := by
  unfold pk_reach at h
  obtain ⟨rfl, h⟩ := h
  rcases h with ⟨a1, rfl, rfl⟩ | ⟨a1, rfl, rfl⟩
  · unfold mReach; (repeat rw [px_u_ne (by omega)])
  · rfl

theorem ek_reach_130_r {g lo hi sl fa w st x : Int32} {I I2 : px_I} {L L2 : px_L} (h : pk_reach g lo hi sl fa w st I L x I2 L2) : I2 130 = I 130 := by
  unfold pk_reach at h
  obtain ⟨rfl, h⟩ := h
  rcases h with ⟨a1, rfl, rfl⟩ | ⟨a1, rfl, rfl⟩
  · unfold mReach; (repeat rw [px_u_ne (by omega)])
  · rfl

theorem ek_reach_131_r {g lo hi sl fa w st x : Int32} {I I2 : px_I} {L L2 : px_L} (h : pk_reach g lo hi sl fa w st I L x I2 L2) : I2 131 = I 131 := by
  unfold pk_reach at h
  obtain ⟨rfl, h⟩ := h
  rcases h with ⟨a1, rfl, rfl⟩ | ⟨a1, rfl, rfl⟩
  · unfold mReach; (repeat rw [px_u_ne (by omega)])
  · rfl

theorem ek_reach_103_47 {g lo hi sl fa w st x : Int32} {I I2 : px_I} {L L2 : px_L} (h : pk_reach g lo hi sl fa w st I L x I2 L2) : I2 103 47 = I 103 47 := by
  unfold pk_reach at h
  obtain ⟨rfl, h⟩ := h
  rcases h with ⟨a1, rfl, rfl⟩ | ⟨a1, rfl, rfl⟩
  · unfold mReach; (repeat rw [px_u_out (by omega)])
  · rfl

theorem ek_reach_103_48 {g lo hi sl fa w st x : Int32} {I I2 : px_I} {L L2 : px_L} (h : pk_reach g lo hi sl fa w st I L x I2 L2) : I2 103 48 = I 103 48 := by
  unfold pk_reach at h
  obtain ⟨rfl, h⟩ := h
  rcases h with ⟨a1, rfl, rfl⟩ | ⟨a1, rfl, rfl⟩
  · unfold mReach; (repeat rw [px_u_out (by omega)])
  · rfl

theorem ek_reach_103_49 {g lo hi sl fa w st x : Int32} {I I2 : px_I} {L L2 : px_L} (h : pk_reach g lo hi sl fa w st I L x I2 L2) : I2 103 49 = I 103 49 := by
  unfold pk_reach at h
  obtain ⟨rfl, h⟩ := h
  rcases h with ⟨a1, rfl, rfl⟩ | ⟨a1, rfl, rfl⟩
  · unfold mReach; (repeat rw [px_u_out (by omega)])
  · rfl

theorem ek_reach_103_50 {g lo hi sl fa w st x : Int32} {I I2 : px_I} {L L2 : px_L} (h : pk_reach g lo hi sl fa w st I L x I2 L2) : I2 103 50 = I 103 50 := by
  unfold pk_reach at h
  obtain ⟨rfl, h⟩ := h
  rcases h with ⟨a1, rfl, rfl⟩ | ⟨a1, rfl, rfl⟩
  · unfold mReach; (repeat rw [px_u_out (by omega)])
  · rfl

theorem ek_reach_103_51 {g lo hi sl fa w st x : Int32} {I I2 : px_I} {L L2 : px_L} (h : pk_reach g lo hi sl fa w st I L x I2 L2) : I2 103 51 = I 103 51 := by
  unfold pk_reach at h
  obtain ⟨rfl, h⟩ := h
  rcases h with ⟨a1, rfl, rfl⟩ | ⟨a1, rfl, rfl⟩
  · unfold mReach; (repeat rw [px_u_out (by omega)])
  · rfl

theorem eb_mouth_90_r {g st x : Int32} {I I2 : px_I} {L L2 : px_L} (h : pb_mouth g st I L x I2 L2) : I2 90 = I 90 := by
  unfold pb_mouth at h
  obtain ⟨rfl, h⟩ := h
  rcases h with ⟨G, g1, rfl⟩ | rfl
  · have gG : G = 41 ∨ G = 55 := by unfold bG at g1; omega
    (repeat rw [px_u_ne (by omega)])
  · rfl

theorem eb_mouth_91_r {g st x : Int32} {I I2 : px_I} {L L2 : px_L} (h : pb_mouth g st I L x I2 L2) : I2 91 = I 91 := by
  unfold pb_mouth at h
  obtain ⟨rfl, h⟩ := h
  rcases h with ⟨G, g1, rfl⟩ | rfl
  · have gG : G = 41 ∨ G = 55 := by unfold bG at g1; omega
    (repeat rw [px_u_ne (by omega)])
  · rfl

theorem eb_mouth_86_3 {g st x : Int32} {I I2 : px_I} {L L2 : px_L} (h : pb_mouth g st I L x I2 L2) : I2 86 3 = I 86 3 := by
  unfold pb_mouth at h
  obtain ⟨rfl, h⟩ := h
  rcases h with ⟨G, g1, rfl⟩ | rfl
  · have gG : G = 41 ∨ G = 55 := by unfold bG at g1; omega
    (repeat rw [px_u_out (by omega)])
  · rfl

theorem eb_mouth_86_4 {g st x : Int32} {I I2 : px_I} {L L2 : px_L} (h : pb_mouth g st I L x I2 L2) : I2 86 4 = I 86 4 := by
  unfold pb_mouth at h
  obtain ⟨rfl, h⟩ := h
  rcases h with ⟨G, g1, rfl⟩ | rfl
  · have gG : G = 41 ∨ G = 55 := by unfold bG at g1; omega
    (repeat rw [px_u_out (by omega)])
  · rfl

theorem eb_mouth_86_5 {g st x : Int32} {I I2 : px_I} {L L2 : px_L} (h : pb_mouth g st I L x I2 L2) : I2 86 5 = I 86 5 := by
  unfold pb_mouth at h
  obtain ⟨rfl, h⟩ := h
  rcases h with ⟨G, g1, rfl⟩ | rfl
  · have gG : G = 41 ∨ G = 55 := by unfold bG at g1; omega
    (repeat rw [px_u_out (by omega)])
  · rfl

theorem eb_mouth_86_6 {g st x : Int32} {I I2 : px_I} {L L2 : px_L} (h : pb_mouth g st I L x I2 L2) : I2 86 6 = I 86 6 := by
  unfold pb_mouth at h
  obtain ⟨rfl, h⟩ := h
  rcases h with ⟨G, g1, rfl⟩ | rfl
  · have gG : G = 41 ∨ G = 55 := by unfold bG at g1; omega
    (repeat rw [px_u_out (by omega)])
  · rfl

theorem eb_mouth_86_7 {g st x : Int32} {I I2 : px_I} {L L2 : px_L} (h : pb_mouth g st I L x I2 L2) : I2 86 7 = I 86 7 := by
  unfold pb_mouth at h
  obtain ⟨rfl, h⟩ := h
  rcases h with ⟨G, g1, rfl⟩ | rfl
  · have gG : G = 41 ∨ G = 55 := by unfold bG at g1; omega
    (repeat rw [px_u_out (by omega)])
  · rfl

theorem eb_mouth_9999_r {g st x : Int32} {I I2 : px_I} {L L2 : px_L} (h : pb_mouth g st I L x I2 L2) (b : Nat) (hb : (77 ≤ b ∧ b ≤ 79) ∨ 147 ≤ b) : I2 b = I b := by
  unfold pb_mouth at h
  obtain ⟨rfl, h⟩ := h
  rcases h with ⟨G, g1, rfl⟩ | rfl
  · have gG : G = 41 ∨ G = 55 := by unfold bG at g1; omega
    (repeat rw [px_u_ne (by omega)])
  · rfl

theorem ek_mouth_129_r {g st x : Int32} {I I2 : px_I} {L L2 : px_L} (h : pk_mouth g st I L x I2 L2) : I2 129 = I 129 := by
  unfold pk_mouth at h
  obtain ⟨rfl, h⟩ := h
  rcases h with ⟨a1, a2, rfl, rfl⟩ | ⟨a1, rfl, rfl⟩
  · (repeat rw [px_u_ne (by omega)])
  · rfl

theorem ek_mouth_130_r {g st x : Int32} {I I2 : px_I} {L L2 : px_L} (h : pk_mouth g st I L x I2 L2) : I2 130 = I 130 := by
  unfold pk_mouth at h
  obtain ⟨rfl, h⟩ := h
  rcases h with ⟨a1, a2, rfl, rfl⟩ | ⟨a1, rfl, rfl⟩
  · (repeat rw [px_u_ne (by omega)])
  · rfl

theorem ek_mouth_131_r {g st x : Int32} {I I2 : px_I} {L L2 : px_L} (h : pk_mouth g st I L x I2 L2) : I2 131 = I 131 := by
  unfold pk_mouth at h
  obtain ⟨rfl, h⟩ := h
  rcases h with ⟨a1, a2, rfl, rfl⟩ | ⟨a1, rfl, rfl⟩
  · (repeat rw [px_u_ne (by omega)])
  · rfl

theorem ek_mouth_103_47 {g st x : Int32} {I I2 : px_I} {L L2 : px_L} (h : pk_mouth g st I L x I2 L2) : I2 103 47 = I 103 47 := by
  unfold pk_mouth at h
  obtain ⟨rfl, h⟩ := h
  rcases h with ⟨a1, a2, rfl, rfl⟩ | ⟨a1, rfl, rfl⟩
  · (repeat rw [px_u_out (by omega)])
  · rfl

theorem ek_mouth_103_48 {g st x : Int32} {I I2 : px_I} {L L2 : px_L} (h : pk_mouth g st I L x I2 L2) : I2 103 48 = I 103 48 := by
  unfold pk_mouth at h
  obtain ⟨rfl, h⟩ := h
  rcases h with ⟨a1, a2, rfl, rfl⟩ | ⟨a1, rfl, rfl⟩
  · (repeat rw [px_u_out (by omega)])
  · rfl

theorem ek_mouth_103_49 {g st x : Int32} {I I2 : px_I} {L L2 : px_L} (h : pk_mouth g st I L x I2 L2) : I2 103 49 = I 103 49 := by
  unfold pk_mouth at h
  obtain ⟨rfl, h⟩ := h
  rcases h with ⟨a1, a2, rfl, rfl⟩ | ⟨a1, rfl, rfl⟩
  · (repeat rw [px_u_out (by omega)])
  · rfl

theorem ek_mouth_103_50 {g st x : Int32} {I I2 : px_I} {L L2 : px_L} (h : pk_mouth g st I L x I2 L2) : I2 103 50 = I 103 50 := by
  unfold pk_mouth at h
  obtain ⟨rfl, h⟩ := h
  rcases h with ⟨a1, a2, rfl, rfl⟩ | ⟨a1, rfl, rfl⟩
  · (repeat rw [px_u_out (by omega)])
  · rfl

theorem ek_mouth_103_51 {g st x : Int32} {I I2 : px_I} {L L2 : px_L} (h : pk_mouth g st I L x I2 L2) : I2 103 51 = I 103 51 := by
  unfold pk_mouth at h
  obtain ⟨rfl, h⟩ := h
  rcases h with ⟨a1, a2, rfl, rfl⟩ | ⟨a1, rfl, rfl⟩
  · (repeat rw [px_u_out (by omega)])
  · rfl

theorem eb_mark_90_r {g p f t x : Int32} {I I2 : px_I} {L L2 : px_L} (h : pb_mark g p f t I L x I2 L2) : I2 90 = I 90 := by
  unfold pb_mark at h
  obtain ⟨rfl, h⟩ := h
  rcases h with ⟨G, g1, rfl, rfl⟩ | ⟨a1, rfl, rfl⟩
  · have g2 := g1.1
    have gG : G = 41 ∨ G = 55 := by unfold bG at g2; omega
    unfold cMark; (repeat rw [px_u_ne (by omega)])
  · rfl

theorem eb_mark_91_r {g p f t x : Int32} {I I2 : px_I} {L L2 : px_L} (h : pb_mark g p f t I L x I2 L2) : I2 91 = I 91 := by
  unfold pb_mark at h
  obtain ⟨rfl, h⟩ := h
  rcases h with ⟨G, g1, rfl, rfl⟩ | ⟨a1, rfl, rfl⟩
  · have g2 := g1.1
    have gG : G = 41 ∨ G = 55 := by unfold bG at g2; omega
    unfold cMark; (repeat rw [px_u_ne (by omega)])
  · rfl

theorem eb_mark_86_3 {g p f t x : Int32} {I I2 : px_I} {L L2 : px_L} (h : pb_mark g p f t I L x I2 L2) : I2 86 3 = I 86 3 := by
  unfold pb_mark at h
  obtain ⟨rfl, h⟩ := h
  rcases h with ⟨G, g1, rfl, rfl⟩ | ⟨a1, rfl, rfl⟩
  · have g2 := g1.1
    have gG : G = 41 ∨ G = 55 := by unfold bG at g2; omega
    unfold cMark; (repeat rw [px_u_out (by omega)])
  · rfl

theorem eb_mark_86_4 {g p f t x : Int32} {I I2 : px_I} {L L2 : px_L} (h : pb_mark g p f t I L x I2 L2) : I2 86 4 = I 86 4 := by
  unfold pb_mark at h
  obtain ⟨rfl, h⟩ := h
  rcases h with ⟨G, g1, rfl, rfl⟩ | ⟨a1, rfl, rfl⟩
  · have g2 := g1.1
    have gG : G = 41 ∨ G = 55 := by unfold bG at g2; omega
    unfold cMark; (repeat rw [px_u_out (by omega)])
  · rfl

theorem eb_mark_86_5 {g p f t x : Int32} {I I2 : px_I} {L L2 : px_L} (h : pb_mark g p f t I L x I2 L2) : I2 86 5 = I 86 5 := by
  unfold pb_mark at h
  obtain ⟨rfl, h⟩ := h
  rcases h with ⟨G, g1, rfl, rfl⟩ | ⟨a1, rfl, rfl⟩
  · have g2 := g1.1
    have gG : G = 41 ∨ G = 55 := by unfold bG at g2; omega
    unfold cMark; (repeat rw [px_u_out (by omega)])
  · rfl

theorem eb_mark_86_6 {g p f t x : Int32} {I I2 : px_I} {L L2 : px_L} (h : pb_mark g p f t I L x I2 L2) : I2 86 6 = I 86 6 := by
  unfold pb_mark at h
  obtain ⟨rfl, h⟩ := h
  rcases h with ⟨G, g1, rfl, rfl⟩ | ⟨a1, rfl, rfl⟩
  · have g2 := g1.1
    have gG : G = 41 ∨ G = 55 := by unfold bG at g2; omega
    unfold cMark; (repeat rw [px_u_out (by omega)])
  · rfl

theorem eb_mark_86_7 {g p f t x : Int32} {I I2 : px_I} {L L2 : px_L} (h : pb_mark g p f t I L x I2 L2) : I2 86 7 = I 86 7 := by
  unfold pb_mark at h
  obtain ⟨rfl, h⟩ := h
  rcases h with ⟨G, g1, rfl, rfl⟩ | ⟨a1, rfl, rfl⟩
  · have g2 := g1.1
    have gG : G = 41 ∨ G = 55 := by unfold bG at g2; omega
    unfold cMark; (repeat rw [px_u_out (by omega)])
  · rfl

theorem eb_mark_9999_r {g p f t x : Int32} {I I2 : px_I} {L L2 : px_L} (h : pb_mark g p f t I L x I2 L2) (b : Nat) (hb : (77 ≤ b ∧ b ≤ 79) ∨ 147 ≤ b) : I2 b = I b := by
  unfold pb_mark at h
  obtain ⟨rfl, h⟩ := h
  rcases h with ⟨G, g1, rfl, rfl⟩ | ⟨a1, rfl, rfl⟩
  · have g2 := g1.1
    have gG : G = 41 ∨ G = 55 := by unfold bG at g2; omega
    unfold cMark; (repeat rw [px_u_ne (by omega)])
  · rfl

theorem ek_mark_129_r {g p f t x : Int32} {I I2 : px_I} {L L2 : px_L} (h : pk_mark g p f t I L x I2 L2) : I2 129 = I 129 := by
  unfold pk_mark at h
  obtain ⟨rfl, h⟩ := h
  rcases h with ⟨a1, rfl, rfl⟩ | ⟨a1, rfl, rfl⟩
  · unfold mMark; (repeat rw [px_u_ne (by omega)])
  · rfl

theorem ek_mark_130_r {g p f t x : Int32} {I I2 : px_I} {L L2 : px_L} (h : pk_mark g p f t I L x I2 L2) : I2 130 = I 130 := by
  unfold pk_mark at h
  obtain ⟨rfl, h⟩ := h
  rcases h with ⟨a1, rfl, rfl⟩ | ⟨a1, rfl, rfl⟩
  · unfold mMark; (repeat rw [px_u_ne (by omega)])
  · rfl

theorem ek_mark_131_r {g p f t x : Int32} {I I2 : px_I} {L L2 : px_L} (h : pk_mark g p f t I L x I2 L2) : I2 131 = I 131 := by
  unfold pk_mark at h
  obtain ⟨rfl, h⟩ := h
  rcases h with ⟨a1, rfl, rfl⟩ | ⟨a1, rfl, rfl⟩
  · unfold mMark; (repeat rw [px_u_ne (by omega)])
  · rfl

theorem ek_mark_103_47 {g p f t x : Int32} {I I2 : px_I} {L L2 : px_L} (h : pk_mark g p f t I L x I2 L2) : I2 103 47 = I 103 47 := by
  unfold pk_mark at h
  obtain ⟨rfl, h⟩ := h
  rcases h with ⟨a1, rfl, rfl⟩ | ⟨a1, rfl, rfl⟩
  · unfold mMark; (repeat rw [px_u_out (by omega)])
  · rfl

theorem ek_mark_103_48 {g p f t x : Int32} {I I2 : px_I} {L L2 : px_L} (h : pk_mark g p f t I L x I2 L2) : I2 103 48 = I 103 48 := by
  unfold pk_mark at h
  obtain ⟨rfl, h⟩ := h
  rcases h with ⟨a1, rfl, rfl⟩ | ⟨a1, rfl, rfl⟩
  · unfold mMark; (repeat rw [px_u_out (by omega)])
  · rfl

theorem ek_mark_103_49 {g p f t x : Int32} {I I2 : px_I} {L L2 : px_L} (h : pk_mark g p f t I L x I2 L2) : I2 103 49 = I 103 49 := by
  unfold pk_mark at h
  obtain ⟨rfl, h⟩ := h
  rcases h with ⟨a1, rfl, rfl⟩ | ⟨a1, rfl, rfl⟩
  · unfold mMark; (repeat rw [px_u_out (by omega)])
  · rfl

theorem ek_mark_103_50 {g p f t x : Int32} {I I2 : px_I} {L L2 : px_L} (h : pk_mark g p f t I L x I2 L2) : I2 103 50 = I 103 50 := by
  unfold pk_mark at h
  obtain ⟨rfl, h⟩ := h
  rcases h with ⟨a1, rfl, rfl⟩ | ⟨a1, rfl, rfl⟩
  · unfold mMark; (repeat rw [px_u_out (by omega)])
  · rfl

theorem ek_mark_103_51 {g p f t x : Int32} {I I2 : px_I} {L L2 : px_L} (h : pk_mark g p f t I L x I2 L2) : I2 103 51 = I 103 51 := by
  unfold pk_mark at h
  obtain ⟨rfl, h⟩ := h
  rcases h with ⟨a1, rfl, rfl⟩ | ⟨a1, rfl, rfl⟩
  · unfold mMark; (repeat rw [px_u_out (by omega)])
  · rfl

theorem eb_when_90_r {g p h x : Int32} {I I2 : px_I} {L L2 : px_L} (h : pb_when g p h I L x I2 L2) : I2 90 = I 90 := by
  unfold pb_when at h
  obtain ⟨rfl, h⟩ := h
  rw [h 90 (by decide) (by decide) (by decide) (by decide)]

theorem eb_when_91_r {g p h x : Int32} {I I2 : px_I} {L L2 : px_L} (h : pb_when g p h I L x I2 L2) : I2 91 = I 91 := by
  unfold pb_when at h
  obtain ⟨rfl, h⟩ := h
  rw [h 91 (by decide) (by decide) (by decide) (by decide)]

theorem eb_when_86_3 {g p h x : Int32} {I I2 : px_I} {L L2 : px_L} (h : pb_when g p h I L x I2 L2) : I2 86 3 = I 86 3 := by
  unfold pb_when at h
  obtain ⟨rfl, h⟩ := h
  rw [h 86 (by decide) (by decide) (by decide) (by decide)]

theorem eb_when_86_4 {g p h x : Int32} {I I2 : px_I} {L L2 : px_L} (h : pb_when g p h I L x I2 L2) : I2 86 4 = I 86 4 := by
  unfold pb_when at h
  obtain ⟨rfl, h⟩ := h
  rw [h 86 (by decide) (by decide) (by decide) (by decide)]

theorem eb_when_86_5 {g p h x : Int32} {I I2 : px_I} {L L2 : px_L} (h : pb_when g p h I L x I2 L2) : I2 86 5 = I 86 5 := by
  unfold pb_when at h
  obtain ⟨rfl, h⟩ := h
  rw [h 86 (by decide) (by decide) (by decide) (by decide)]

theorem eb_when_86_6 {g p h x : Int32} {I I2 : px_I} {L L2 : px_L} (h : pb_when g p h I L x I2 L2) : I2 86 6 = I 86 6 := by
  unfold pb_when at h
  obtain ⟨rfl, h⟩ := h
  rw [h 86 (by decide) (by decide) (by decide) (by decide)]

theorem eb_when_86_7 {g p h x : Int32} {I I2 : px_I} {L L2 : px_L} (h : pb_when g p h I L x I2 L2) : I2 86 7 = I 86 7 := by
  unfold pb_when at h
  obtain ⟨rfl, h⟩ := h
  rw [h 86 (by decide) (by decide) (by decide) (by decide)]

theorem eb_when_9999_r {g p h x : Int32} {I I2 : px_I} {L L2 : px_L} (h : pb_when g p h I L x I2 L2) (b : Nat) (hb : (77 ≤ b ∧ b ≤ 79) ∨ 147 ≤ b) : I2 b = I b := by
  unfold pb_when at h
  obtain ⟨rfl, h⟩ := h
  rw [h b (by omega) (by omega) (by omega) (by omega)]

theorem ek_when_129_r {g p h x : Int32} {I I2 : px_I} {L L2 : px_L} (h : pk_when g p h I L x I2 L2) : I2 129 = I 129 := by
  unfold pk_when at h
  exact funext fun j => h.1 129 j (by omega)

theorem ek_when_130_r {g p h x : Int32} {I I2 : px_I} {L L2 : px_L} (h : pk_when g p h I L x I2 L2) : I2 130 = I 130 := by
  unfold pk_when at h
  exact funext fun j => h.1 130 j (by omega)

theorem ek_when_131_r {g p h x : Int32} {I I2 : px_I} {L L2 : px_L} (h : pk_when g p h I L x I2 L2) : I2 131 = I 131 := by
  unfold pk_when at h
  exact funext fun j => h.1 131 j (by omega)

theorem ek_when_103_47 {g p h x : Int32} {I I2 : px_I} {L L2 : px_L} (h : pk_when g p h I L x I2 L2) : I2 103 47 = I 103 47 := by
  unfold pk_when at h
  exact h.1 103 47 (by omega)

theorem ek_when_103_48 {g p h x : Int32} {I I2 : px_I} {L L2 : px_L} (h : pk_when g p h I L x I2 L2) : I2 103 48 = I 103 48 := by
  unfold pk_when at h
  exact h.1 103 48 (by omega)

theorem ek_when_103_49 {g p h x : Int32} {I I2 : px_I} {L L2 : px_L} (h : pk_when g p h I L x I2 L2) : I2 103 49 = I 103 49 := by
  unfold pk_when at h
  exact h.1 103 49 (by omega)

theorem ek_when_103_50 {g p h x : Int32} {I I2 : px_I} {L L2 : px_L} (h : pk_when g p h I L x I2 L2) : I2 103 50 = I 103 50 := by
  unfold pk_when at h
  exact h.1 103 50 (by omega)

theorem ek_when_103_51 {g p h x : Int32} {I I2 : px_I} {L L2 : px_L} (h : pk_when g p h I L x I2 L2) : I2 103 51 = I 103 51 := by
  unfold pk_when at h
  exact h.1 103 51 (by omega)

theorem eb_between_90_r {g p q h x : Int32} {I I2 : px_I} {L L2 : px_L} (h : pb_between g p q h I L x I2 L2) : I2 90 = I 90 := by
  unfold pb_between at h
  obtain ⟨rfl, h⟩ := h
  rw [h 90 (by decide) (by decide) (by decide) (by decide)]

theorem eb_between_91_r {g p q h x : Int32} {I I2 : px_I} {L L2 : px_L} (h : pb_between g p q h I L x I2 L2) : I2 91 = I 91 := by
  unfold pb_between at h
  obtain ⟨rfl, h⟩ := h
  rw [h 91 (by decide) (by decide) (by decide) (by decide)]

theorem eb_between_86_3 {g p q h x : Int32} {I I2 : px_I} {L L2 : px_L} (h : pb_between g p q h I L x I2 L2) : I2 86 3 = I 86 3 := by
  unfold pb_between at h
  obtain ⟨rfl, h⟩ := h
  rw [h 86 (by decide) (by decide) (by decide) (by decide)]

theorem eb_between_86_4 {g p q h x : Int32} {I I2 : px_I} {L L2 : px_L} (h : pb_between g p q h I L x I2 L2) : I2 86 4 = I 86 4 := by
  unfold pb_between at h
  obtain ⟨rfl, h⟩ := h
  rw [h 86 (by decide) (by decide) (by decide) (by decide)]

theorem eb_between_86_5 {g p q h x : Int32} {I I2 : px_I} {L L2 : px_L} (h : pb_between g p q h I L x I2 L2) : I2 86 5 = I 86 5 := by
  unfold pb_between at h
  obtain ⟨rfl, h⟩ := h
  rw [h 86 (by decide) (by decide) (by decide) (by decide)]

theorem eb_between_86_6 {g p q h x : Int32} {I I2 : px_I} {L L2 : px_L} (h : pb_between g p q h I L x I2 L2) : I2 86 6 = I 86 6 := by
  unfold pb_between at h
  obtain ⟨rfl, h⟩ := h
  rw [h 86 (by decide) (by decide) (by decide) (by decide)]

theorem eb_between_86_7 {g p q h x : Int32} {I I2 : px_I} {L L2 : px_L} (h : pb_between g p q h I L x I2 L2) : I2 86 7 = I 86 7 := by
  unfold pb_between at h
  obtain ⟨rfl, h⟩ := h
  rw [h 86 (by decide) (by decide) (by decide) (by decide)]

theorem eb_between_9999_r {g p q h x : Int32} {I I2 : px_I} {L L2 : px_L} (h : pb_between g p q h I L x I2 L2) (b : Nat) (hb : (77 ≤ b ∧ b ≤ 79) ∨ 147 ≤ b) : I2 b = I b := by
  unfold pb_between at h
  obtain ⟨rfl, h⟩ := h
  rw [h b (by omega) (by omega) (by omega) (by omega)]

theorem ek_between_129_r {g p t h x : Int32} {I I2 : px_I} {L L2 : px_L} (h : pk_between g p t h I L x I2 L2) : I2 129 = I 129 := by
  unfold pk_between at h
  exact funext fun j => h.1 129 j (by omega)

theorem ek_between_130_r {g p t h x : Int32} {I I2 : px_I} {L L2 : px_L} (h : pk_between g p t h I L x I2 L2) : I2 130 = I 130 := by
  unfold pk_between at h
  exact funext fun j => h.1 130 j (by omega)

theorem ek_between_131_r {g p t h x : Int32} {I I2 : px_I} {L L2 : px_L} (h : pk_between g p t h I L x I2 L2) : I2 131 = I 131 := by
  unfold pk_between at h
  exact funext fun j => h.1 131 j (by omega)

theorem ek_between_103_47 {g p t h x : Int32} {I I2 : px_I} {L L2 : px_L} (h : pk_between g p t h I L x I2 L2) : I2 103 47 = I 103 47 := by
  unfold pk_between at h
  exact h.1 103 47 (by omega)

theorem ek_between_103_48 {g p t h x : Int32} {I I2 : px_I} {L L2 : px_L} (h : pk_between g p t h I L x I2 L2) : I2 103 48 = I 103 48 := by
  unfold pk_between at h
  exact h.1 103 48 (by omega)

theorem ek_between_103_49 {g p t h x : Int32} {I I2 : px_I} {L L2 : px_L} (h : pk_between g p t h I L x I2 L2) : I2 103 49 = I 103 49 := by
  unfold pk_between at h
  exact h.1 103 49 (by omega)

theorem ek_between_103_50 {g p t h x : Int32} {I I2 : px_I} {L L2 : px_L} (h : pk_between g p t h I L x I2 L2) : I2 103 50 = I 103 50 := by
  unfold pk_between at h
  exact h.1 103 50 (by omega)

theorem ek_between_103_51 {g p t h x : Int32} {I I2 : px_I} {L L2 : px_L} (h : pk_between g p t h I L x I2 L2) : I2 103 51 = I 103 51 := by
  unfold pk_between at h
  exact h.1 103 51 (by omega)

theorem eb_lamps_90_r {g p h lo hi x : Int32} {I I2 : px_I} {L L2 : px_L} (h : pb_lamps g p h lo hi I L x I2 L2) : I2 90 = I 90 := by
  unfold pb_lamps at h
  rw [h.1]

theorem eb_lamps_91_r {g p h lo hi x : Int32} {I I2 : px_I} {L L2 : px_L} (h : pb_lamps g p h lo hi I L x I2 L2) : I2 91 = I 91 := by
  unfold pb_lamps at h
  rw [h.1]

theorem eb_lamps_86_3 {g p h lo hi x : Int32} {I I2 : px_I} {L L2 : px_L} (h : pb_lamps g p h lo hi I L x I2 L2) : I2 86 3 = I 86 3 := by
  unfold pb_lamps at h
  rw [h.1]

theorem eb_lamps_86_4 {g p h lo hi x : Int32} {I I2 : px_I} {L L2 : px_L} (h : pb_lamps g p h lo hi I L x I2 L2) : I2 86 4 = I 86 4 := by
  unfold pb_lamps at h
  rw [h.1]

theorem eb_lamps_86_5 {g p h lo hi x : Int32} {I I2 : px_I} {L L2 : px_L} (h : pb_lamps g p h lo hi I L x I2 L2) : I2 86 5 = I 86 5 := by
  unfold pb_lamps at h
  rw [h.1]

theorem eb_lamps_86_6 {g p h lo hi x : Int32} {I I2 : px_I} {L L2 : px_L} (h : pb_lamps g p h lo hi I L x I2 L2) : I2 86 6 = I 86 6 := by
  unfold pb_lamps at h
  rw [h.1]

theorem eb_lamps_86_7 {g p h lo hi x : Int32} {I I2 : px_I} {L L2 : px_L} (h : pb_lamps g p h lo hi I L x I2 L2) : I2 86 7 = I 86 7 := by
  unfold pb_lamps at h
  rw [h.1]

theorem eb_lamps_9999_r {g p h lo hi x : Int32} {I I2 : px_I} {L L2 : px_L} (h : pb_lamps g p h lo hi I L x I2 L2) (b : Nat) (hb : (77 ≤ b ∧ b ≤ 79) ∨ 147 ≤ b) : I2 b = I b := by
  unfold pb_lamps at h
  rw [h.1]

theorem ek_lamps_129_r {g p h lo hi x : Int32} {I I2 : px_I} {L L2 : px_L} (h : pk_lamps g p h lo hi I L x I2 L2) : I2 129 = I 129 := by
  unfold pk_lamps at h
  rw [h.1]

theorem ek_lamps_130_r {g p h lo hi x : Int32} {I I2 : px_I} {L L2 : px_L} (h : pk_lamps g p h lo hi I L x I2 L2) : I2 130 = I 130 := by
  unfold pk_lamps at h
  rw [h.1]

theorem ek_lamps_131_r {g p h lo hi x : Int32} {I I2 : px_I} {L L2 : px_L} (h : pk_lamps g p h lo hi I L x I2 L2) : I2 131 = I 131 := by
  unfold pk_lamps at h
  rw [h.1]

theorem ek_lamps_103_47 {g p h lo hi x : Int32} {I I2 : px_I} {L L2 : px_L} (h : pk_lamps g p h lo hi I L x I2 L2) : I2 103 47 = I 103 47 := by
  unfold pk_lamps at h
  rw [h.1]

theorem ek_lamps_103_48 {g p h lo hi x : Int32} {I I2 : px_I} {L L2 : px_L} (h : pk_lamps g p h lo hi I L x I2 L2) : I2 103 48 = I 103 48 := by
  unfold pk_lamps at h
  rw [h.1]

theorem ek_lamps_103_49 {g p h lo hi x : Int32} {I I2 : px_I} {L L2 : px_L} (h : pk_lamps g p h lo hi I L x I2 L2) : I2 103 49 = I 103 49 := by
  unfold pk_lamps at h
  rw [h.1]

theorem ek_lamps_103_50 {g p h lo hi x : Int32} {I I2 : px_I} {L L2 : px_L} (h : pk_lamps g p h lo hi I L x I2 L2) : I2 103 50 = I 103 50 := by
  unfold pk_lamps at h
  rw [h.1]

theorem ek_lamps_103_51 {g p h lo hi x : Int32} {I I2 : px_I} {L L2 : px_L} (h : pk_lamps g p h lo hi I L x I2 L2) : I2 103 51 = I 103 51 := by
  unfold pk_lamps at h
  rw [h.1]

theorem eb_count_90_r {u lo hi x : Int32} {I I2 : px_I} {L L2 : px_L} (h : pb_count u lo hi I L x I2 L2) : I2 90 = I 90 := by
  unfold pb_count at h
  obtain ⟨rfl, h⟩ := h
  rcases h with ⟨a1, rfl, rfl⟩ | ⟨a1, rfl, rfl⟩
  · (repeat rw [px_u_ne (by omega)])
  · rfl

theorem eb_count_91_r {u lo hi x : Int32} {I I2 : px_I} {L L2 : px_L} (h : pb_count u lo hi I L x I2 L2) : I2 91 = I 91 := by
  unfold pb_count at h
  obtain ⟨rfl, h⟩ := h
  rcases h with ⟨a1, rfl, rfl⟩ | ⟨a1, rfl, rfl⟩
  · (repeat rw [px_u_ne (by omega)])
  · rfl

theorem eb_count_86_3 {u lo hi x : Int32} {I I2 : px_I} {L L2 : px_L} (h : pb_count u lo hi I L x I2 L2) : I2 86 3 = I 86 3 := by
  unfold pb_count at h
  obtain ⟨rfl, h⟩ := h
  rcases h with ⟨a1, rfl, rfl⟩ | ⟨a1, rfl, rfl⟩
  · (repeat rw [px_u_out (by omega)])
  · rfl

theorem eb_count_86_4 {u lo hi x : Int32} {I I2 : px_I} {L L2 : px_L} (h : pb_count u lo hi I L x I2 L2) : I2 86 4 = I 86 4 := by
  unfold pb_count at h
  obtain ⟨rfl, h⟩ := h
  rcases h with ⟨a1, rfl, rfl⟩ | ⟨a1, rfl, rfl⟩
  · (repeat rw [px_u_out (by omega)])
  · rfl

theorem eb_count_86_5 {u lo hi x : Int32} {I I2 : px_I} {L L2 : px_L} (h : pb_count u lo hi I L x I2 L2) : I2 86 5 = I 86 5 := by
  unfold pb_count at h
  obtain ⟨rfl, h⟩ := h
  rcases h with ⟨a1, rfl, rfl⟩ | ⟨a1, rfl, rfl⟩
  · (repeat rw [px_u_out (by omega)])
  · rfl

theorem eb_count_86_6 {u lo hi x : Int32} {I I2 : px_I} {L L2 : px_L} (h : pb_count u lo hi I L x I2 L2) : I2 86 6 = I 86 6 := by
  unfold pb_count at h
  obtain ⟨rfl, h⟩ := h
  rcases h with ⟨a1, rfl, rfl⟩ | ⟨a1, rfl, rfl⟩
  · (repeat rw [px_u_out (by omega)])
  · rfl

theorem eb_count_86_7 {u lo hi x : Int32} {I I2 : px_I} {L L2 : px_L} (h : pb_count u lo hi I L x I2 L2) : I2 86 7 = I 86 7 := by
  unfold pb_count at h
  obtain ⟨rfl, h⟩ := h
  rcases h with ⟨a1, rfl, rfl⟩ | ⟨a1, rfl, rfl⟩
  · (repeat rw [px_u_out (by omega)])
  · rfl

theorem eb_count_9999_r {u lo hi x : Int32} {I I2 : px_I} {L L2 : px_L} (h : pb_count u lo hi I L x I2 L2) (b : Nat) (hb : (77 ≤ b ∧ b ≤ 79) ∨ 147 ≤ b) : I2 b = I b := by
  unfold pb_count at h
  obtain ⟨rfl, h⟩ := h
  rcases h with ⟨a1, rfl, rfl⟩ | ⟨a1, rfl, rfl⟩
  · (repeat rw [px_u_ne (by omega)])
  · rfl

theorem ek_count_129_r {u lo hi x : Int32} {I I2 : px_I} {L L2 : px_L} (h : pk_count u lo hi I L x I2 L2) : I2 129 = I 129 := by
  unfold pk_count at h
  rcases h with ⟨a1, rfl, rfl, rfl⟩ | ⟨a1, rfl, rfl, rfl⟩
  · (repeat rw [px_u_ne (by omega)])
  · rfl

theorem ek_count_130_r {u lo hi x : Int32} {I I2 : px_I} {L L2 : px_L} (h : pk_count u lo hi I L x I2 L2) : I2 130 = I 130 := by
  unfold pk_count at h
  rcases h with ⟨a1, rfl, rfl, rfl⟩ | ⟨a1, rfl, rfl, rfl⟩
  · (repeat rw [px_u_ne (by omega)])
  · rfl

theorem ek_count_131_r {u lo hi x : Int32} {I I2 : px_I} {L L2 : px_L} (h : pk_count u lo hi I L x I2 L2) : I2 131 = I 131 := by
  unfold pk_count at h
  rcases h with ⟨a1, rfl, rfl, rfl⟩ | ⟨a1, rfl, rfl, rfl⟩
  · (repeat rw [px_u_ne (by omega)])
  · rfl

theorem ek_count_103_47 {u lo hi x : Int32} {I I2 : px_I} {L L2 : px_L} (h : pk_count u lo hi I L x I2 L2) : I2 103 47 = I 103 47 := by
  unfold pk_count at h
  rcases h with ⟨a1, rfl, rfl, rfl⟩ | ⟨a1, rfl, rfl, rfl⟩
  · (repeat rw [px_u_out (by omega)])
  · rfl

theorem ek_count_103_48 {u lo hi x : Int32} {I I2 : px_I} {L L2 : px_L} (h : pk_count u lo hi I L x I2 L2) : I2 103 48 = I 103 48 := by
  unfold pk_count at h
  rcases h with ⟨a1, rfl, rfl, rfl⟩ | ⟨a1, rfl, rfl, rfl⟩
  · (repeat rw [px_u_out (by omega)])
  · rfl

theorem ek_count_103_49 {u lo hi x : Int32} {I I2 : px_I} {L L2 : px_L} (h : pk_count u lo hi I L x I2 L2) : I2 103 49 = I 103 49 := by
  unfold pk_count at h
  rcases h with ⟨a1, rfl, rfl, rfl⟩ | ⟨a1, rfl, rfl, rfl⟩
  · (repeat rw [px_u_out (by omega)])
  · rfl

theorem ek_count_103_50 {u lo hi x : Int32} {I I2 : px_I} {L L2 : px_L} (h : pk_count u lo hi I L x I2 L2) : I2 103 50 = I 103 50 := by
  unfold pk_count at h
  rcases h with ⟨a1, rfl, rfl, rfl⟩ | ⟨a1, rfl, rfl, rfl⟩
  · (repeat rw [px_u_out (by omega)])
  · rfl

theorem ek_count_103_51 {u lo hi x : Int32} {I I2 : px_I} {L L2 : px_L} (h : pk_count u lo hi I L x I2 L2) : I2 103 51 = I 103 51 := by
  unfold pk_count at h
  rcases h with ⟨a1, rfl, rfl, rfl⟩ | ⟨a1, rfl, rfl, rfl⟩
  · (repeat rw [px_u_out (by omega)])
  · rfl

theorem eb_unit_90_r {h x : Int32} {I I2 : px_I} {L L2 : px_L} (h : pb_unit h I L x I2 L2) : I2 90 = I 90 := by
  unfold pb_unit at h
  rw [h.1]

theorem eb_unit_91_r {h x : Int32} {I I2 : px_I} {L L2 : px_L} (h : pb_unit h I L x I2 L2) : I2 91 = I 91 := by
  unfold pb_unit at h
  rw [h.1]

theorem eb_unit_86_3 {h x : Int32} {I I2 : px_I} {L L2 : px_L} (h : pb_unit h I L x I2 L2) : I2 86 3 = I 86 3 := by
  unfold pb_unit at h
  rw [h.1]

theorem eb_unit_86_4 {h x : Int32} {I I2 : px_I} {L L2 : px_L} (h : pb_unit h I L x I2 L2) : I2 86 4 = I 86 4 := by
  unfold pb_unit at h
  rw [h.1]

theorem eb_unit_86_5 {h x : Int32} {I I2 : px_I} {L L2 : px_L} (h : pb_unit h I L x I2 L2) : I2 86 5 = I 86 5 := by
  unfold pb_unit at h
  rw [h.1]

theorem eb_unit_86_6 {h x : Int32} {I I2 : px_I} {L L2 : px_L} (h : pb_unit h I L x I2 L2) : I2 86 6 = I 86 6 := by
  unfold pb_unit at h
  rw [h.1]

theorem eb_unit_86_7 {h x : Int32} {I I2 : px_I} {L L2 : px_L} (h : pb_unit h I L x I2 L2) : I2 86 7 = I 86 7 := by
  unfold pb_unit at h
  rw [h.1]

theorem eb_unit_9999_r {h x : Int32} {I I2 : px_I} {L L2 : px_L} (h : pb_unit h I L x I2 L2) (b : Nat) (hb : (77 ≤ b ∧ b ≤ 79) ∨ 147 ≤ b) : I2 b = I b := by
  unfold pb_unit at h
  rw [h.1]

theorem ek_unit_129_r {h x : Int32} {I I2 : px_I} {L L2 : px_L} (h : pk_unit h I L x I2 L2) : I2 129 = I 129 := by
  unfold pk_unit at h
  rw [h.1]

theorem ek_unit_130_r {h x : Int32} {I I2 : px_I} {L L2 : px_L} (h : pk_unit h I L x I2 L2) : I2 130 = I 130 := by
  unfold pk_unit at h
  rw [h.1]

theorem ek_unit_131_r {h x : Int32} {I I2 : px_I} {L L2 : px_L} (h : pk_unit h I L x I2 L2) : I2 131 = I 131 := by
  unfold pk_unit at h
  rw [h.1]

theorem ek_unit_103_47 {h x : Int32} {I I2 : px_I} {L L2 : px_L} (h : pk_unit h I L x I2 L2) : I2 103 47 = I 103 47 := by
  unfold pk_unit at h
  rw [h.1]

theorem ek_unit_103_48 {h x : Int32} {I I2 : px_I} {L L2 : px_L} (h : pk_unit h I L x I2 L2) : I2 103 48 = I 103 48 := by
  unfold pk_unit at h
  rw [h.1]

theorem ek_unit_103_49 {h x : Int32} {I I2 : px_I} {L L2 : px_L} (h : pk_unit h I L x I2 L2) : I2 103 49 = I 103 49 := by
  unfold pk_unit at h
  rw [h.1]

theorem ek_unit_103_50 {h x : Int32} {I I2 : px_I} {L L2 : px_L} (h : pk_unit h I L x I2 L2) : I2 103 50 = I 103 50 := by
  unfold pk_unit at h
  rw [h.1]

theorem ek_unit_103_51 {h x : Int32} {I I2 : px_I} {L L2 : px_L} (h : pk_unit h I L x I2 L2) : I2 103 51 = I 103 51 := by
  unfold pk_unit at h
  rw [h.1]

theorem eb_feed_90_r {a b c d e x : Int32} {I I2 : px_I} {L L2 : px_L} (h : pb_feed a b c d e I L x I2 L2) : I2 90 = I 90 := by
  unfold pb_feed at h
  obtain ⟨rfl, h⟩ := h
  rcases h with ⟨a1, rfl, rfl⟩ | ⟨a1, rfl, rfl⟩
  · rw [cApp_o _ _ (by omega) (by omega), cApp_o _ _ (by omega) (by omega), cApp_o _ _ (by omega) (by omega), cApp_o _ _ (by omega) (by omega), cApp_o _ _ (by omega) (by omega)]
  · rfl

theorem eb_feed_91_r {a b c d e x : Int32} {I I2 : px_I} {L L2 : px_L} (h : pb_feed a b c d e I L x I2 L2) : I2 91 = I 91 := by
  unfold pb_feed at h
  obtain ⟨rfl, h⟩ := h
  rcases h with ⟨a1, rfl, rfl⟩ | ⟨a1, rfl, rfl⟩
  · rw [cApp_o _ _ (by omega) (by omega), cApp_o _ _ (by omega) (by omega), cApp_o _ _ (by omega) (by omega), cApp_o _ _ (by omega) (by omega), cApp_o _ _ (by omega) (by omega)]
  · rfl

theorem eb_feed_86_3 {a b c d e x : Int32} {I I2 : px_I} {L L2 : px_L} (h : pb_feed a b c d e I L x I2 L2) : I2 86 3 = I 86 3 := by
  unfold pb_feed at h
  obtain ⟨rfl, h⟩ := h
  rcases h with ⟨a1, rfl, rfl⟩ | ⟨a1, rfl, rfl⟩
  · rw [cApp_at _ _ 86 3 (by omega) (by omega), cApp_at _ _ 86 3 (by omega) (by omega), cApp_at _ _ 86 3 (by omega) (by omega), cApp_at _ _ 86 3 (by omega) (by omega), cApp_at _ _ 86 3 (by omega) (by omega)]
  · rfl

theorem eb_feed_86_4 {a b c d e x : Int32} {I I2 : px_I} {L L2 : px_L} (h : pb_feed a b c d e I L x I2 L2) : I2 86 4 = I 86 4 := by
  unfold pb_feed at h
  obtain ⟨rfl, h⟩ := h
  rcases h with ⟨a1, rfl, rfl⟩ | ⟨a1, rfl, rfl⟩
  · rw [cApp_at _ _ 86 4 (by omega) (by omega), cApp_at _ _ 86 4 (by omega) (by omega), cApp_at _ _ 86 4 (by omega) (by omega), cApp_at _ _ 86 4 (by omega) (by omega), cApp_at _ _ 86 4 (by omega) (by omega)]
  · rfl

theorem eb_feed_86_5 {a b c d e x : Int32} {I I2 : px_I} {L L2 : px_L} (h : pb_feed a b c d e I L x I2 L2) : I2 86 5 = I 86 5 := by
  unfold pb_feed at h
  obtain ⟨rfl, h⟩ := h
  rcases h with ⟨a1, rfl, rfl⟩ | ⟨a1, rfl, rfl⟩
  · rw [cApp_at _ _ 86 5 (by omega) (by omega), cApp_at _ _ 86 5 (by omega) (by omega), cApp_at _ _ 86 5 (by omega) (by omega), cApp_at _ _ 86 5 (by omega) (by omega), cApp_at _ _ 86 5 (by omega) (by omega)]
  · rfl

theorem eb_feed_86_6 {a b c d e x : Int32} {I I2 : px_I} {L L2 : px_L} (h : pb_feed a b c d e I L x I2 L2) : I2 86 6 = I 86 6 := by
  unfold pb_feed at h
  obtain ⟨rfl, h⟩ := h
  rcases h with ⟨a1, rfl, rfl⟩ | ⟨a1, rfl, rfl⟩
  · rw [cApp_at _ _ 86 6 (by omega) (by omega), cApp_at _ _ 86 6 (by omega) (by omega), cApp_at _ _ 86 6 (by omega) (by omega), cApp_at _ _ 86 6 (by omega) (by omega), cApp_at _ _ 86 6 (by omega) (by omega)]
  · rfl

theorem eb_feed_86_7 {a b c d e x : Int32} {I I2 : px_I} {L L2 : px_L} (h : pb_feed a b c d e I L x I2 L2) : I2 86 7 = I 86 7 := by
  unfold pb_feed at h
  obtain ⟨rfl, h⟩ := h
  rcases h with ⟨a1, rfl, rfl⟩ | ⟨a1, rfl, rfl⟩
  · rw [cApp_at _ _ 86 7 (by omega) (by omega), cApp_at _ _ 86 7 (by omega) (by omega), cApp_at _ _ 86 7 (by omega) (by omega), cApp_at _ _ 86 7 (by omega) (by omega), cApp_at _ _ 86 7 (by omega) (by omega)]
  · rfl

theorem eb_feed_9999_r {a b c d e x : Int32} {I I2 : px_I} {L L2 : px_L} (h : pb_feed a b c d e I L x I2 L2) (b : Nat) (hb : (77 ≤ b ∧ b ≤ 79) ∨ 147 ≤ b) : I2 b = I b := by
  unfold pb_feed at h
  obtain ⟨rfl, h⟩ := h
  rcases h with ⟨a1, rfl, rfl⟩ | ⟨a1, rfl, rfl⟩
  · rw [cApp_o _ _ (by omega) (by omega), cApp_o _ _ (by omega) (by omega), cApp_o _ _ (by omega) (by omega), cApp_o _ _ (by omega) (by omega), cApp_o _ _ (by omega) (by omega)]
  · rfl

theorem ek_feed_129_r {a b c d e x : Int32} {I I2 : px_I} {L L2 : px_L} (h : pk_feed a b c d e I L x I2 L2) : I2 129 = I 129 := by
  unfold pk_feed at h
  obtain ⟨rfl, h⟩ := h
  rcases h with ⟨a1, rfl, rfl⟩ | ⟨a1, rfl, rfl⟩
  · funext j; rw [mPut_o (by omega) (by omega), mPut_o (by omega) (by omega), mPut_o (by omega) (by omega), mPut_o (by omega) (by omega), mPut_o (by omega) (by omega)]
  · rfl

theorem ek_feed_130_r {a b c d e x : Int32} {I I2 : px_I} {L L2 : px_L} (h : pk_feed a b c d e I L x I2 L2) : I2 130 = I 130 := by
  unfold pk_feed at h
  obtain ⟨rfl, h⟩ := h
  rcases h with ⟨a1, rfl, rfl⟩ | ⟨a1, rfl, rfl⟩
  · funext j; rw [mPut_o (by omega) (by omega), mPut_o (by omega) (by omega), mPut_o (by omega) (by omega), mPut_o (by omega) (by omega), mPut_o (by omega) (by omega)]
  · rfl

theorem ek_feed_131_r {a b c d e x : Int32} {I I2 : px_I} {L L2 : px_L} (h : pk_feed a b c d e I L x I2 L2) : I2 131 = I 131 := by
  unfold pk_feed at h
  obtain ⟨rfl, h⟩ := h
  rcases h with ⟨a1, rfl, rfl⟩ | ⟨a1, rfl, rfl⟩
  · funext j; rw [mPut_o (by omega) (by omega), mPut_o (by omega) (by omega), mPut_o (by omega) (by omega), mPut_o (by omega) (by omega), mPut_o (by omega) (by omega)]
  · rfl

theorem ek_feed_103_47 {a b c d e x : Int32} {I I2 : px_I} {L L2 : px_L} (h : pk_feed a b c d e I L x I2 L2) : I2 103 47 = I 103 47 := by
  unfold pk_feed at h
  obtain ⟨rfl, h⟩ := h
  rcases h with ⟨a1, rfl, rfl⟩ | ⟨a1, rfl, rfl⟩
  · rw [mPut_o (by omega) (by omega), mPut_o (by omega) (by omega), mPut_o (by omega) (by omega), mPut_o (by omega) (by omega), mPut_o (by omega) (by omega)]
  · rfl

theorem ek_feed_103_48 {a b c d e x : Int32} {I I2 : px_I} {L L2 : px_L} (h : pk_feed a b c d e I L x I2 L2) : I2 103 48 = I 103 48 := by
  unfold pk_feed at h
  obtain ⟨rfl, h⟩ := h
  rcases h with ⟨a1, rfl, rfl⟩ | ⟨a1, rfl, rfl⟩
  · rw [mPut_o (by omega) (by omega), mPut_o (by omega) (by omega), mPut_o (by omega) (by omega), mPut_o (by omega) (by omega), mPut_o (by omega) (by omega)]
  · rfl

theorem ek_feed_103_49 {a b c d e x : Int32} {I I2 : px_I} {L L2 : px_L} (h : pk_feed a b c d e I L x I2 L2) : I2 103 49 = I 103 49 := by
  unfold pk_feed at h
  obtain ⟨rfl, h⟩ := h
  rcases h with ⟨a1, rfl, rfl⟩ | ⟨a1, rfl, rfl⟩
  · rw [mPut_o (by omega) (by omega), mPut_o (by omega) (by omega), mPut_o (by omega) (by omega), mPut_o (by omega) (by omega), mPut_o (by omega) (by omega)]
  · rfl

theorem ek_feed_103_50 {a b c d e x : Int32} {I I2 : px_I} {L L2 : px_L} (h : pk_feed a b c d e I L x I2 L2) : I2 103 50 = I 103 50 := by
  unfold pk_feed at h
  obtain ⟨rfl, h⟩ := h
  rcases h with ⟨a1, rfl, rfl⟩ | ⟨a1, rfl, rfl⟩
  · rw [mPut_o (by omega) (by omega), mPut_o (by omega) (by omega), mPut_o (by omega) (by omega), mPut_o (by omega) (by omega), mPut_o (by omega) (by omega)]
  · rfl

theorem ek_feed_103_51 {a b c d e x : Int32} {I I2 : px_I} {L L2 : px_L} (h : pk_feed a b c d e I L x I2 L2) : I2 103 51 = I 103 51 := by
  unfold pk_feed at h
  obtain ⟨rfl, h⟩ := h
  rcases h with ⟨a1, rfl, rfl⟩ | ⟨a1, rfl, rfl⟩
  · rw [mPut_o (by omega) (by omega), mPut_o (by omega) (by omega), mPut_o (by omega) (by omega), mPut_o (by omega) (by omega), mPut_o (by omega) (by omega)]
  · rfl

theorem eb_end_90_r {x9 x : Int32} {I I2 : px_I} {L L2 : px_L} (h : pb_end x9 I L x I2 L2) : I2 90 = I 90 := by
  unfold pb_end at h
  obtain ⟨rfl, h⟩ := h
  rcases h with ⟨a1, rfl, rfl⟩ | ⟨a1, rfl, rfl⟩
  · (repeat rw [px_u_ne (by omega)])
  · rfl

theorem eb_end_91_r {x9 x : Int32} {I I2 : px_I} {L L2 : px_L} (h : pb_end x9 I L x I2 L2) : I2 91 = I 91 := by
  unfold pb_end at h
  obtain ⟨rfl, h⟩ := h
  rcases h with ⟨a1, rfl, rfl⟩ | ⟨a1, rfl, rfl⟩
  · (repeat rw [px_u_ne (by omega)])
  · rfl

theorem eb_end_86_3 {x9 x : Int32} {I I2 : px_I} {L L2 : px_L} (h : pb_end x9 I L x I2 L2) : I2 86 3 = I 86 3 := by
  unfold pb_end at h
  obtain ⟨rfl, h⟩ := h
  rcases h with ⟨a1, rfl, rfl⟩ | ⟨a1, rfl, rfl⟩
  · (repeat rw [px_u_out (by omega)])
  · rfl

theorem eb_end_86_4 {x9 x : Int32} {I I2 : px_I} {L L2 : px_L} (h : pb_end x9 I L x I2 L2) : I2 86 4 = I 86 4 := by
  unfold pb_end at h
  obtain ⟨rfl, h⟩ := h
  rcases h with ⟨a1, rfl, rfl⟩ | ⟨a1, rfl, rfl⟩
  · (repeat rw [px_u_out (by omega)])
  · rfl

theorem eb_end_86_5 {x9 x : Int32} {I I2 : px_I} {L L2 : px_L} (h : pb_end x9 I L x I2 L2) : I2 86 5 = I 86 5 := by
  unfold pb_end at h
  obtain ⟨rfl, h⟩ := h
  rcases h with ⟨a1, rfl, rfl⟩ | ⟨a1, rfl, rfl⟩
  · (repeat rw [px_u_out (by omega)])
  · rfl

theorem eb_end_86_6 {x9 x : Int32} {I I2 : px_I} {L L2 : px_L} (h : pb_end x9 I L x I2 L2) : I2 86 6 = I 86 6 := by
  unfold pb_end at h
  obtain ⟨rfl, h⟩ := h
  rcases h with ⟨a1, rfl, rfl⟩ | ⟨a1, rfl, rfl⟩
  · (repeat rw [px_u_out (by omega)])
  · rfl

theorem eb_end_86_7 {x9 x : Int32} {I I2 : px_I} {L L2 : px_L} (h : pb_end x9 I L x I2 L2) : I2 86 7 = I 86 7 := by
  unfold pb_end at h
  obtain ⟨rfl, h⟩ := h
  rcases h with ⟨a1, rfl, rfl⟩ | ⟨a1, rfl, rfl⟩
  · (repeat rw [px_u_out (by omega)])
  · rfl

theorem eb_end_9999_r {x9 x : Int32} {I I2 : px_I} {L L2 : px_L} (h : pb_end x9 I L x I2 L2) (b : Nat) (hb : (77 ≤ b ∧ b ≤ 79) ∨ 147 ≤ b) : I2 b = I b := by
  unfold pb_end at h
  obtain ⟨rfl, h⟩ := h
  rcases h with ⟨a1, rfl, rfl⟩ | ⟨a1, rfl, rfl⟩
  · (repeat rw [px_u_ne (by omega)])
  · rfl

theorem ek_end_129_r {x9 x : Int32} {I I2 : px_I} {L L2 : px_L} (h : pk_end x9 I L x I2 L2) : I2 129 = I 129 := by
  unfold pk_end at h
  obtain ⟨rfl, h⟩ := h
  rcases h with ⟨a1, a2, rfl, rfl⟩ | ⟨a1, rfl, rfl⟩
  · (repeat rw [px_u_ne (by omega)])
  · rfl

theorem ek_end_130_r {x9 x : Int32} {I I2 : px_I} {L L2 : px_L} (h : pk_end x9 I L x I2 L2) : I2 130 = I 130 := by
  unfold pk_end at h
  obtain ⟨rfl, h⟩ := h
  rcases h with ⟨a1, a2, rfl, rfl⟩ | ⟨a1, rfl, rfl⟩
  · (repeat rw [px_u_ne (by omega)])
  · rfl

theorem ek_end_131_r {x9 x : Int32} {I I2 : px_I} {L L2 : px_L} (h : pk_end x9 I L x I2 L2) : I2 131 = I 131 := by
  unfold pk_end at h
  obtain ⟨rfl, h⟩ := h
  rcases h with ⟨a1, a2, rfl, rfl⟩ | ⟨a1, rfl, rfl⟩
  · (repeat rw [px_u_ne (by omega)])
  · rfl

theorem ek_end_103_47 {x9 x : Int32} {I I2 : px_I} {L L2 : px_L} (h : pk_end x9 I L x I2 L2) : I2 103 47 = I 103 47 := by
  unfold pk_end at h
  obtain ⟨rfl, h⟩ := h
  rcases h with ⟨a1, a2, rfl, rfl⟩ | ⟨a1, rfl, rfl⟩
  · (repeat rw [px_u_out (by omega)])
  · rfl

theorem ek_end_103_48 {x9 x : Int32} {I I2 : px_I} {L L2 : px_L} (h : pk_end x9 I L x I2 L2) : I2 103 48 = I 103 48 := by
  unfold pk_end at h
  obtain ⟨rfl, h⟩ := h
  rcases h with ⟨a1, a2, rfl, rfl⟩ | ⟨a1, rfl, rfl⟩
  · (repeat rw [px_u_out (by omega)])
  · rfl

theorem ek_end_103_49 {x9 x : Int32} {I I2 : px_I} {L L2 : px_L} (h : pk_end x9 I L x I2 L2) : I2 103 49 = I 103 49 := by
  unfold pk_end at h
  obtain ⟨rfl, h⟩ := h
  rcases h with ⟨a1, a2, rfl, rfl⟩ | ⟨a1, rfl, rfl⟩
  · (repeat rw [px_u_out (by omega)])
  · rfl

theorem ek_end_103_50 {x9 x : Int32} {I I2 : px_I} {L L2 : px_L} (h : pk_end x9 I L x I2 L2) : I2 103 50 = I 103 50 := by
  unfold pk_end at h
  obtain ⟨rfl, h⟩ := h
  rcases h with ⟨a1, a2, rfl, rfl⟩ | ⟨a1, rfl, rfl⟩
  · (repeat rw [px_u_out (by omega)])
  · rfl

theorem ek_end_103_51 {x9 x : Int32} {I I2 : px_I} {L L2 : px_L} (h : pk_end x9 I L x I2 L2) : I2 103 51 = I 103 51 := by
  unfold pk_end at h
  obtain ⟨rfl, h⟩ := h
  rcases h with ⟨a1, a2, rfl, rfl⟩ | ⟨a1, rfl, rfl⟩
  · (repeat rw [px_u_out (by omega)])
  · rfl

theorem eb_fault_90_r {x9 x : Int32} {I I2 : px_I} {L L2 : px_L} (h : pb_fault x9 I L x I2 L2) : I2 90 = I 90 := by
  unfold pb_fault at h
  rw [h.1]

theorem eb_fault_91_r {x9 x : Int32} {I I2 : px_I} {L L2 : px_L} (h : pb_fault x9 I L x I2 L2) : I2 91 = I 91 := by
  unfold pb_fault at h
  rw [h.1]

theorem eb_fault_86_3 {x9 x : Int32} {I I2 : px_I} {L L2 : px_L} (h : pb_fault x9 I L x I2 L2) : I2 86 3 = I 86 3 := by
  unfold pb_fault at h
  rw [h.1]

theorem eb_fault_86_4 {x9 x : Int32} {I I2 : px_I} {L L2 : px_L} (h : pb_fault x9 I L x I2 L2) : I2 86 4 = I 86 4 := by
  unfold pb_fault at h
  rw [h.1]

theorem eb_fault_86_5 {x9 x : Int32} {I I2 : px_I} {L L2 : px_L} (h : pb_fault x9 I L x I2 L2) : I2 86 5 = I 86 5 := by
  unfold pb_fault at h
  rw [h.1]

theorem eb_fault_86_6 {x9 x : Int32} {I I2 : px_I} {L L2 : px_L} (h : pb_fault x9 I L x I2 L2) : I2 86 6 = I 86 6 := by
  unfold pb_fault at h
  rw [h.1]

theorem eb_fault_86_7 {x9 x : Int32} {I I2 : px_I} {L L2 : px_L} (h : pb_fault x9 I L x I2 L2) : I2 86 7 = I 86 7 := by
  unfold pb_fault at h
  rw [h.1]

theorem eb_fault_9999_r {x9 x : Int32} {I I2 : px_I} {L L2 : px_L} (h : pb_fault x9 I L x I2 L2) (b : Nat) (hb : (77 ≤ b ∧ b ≤ 79) ∨ 147 ≤ b) : I2 b = I b := by
  unfold pb_fault at h
  rw [h.1]

theorem ek_fault_129_r {x9 x : Int32} {I I2 : px_I} {L L2 : px_L} (h : pk_fault x9 I L x I2 L2) : I2 129 = I 129 := by
  unfold pk_fault at h
  rw [h.1]

theorem ek_fault_130_r {x9 x : Int32} {I I2 : px_I} {L L2 : px_L} (h : pk_fault x9 I L x I2 L2) : I2 130 = I 130 := by
  unfold pk_fault at h
  rw [h.1]

theorem ek_fault_131_r {x9 x : Int32} {I I2 : px_I} {L L2 : px_L} (h : pk_fault x9 I L x I2 L2) : I2 131 = I 131 := by
  unfold pk_fault at h
  rw [h.1]

theorem ek_fault_103_47 {x9 x : Int32} {I I2 : px_I} {L L2 : px_L} (h : pk_fault x9 I L x I2 L2) : I2 103 47 = I 103 47 := by
  unfold pk_fault at h
  rw [h.1]

theorem ek_fault_103_48 {x9 x : Int32} {I I2 : px_I} {L L2 : px_L} (h : pk_fault x9 I L x I2 L2) : I2 103 48 = I 103 48 := by
  unfold pk_fault at h
  rw [h.1]

theorem ek_fault_103_49 {x9 x : Int32} {I I2 : px_I} {L L2 : px_L} (h : pk_fault x9 I L x I2 L2) : I2 103 49 = I 103 49 := by
  unfold pk_fault at h
  rw [h.1]

theorem ek_fault_103_50 {x9 x : Int32} {I I2 : px_I} {L L2 : px_L} (h : pk_fault x9 I L x I2 L2) : I2 103 50 = I 103 50 := by
  unfold pk_fault at h
  rw [h.1]

theorem ek_fault_103_51 {x9 x : Int32} {I I2 : px_I} {L L2 : px_L} (h : pk_fault x9 I L x I2 L2) : I2 103 51 = I 103 51 := by
  unfold pk_fault at h
  rw [h.1]

theorem eb_there_90_r {a lo hi x : Int32} {I I2 : px_I} {L L2 : px_L} (h : pb_there a lo hi I L x I2 L2) : I2 90 = I 90 := by
  unfold pb_there at h
  obtain ⟨rfl, h⟩ := h
  rcases h with ⟨a1, rfl, rfl⟩ | ⟨a1, rfl, rfl⟩
  · (repeat rw [px_u_ne (by omega)])
  · rfl

theorem eb_there_91_r {a lo hi x : Int32} {I I2 : px_I} {L L2 : px_L} (h : pb_there a lo hi I L x I2 L2) : I2 91 = I 91 := by
  unfold pb_there at h
  obtain ⟨rfl, h⟩ := h
  rcases h with ⟨a1, rfl, rfl⟩ | ⟨a1, rfl, rfl⟩
  · (repeat rw [px_u_ne (by omega)])
  · rfl

theorem eb_there_86_3 {a lo hi x : Int32} {I I2 : px_I} {L L2 : px_L} (h : pb_there a lo hi I L x I2 L2) : I2 86 3 = I 86 3 := by
  unfold pb_there at h
  obtain ⟨rfl, h⟩ := h
  rcases h with ⟨a1, rfl, rfl⟩ | ⟨a1, rfl, rfl⟩
  · (repeat rw [px_u_out (by omega)])
  · rfl

theorem eb_there_86_4 {a lo hi x : Int32} {I I2 : px_I} {L L2 : px_L} (h : pb_there a lo hi I L x I2 L2) : I2 86 4 = I 86 4 := by
  unfold pb_there at h
  obtain ⟨rfl, h⟩ := h
  rcases h with ⟨a1, rfl, rfl⟩ | ⟨a1, rfl, rfl⟩
  · (repeat rw [px_u_out (by omega)])
  · rfl

theorem eb_there_86_5 {a lo hi x : Int32} {I I2 : px_I} {L L2 : px_L} (h : pb_there a lo hi I L x I2 L2) : I2 86 5 = I 86 5 := by
  unfold pb_there at h
  obtain ⟨rfl, h⟩ := h
  rcases h with ⟨a1, rfl, rfl⟩ | ⟨a1, rfl, rfl⟩
  · (repeat rw [px_u_out (by omega)])
  · rfl

theorem eb_there_86_6 {a lo hi x : Int32} {I I2 : px_I} {L L2 : px_L} (h : pb_there a lo hi I L x I2 L2) : I2 86 6 = I 86 6 := by
  unfold pb_there at h
  obtain ⟨rfl, h⟩ := h
  rcases h with ⟨a1, rfl, rfl⟩ | ⟨a1, rfl, rfl⟩
  · (repeat rw [px_u_out (by omega)])
  · rfl

theorem eb_there_86_7 {a lo hi x : Int32} {I I2 : px_I} {L L2 : px_L} (h : pb_there a lo hi I L x I2 L2) : I2 86 7 = I 86 7 := by
  unfold pb_there at h
  obtain ⟨rfl, h⟩ := h
  rcases h with ⟨a1, rfl, rfl⟩ | ⟨a1, rfl, rfl⟩
  · (repeat rw [px_u_out (by omega)])
  · rfl

theorem eb_there_9999_r {a lo hi x : Int32} {I I2 : px_I} {L L2 : px_L} (h : pb_there a lo hi I L x I2 L2) (b : Nat) (hb : (77 ≤ b ∧ b ≤ 79) ∨ 147 ≤ b) : I2 b = I b := by
  unfold pb_there at h
  obtain ⟨rfl, h⟩ := h
  rcases h with ⟨a1, rfl, rfl⟩ | ⟨a1, rfl, rfl⟩
  · (repeat rw [px_u_ne (by omega)])
  · rfl

theorem ek_there_129_r {a lo hi x : Int32} {I I2 : px_I} {L L2 : px_L} (h : pk_there a lo hi I L x I2 L2) : I2 129 = I 129 := by
  unfold pk_there at h
  obtain ⟨rfl, h⟩ := h
  rcases h with ⟨a1, rfl, rfl⟩ | ⟨a1, rfl, rfl⟩
  · (repeat rw [px_u_ne (by omega)])
  · rfl

theorem ek_there_130_r {a lo hi x : Int32} {I I2 : px_I} {L L2 : px_L} (h : pk_there a lo hi I L x I2 L2) : I2 130 = I 130 := by
  unfold pk_there at h
  obtain ⟨rfl, h⟩ := h
  rcases h with ⟨a1, rfl, rfl⟩ | ⟨a1, rfl, rfl⟩
  · (repeat rw [px_u_ne (by omega)])
  · rfl

theorem ek_there_131_r {a lo hi x : Int32} {I I2 : px_I} {L L2 : px_L} (h : pk_there a lo hi I L x I2 L2) : I2 131 = I 131 := by
  unfold pk_there at h
  obtain ⟨rfl, h⟩ := h
  rcases h with ⟨a1, rfl, rfl⟩ | ⟨a1, rfl, rfl⟩
  · (repeat rw [px_u_ne (by omega)])
  · rfl

theorem ek_there_103_47 {a lo hi x : Int32} {I I2 : px_I} {L L2 : px_L} (h : pk_there a lo hi I L x I2 L2) : I2 103 47 = I 103 47 := by
  unfold pk_there at h
  obtain ⟨rfl, h⟩ := h
  rcases h with ⟨a1, rfl, rfl⟩ | ⟨a1, rfl, rfl⟩
  · (repeat rw [px_u_out (by omega)])
  · rfl

theorem ek_there_103_48 {a lo hi x : Int32} {I I2 : px_I} {L L2 : px_L} (h : pk_there a lo hi I L x I2 L2) : I2 103 48 = I 103 48 := by
  unfold pk_there at h
  obtain ⟨rfl, h⟩ := h
  rcases h with ⟨a1, rfl, rfl⟩ | ⟨a1, rfl, rfl⟩
  · (repeat rw [px_u_out (by omega)])
  · rfl

theorem ek_there_103_49 {a lo hi x : Int32} {I I2 : px_I} {L L2 : px_L} (h : pk_there a lo hi I L x I2 L2) : I2 103 49 = I 103 49 := by
  unfold pk_there at h
  obtain ⟨rfl, h⟩ := h
  rcases h with ⟨a1, rfl, rfl⟩ | ⟨a1, rfl, rfl⟩
  · (repeat rw [px_u_out (by omega)])
  · rfl

theorem ek_there_103_50 {a lo hi x : Int32} {I I2 : px_I} {L L2 : px_L} (h : pk_there a lo hi I L x I2 L2) : I2 103 50 = I 103 50 := by
  unfold pk_there at h
  obtain ⟨rfl, h⟩ := h
  rcases h with ⟨a1, rfl, rfl⟩ | ⟨a1, rfl, rfl⟩
  · (repeat rw [px_u_out (by omega)])
  · rfl

theorem ek_there_103_51 {a lo hi x : Int32} {I I2 : px_I} {L L2 : px_L} (h : pk_there a lo hi I L x I2 L2) : I2 103 51 = I 103 51 := by
  unfold pk_there at h
  obtain ⟨rfl, h⟩ := h
  rcases h with ⟨a1, rfl, rfl⟩ | ⟨a1, rfl, rfl⟩
  · (repeat rw [px_u_out (by omega)])
  · rfl

theorem eb_seek_90_r {a b c d e f x : Int32} {I I2 : px_I} {L L2 : px_L} (h : pb_seek a b c d e f I L x I2 L2) : I2 90 = I 90 := by
  unfold pb_seek at h
  obtain ⟨rfl, h⟩ := h
  rcases h with ⟨a1, rfl, rfl⟩ | ⟨a1, rfl, rfl⟩
  · (repeat rw [px_u_ne (by omega)])
  · rfl

theorem eb_seek_91_r {a b c d e f x : Int32} {I I2 : px_I} {L L2 : px_L} (h : pb_seek a b c d e f I L x I2 L2) : I2 91 = I 91 := by
  unfold pb_seek at h
  obtain ⟨rfl, h⟩ := h
  rcases h with ⟨a1, rfl, rfl⟩ | ⟨a1, rfl, rfl⟩
  · (repeat rw [px_u_ne (by omega)])
  · rfl

theorem eb_seek_86_3 {a b c d e f x : Int32} {I I2 : px_I} {L L2 : px_L} (h : pb_seek a b c d e f I L x I2 L2) : I2 86 3 = I 86 3 := by
  unfold pb_seek at h
  obtain ⟨rfl, h⟩ := h
  rcases h with ⟨a1, rfl, rfl⟩ | ⟨a1, rfl, rfl⟩
  · (repeat rw [px_u_out (by omega)])
  · rfl

theorem eb_seek_86_4 {a b c d e f x : Int32} {I I2 : px_I} {L L2 : px_L} (h : pb_seek a b c d e f I L x I2 L2) : I2 86 4 = I 86 4 := by
  unfold pb_seek at h
  obtain ⟨rfl, h⟩ := h
  rcases h with ⟨a1, rfl, rfl⟩ | ⟨a1, rfl, rfl⟩
  · (repeat rw [px_u_out (by omega)])
  · rfl

theorem eb_seek_86_5 {a b c d e f x : Int32} {I I2 : px_I} {L L2 : px_L} (h : pb_seek a b c d e f I L x I2 L2) : I2 86 5 = I 86 5 := by
  unfold pb_seek at h
  obtain ⟨rfl, h⟩ := h
  rcases h with ⟨a1, rfl, rfl⟩ | ⟨a1, rfl, rfl⟩
  · (repeat rw [px_u_out (by omega)])
  · rfl

theorem eb_seek_86_6 {a b c d e f x : Int32} {I I2 : px_I} {L L2 : px_L} (h : pb_seek a b c d e f I L x I2 L2) : I2 86 6 = I 86 6 := by
  unfold pb_seek at h
  obtain ⟨rfl, h⟩ := h
  rcases h with ⟨a1, rfl, rfl⟩ | ⟨a1, rfl, rfl⟩
  · (repeat rw [px_u_out (by omega)])
  · rfl

theorem eb_seek_86_7 {a b c d e f x : Int32} {I I2 : px_I} {L L2 : px_L} (h : pb_seek a b c d e f I L x I2 L2) : I2 86 7 = I 86 7 := by
  unfold pb_seek at h
  obtain ⟨rfl, h⟩ := h
  rcases h with ⟨a1, rfl, rfl⟩ | ⟨a1, rfl, rfl⟩
  · (repeat rw [px_u_out (by omega)])
  · rfl

theorem eb_seek_9999_r {a b c d e f x : Int32} {I I2 : px_I} {L L2 : px_L} (h : pb_seek a b c d e f I L x I2 L2) (b : Nat) (hb : (77 ≤ b ∧ b ≤ 79) ∨ 147 ≤ b) : I2 b = I b := by
  unfold pb_seek at h
  obtain ⟨rfl, h⟩ := h
  rcases h with ⟨a1, rfl, rfl⟩ | ⟨a1, rfl, rfl⟩
  · (repeat rw [px_u_ne (by omega)])
  · rfl

theorem ek_seek_129_r {a b c d e f x : Int32} {I I2 : px_I} {L L2 : px_L} (h : pk_seek a b c d e f I L x I2 L2) : I2 129 = I 129 := by
  unfold pk_seek at h
  obtain ⟨rfl, h⟩ := h
  rcases h with ⟨a1, rfl, rfl⟩ | ⟨a1, rfl, rfl⟩
  · (repeat rw [px_u_ne (by omega)])
  · rfl

theorem ek_seek_130_r {a b c d e f x : Int32} {I I2 : px_I} {L L2 : px_L} (h : pk_seek a b c d e f I L x I2 L2) : I2 130 = I 130 := by
  unfold pk_seek at h
  obtain ⟨rfl, h⟩ := h
  rcases h with ⟨a1, rfl, rfl⟩ | ⟨a1, rfl, rfl⟩
  · (repeat rw [px_u_ne (by omega)])
  · rfl

theorem ek_seek_131_r {a b c d e f x : Int32} {I I2 : px_I} {L L2 : px_L} (h : pk_seek a b c d e f I L x I2 L2) : I2 131 = I 131 := by
  unfold pk_seek at h
  obtain ⟨rfl, h⟩ := h
  rcases h with ⟨a1, rfl, rfl⟩ | ⟨a1, rfl, rfl⟩
  · (repeat rw [px_u_ne (by omega)])
  · rfl

theorem ek_seek_103_47 {a b c d e f x : Int32} {I I2 : px_I} {L L2 : px_L} (h : pk_seek a b c d e f I L x I2 L2) : I2 103 47 = I 103 47 := by
  unfold pk_seek at h
  obtain ⟨rfl, h⟩ := h
  rcases h with ⟨a1, rfl, rfl⟩ | ⟨a1, rfl, rfl⟩
  · (repeat rw [px_u_out (by omega)])
  · rfl

theorem ek_seek_103_48 {a b c d e f x : Int32} {I I2 : px_I} {L L2 : px_L} (h : pk_seek a b c d e f I L x I2 L2) : I2 103 48 = I 103 48 := by
  unfold pk_seek at h
  obtain ⟨rfl, h⟩ := h
  rcases h with ⟨a1, rfl, rfl⟩ | ⟨a1, rfl, rfl⟩
  · (repeat rw [px_u_out (by omega)])
  · rfl

theorem ek_seek_103_49 {a b c d e f x : Int32} {I I2 : px_I} {L L2 : px_L} (h : pk_seek a b c d e f I L x I2 L2) : I2 103 49 = I 103 49 := by
  unfold pk_seek at h
  obtain ⟨rfl, h⟩ := h
  rcases h with ⟨a1, rfl, rfl⟩ | ⟨a1, rfl, rfl⟩
  · (repeat rw [px_u_out (by omega)])
  · rfl

theorem ek_seek_103_50 {a b c d e f x : Int32} {I I2 : px_I} {L L2 : px_L} (h : pk_seek a b c d e f I L x I2 L2) : I2 103 50 = I 103 50 := by
  unfold pk_seek at h
  obtain ⟨rfl, h⟩ := h
  rcases h with ⟨a1, rfl, rfl⟩ | ⟨a1, rfl, rfl⟩
  · (repeat rw [px_u_out (by omega)])
  · rfl

theorem ek_seek_103_51 {a b c d e f x : Int32} {I I2 : px_I} {L L2 : px_L} (h : pk_seek a b c d e f I L x I2 L2) : I2 103 51 = I 103 51 := by
  unfold pk_seek at h
  obtain ⟨rfl, h⟩ := h
  rcases h with ⟨a1, rfl, rfl⟩ | ⟨a1, rfl, rfl⟩
  · (repeat rw [px_u_out (by omega)])
  · rfl

theorem eb_detour_90_r {a o h x : Int32} {I I2 : px_I} {L L2 : px_L} (h : pb_detour a o h I L x I2 L2) : I2 90 = I 90 := by
  unfold pb_detour at h
  rw [h.1]

theorem eb_detour_91_r {a o h x : Int32} {I I2 : px_I} {L L2 : px_L} (h : pb_detour a o h I L x I2 L2) : I2 91 = I 91 := by
  unfold pb_detour at h
  rw [h.1]

theorem eb_detour_86_3 {a o h x : Int32} {I I2 : px_I} {L L2 : px_L} (h : pb_detour a o h I L x I2 L2) : I2 86 3 = I 86 3 := by
  unfold pb_detour at h
  rw [h.1]

theorem eb_detour_86_4 {a o h x : Int32} {I I2 : px_I} {L L2 : px_L} (h : pb_detour a o h I L x I2 L2) : I2 86 4 = I 86 4 := by
  unfold pb_detour at h
  rw [h.1]

theorem eb_detour_86_5 {a o h x : Int32} {I I2 : px_I} {L L2 : px_L} (h : pb_detour a o h I L x I2 L2) : I2 86 5 = I 86 5 := by
  unfold pb_detour at h
  rw [h.1]

theorem eb_detour_86_6 {a o h x : Int32} {I I2 : px_I} {L L2 : px_L} (h : pb_detour a o h I L x I2 L2) : I2 86 6 = I 86 6 := by
  unfold pb_detour at h
  rw [h.1]

theorem eb_detour_86_7 {a o h x : Int32} {I I2 : px_I} {L L2 : px_L} (h : pb_detour a o h I L x I2 L2) : I2 86 7 = I 86 7 := by
  unfold pb_detour at h
  rw [h.1]

theorem eb_detour_9999_r {a o h x : Int32} {I I2 : px_I} {L L2 : px_L} (h : pb_detour a o h I L x I2 L2) (b : Nat) (hb : (77 ≤ b ∧ b ≤ 79) ∨ 147 ≤ b) : I2 b = I b := by
  unfold pb_detour at h
  rw [h.1]

theorem ek_detour_129_r {a o lo x : Int32} {I I2 : px_I} {L L2 : px_L} (h : pk_detour a o lo I L x I2 L2) : I2 129 = I 129 := by
  unfold pk_detour at h
  rw [h.1]

theorem ek_detour_130_r {a o lo x : Int32} {I I2 : px_I} {L L2 : px_L} (h : pk_detour a o lo I L x I2 L2) : I2 130 = I 130 := by
  unfold pk_detour at h
  rw [h.1]

theorem ek_detour_131_r {a o lo x : Int32} {I I2 : px_I} {L L2 : px_L} (h : pk_detour a o lo I L x I2 L2) : I2 131 = I 131 := by
  unfold pk_detour at h
  rw [h.1]

theorem ek_detour_103_47 {a o lo x : Int32} {I I2 : px_I} {L L2 : px_L} (h : pk_detour a o lo I L x I2 L2) : I2 103 47 = I 103 47 := by
  unfold pk_detour at h
  rw [h.1]

theorem ek_detour_103_48 {a o lo x : Int32} {I I2 : px_I} {L L2 : px_L} (h : pk_detour a o lo I L x I2 L2) : I2 103 48 = I 103 48 := by
  unfold pk_detour at h
  rw [h.1]

theorem ek_detour_103_49 {a o lo x : Int32} {I I2 : px_I} {L L2 : px_L} (h : pk_detour a o lo I L x I2 L2) : I2 103 49 = I 103 49 := by
  unfold pk_detour at h
  rw [h.1]

theorem ek_detour_103_50 {a o lo x : Int32} {I I2 : px_I} {L L2 : px_L} (h : pk_detour a o lo I L x I2 L2) : I2 103 50 = I 103 50 := by
  unfold pk_detour at h
  rw [h.1]

theorem ek_detour_103_51 {a o lo x : Int32} {I I2 : px_I} {L L2 : px_L} (h : pk_detour a o lo I L x I2 L2) : I2 103 51 = I 103 51 := by
  unfold pk_detour at h
  rw [h.1]

theorem eb_table_90_r {c v x : Int32} {I I2 : px_I} {L L2 : px_L} (h : pb_table c v I L x I2 L2) : I2 90 = I 90 := by
  unfold pb_table at h
  obtain ⟨rfl, h⟩ := h
  rcases h with ⟨a1, rfl, rfl⟩ | ⟨a1, rfl, rfl⟩
  · (repeat rw [px_u_ne (by omega)])
  · rfl

theorem eb_table_91_r {c v x : Int32} {I I2 : px_I} {L L2 : px_L} (h : pb_table c v I L x I2 L2) : I2 91 = I 91 := by
  unfold pb_table at h
  obtain ⟨rfl, h⟩ := h
  rcases h with ⟨a1, rfl, rfl⟩ | ⟨a1, rfl, rfl⟩
  · (repeat rw [px_u_ne (by omega)])
  · rfl

theorem eb_table_86_3 {c v x : Int32} {I I2 : px_I} {L L2 : px_L} (h : pb_table c v I L x I2 L2) : I2 86 3 = I 86 3 := by
  unfold pb_table at h
  obtain ⟨rfl, h⟩ := h
  rcases h with ⟨a1, rfl, rfl⟩ | ⟨a1, rfl, rfl⟩
  · (repeat rw [px_u_out (by omega)])
  · rfl

theorem eb_table_86_4 {c v x : Int32} {I I2 : px_I} {L L2 : px_L} (h : pb_table c v I L x I2 L2) : I2 86 4 = I 86 4 := by
  unfold pb_table at h
  obtain ⟨rfl, h⟩ := h
  rcases h with ⟨a1, rfl, rfl⟩ | ⟨a1, rfl, rfl⟩
  · (repeat rw [px_u_out (by omega)])
  · rfl

theorem eb_table_86_5 {c v x : Int32} {I I2 : px_I} {L L2 : px_L} (h : pb_table c v I L x I2 L2) : I2 86 5 = I 86 5 := by
  unfold pb_table at h
  obtain ⟨rfl, h⟩ := h
  rcases h with ⟨a1, rfl, rfl⟩ | ⟨a1, rfl, rfl⟩
  · (repeat rw [px_u_out (by omega)])
  · rfl

theorem eb_table_86_6 {c v x : Int32} {I I2 : px_I} {L L2 : px_L} (h : pb_table c v I L x I2 L2) : I2 86 6 = I 86 6 := by
  unfold pb_table at h
  obtain ⟨rfl, h⟩ := h
  rcases h with ⟨a1, rfl, rfl⟩ | ⟨a1, rfl, rfl⟩
  · (repeat rw [px_u_out (by omega)])
  · rfl

theorem eb_table_86_7 {c v x : Int32} {I I2 : px_I} {L L2 : px_L} (h : pb_table c v I L x I2 L2) : I2 86 7 = I 86 7 := by
  unfold pb_table at h
  obtain ⟨rfl, h⟩ := h
  rcases h with ⟨a1, rfl, rfl⟩ | ⟨a1, rfl, rfl⟩
  · (repeat rw [px_u_out (by omega)])
  · rfl

theorem eb_table_9999_r {c v x : Int32} {I I2 : px_I} {L L2 : px_L} (h : pb_table c v I L x I2 L2) (b : Nat) (hb : (77 ≤ b ∧ b ≤ 79) ∨ 147 ≤ b) : I2 b = I b := by
  unfold pb_table at h
  obtain ⟨rfl, h⟩ := h
  rcases h with ⟨a1, rfl, rfl⟩ | ⟨a1, rfl, rfl⟩
  · (repeat rw [px_u_ne (by omega)])
  · rfl

theorem ek_table_129_r {c v x : Int32} {I I2 : px_I} {L L2 : px_L} (h : pk_table c v I L x I2 L2) : I2 129 = I 129 := by
  unfold pk_table at h
  obtain ⟨rfl, h⟩ := h
  rcases h with ⟨a1, rfl, rfl⟩ | ⟨a1, rfl, rfl⟩
  · (repeat rw [px_u_ne (by omega)])
  · rfl

theorem ek_table_130_r {c v x : Int32} {I I2 : px_I} {L L2 : px_L} (h : pk_table c v I L x I2 L2) : I2 130 = I 130 := by
  unfold pk_table at h
  obtain ⟨rfl, h⟩ := h
  rcases h with ⟨a1, rfl, rfl⟩ | ⟨a1, rfl, rfl⟩
  · (repeat rw [px_u_ne (by omega)])
  · rfl

theorem ek_table_131_r {c v x : Int32} {I I2 : px_I} {L L2 : px_L} (h : pk_table c v I L x I2 L2) : I2 131 = I 131 := by
  unfold pk_table at h
  obtain ⟨rfl, h⟩ := h
  rcases h with ⟨a1, rfl, rfl⟩ | ⟨a1, rfl, rfl⟩
  · (repeat rw [px_u_ne (by omega)])
  · rfl

theorem ek_table_103_47 {c v x : Int32} {I I2 : px_I} {L L2 : px_L} (h : pk_table c v I L x I2 L2) : I2 103 47 = I 103 47 := by
  unfold pk_table at h
  obtain ⟨rfl, h⟩ := h
  rcases h with ⟨a1, rfl, rfl⟩ | ⟨a1, rfl, rfl⟩
  · (repeat rw [px_u_out (by omega)])
  · rfl

theorem ek_table_103_48 {c v x : Int32} {I I2 : px_I} {L L2 : px_L} (h : pk_table c v I L x I2 L2) : I2 103 48 = I 103 48 := by
  unfold pk_table at h
  obtain ⟨rfl, h⟩ := h
  rcases h with ⟨a1, rfl, rfl⟩ | ⟨a1, rfl, rfl⟩
  · (repeat rw [px_u_out (by omega)])
  · rfl

theorem ek_table_103_49 {c v x : Int32} {I I2 : px_I} {L L2 : px_L} (h : pk_table c v I L x I2 L2) : I2 103 49 = I 103 49 := by
  unfold pk_table at h
  obtain ⟨rfl, h⟩ := h
  rcases h with ⟨a1, rfl, rfl⟩ | ⟨a1, rfl, rfl⟩
  · (repeat rw [px_u_out (by omega)])
  · rfl

theorem ek_table_103_50 {c v x : Int32} {I I2 : px_I} {L L2 : px_L} (h : pk_table c v I L x I2 L2) : I2 103 50 = I 103 50 := by
  unfold pk_table at h
  obtain ⟨rfl, h⟩ := h
  rcases h with ⟨a1, rfl, rfl⟩ | ⟨a1, rfl, rfl⟩
  · (repeat rw [px_u_out (by omega)])
  · rfl

theorem ek_table_103_51 {c v x : Int32} {I I2 : px_I} {L L2 : px_L} (h : pk_table c v I L x I2 L2) : I2 103 51 = I 103 51 := by
  unfold pk_table at h
  obtain ⟨rfl, h⟩ := h
  rcases h with ⟨a1, rfl, rfl⟩ | ⟨a1, rfl, rfl⟩
  · (repeat rw [px_u_out (by omega)])
  · rfl

theorem eb_repair_90_r {g p y x : Int32} {I I2 : px_I} {L L2 : px_L} (h : pb_repair g p y I L x I2 L2) : I2 90 = I 90 := by
  unfold pb_repair at h
  obtain ⟨rfl, h⟩ := h
  rcases h with ⟨G, g1, rfl, rfl⟩ | ⟨a1, rfl, rfl⟩
  · have g2 := g1.1
    have gG : G = 41 ∨ G = 55 := by unfold bG at g2; omega
    unfold cRep; (repeat rw [px_u_ne (by omega)])
  · rfl

theorem eb_repair_91_r {g p y x : Int32} {I I2 : px_I} {L L2 : px_L} (h : pb_repair g p y I L x I2 L2) : I2 91 = I 91 := by
  unfold pb_repair at h
  obtain ⟨rfl, h⟩ := h
  rcases h with ⟨G, g1, rfl, rfl⟩ | ⟨a1, rfl, rfl⟩
  · have g2 := g1.1
    have gG : G = 41 ∨ G = 55 := by unfold bG at g2; omega
    unfold cRep; (repeat rw [px_u_ne (by omega)])
  · rfl

theorem eb_repair_86_3 {g p y x : Int32} {I I2 : px_I} {L L2 : px_L} (h : pb_repair g p y I L x I2 L2) : I2 86 3 = I 86 3 := by
  unfold pb_repair at h
  obtain ⟨rfl, h⟩ := h
  rcases h with ⟨G, g1, rfl, rfl⟩ | ⟨a1, rfl, rfl⟩
  · have g2 := g1.1
    have gG : G = 41 ∨ G = 55 := by unfold bG at g2; omega
    unfold cRep; (repeat rw [px_u_out (by omega)])
  · rfl

theorem eb_repair_86_4 {g p y x : Int32} {I I2 : px_I} {L L2 : px_L} (h : pb_repair g p y I L x I2 L2) : I2 86 4 = I 86 4 := by
  unfold pb_repair at h
  obtain ⟨rfl, h⟩ := h
  rcases h with ⟨G, g1, rfl, rfl⟩ | ⟨a1, rfl, rfl⟩
  · have g2 := g1.1
    have gG : G = 41 ∨ G = 55 := by unfold bG at g2; omega
    unfold cRep; (repeat rw [px_u_out (by omega)])
  · rfl

theorem eb_repair_86_5 {g p y x : Int32} {I I2 : px_I} {L L2 : px_L} (h : pb_repair g p y I L x I2 L2) : I2 86 5 = I 86 5 := by
  unfold pb_repair at h
  obtain ⟨rfl, h⟩ := h
  rcases h with ⟨G, g1, rfl, rfl⟩ | ⟨a1, rfl, rfl⟩
  · have g2 := g1.1
    have gG : G = 41 ∨ G = 55 := by unfold bG at g2; omega
    unfold cRep; (repeat rw [px_u_out (by omega)])
  · rfl

theorem eb_repair_86_6 {g p y x : Int32} {I I2 : px_I} {L L2 : px_L} (h : pb_repair g p y I L x I2 L2) : I2 86 6 = I 86 6 := by
  unfold pb_repair at h
  obtain ⟨rfl, h⟩ := h
  rcases h with ⟨G, g1, rfl, rfl⟩ | ⟨a1, rfl, rfl⟩
  · have g2 := g1.1
    have gG : G = 41 ∨ G = 55 := by unfold bG at g2; omega
    unfold cRep; (repeat rw [px_u_out (by omega)])
  · rfl

theorem eb_repair_86_7 {g p y x : Int32} {I I2 : px_I} {L L2 : px_L} (h : pb_repair g p y I L x I2 L2) : I2 86 7 = I 86 7 := by
  unfold pb_repair at h
  obtain ⟨rfl, h⟩ := h
  rcases h with ⟨G, g1, rfl, rfl⟩ | ⟨a1, rfl, rfl⟩
  · have g2 := g1.1
    have gG : G = 41 ∨ G = 55 := by unfold bG at g2; omega
    unfold cRep; (repeat rw [px_u_out (by omega)])
  · rfl

theorem eb_repair_9999_r {g p y x : Int32} {I I2 : px_I} {L L2 : px_L} (h : pb_repair g p y I L x I2 L2) (b : Nat) (hb : (77 ≤ b ∧ b ≤ 79) ∨ 147 ≤ b) : I2 b = I b := by
  unfold pb_repair at h
  obtain ⟨rfl, h⟩ := h
  rcases h with ⟨G, g1, rfl, rfl⟩ | ⟨a1, rfl, rfl⟩
  · have g2 := g1.1
    have gG : G = 41 ∨ G = 55 := by unfold bG at g2; omega
    unfold cRep; (repeat rw [px_u_ne (by omega)])
  · rfl

theorem ek_repair_129_r {g p y x : Int32} {I I2 : px_I} {L L2 : px_L} (h : pk_repair g p y I L x I2 L2) : I2 129 = I 129 := by
  unfold pk_repair at h
  obtain ⟨rfl, h⟩ := h
  rcases h with ⟨a1, rfl, rfl⟩ | ⟨a1, rfl, rfl⟩
  · (repeat rw [px_u_ne (by omega)])
  · rfl

theorem ek_repair_130_r {g p y x : Int32} {I I2 : px_I} {L L2 : px_L} (h : pk_repair g p y I L x I2 L2) : I2 130 = I 130 := by
  unfold pk_repair at h
  obtain ⟨rfl, h⟩ := h
  rcases h with ⟨a1, rfl, rfl⟩ | ⟨a1, rfl, rfl⟩
  · (repeat rw [px_u_ne (by omega)])
  · rfl

theorem ek_repair_131_r {g p y x : Int32} {I I2 : px_I} {L L2 : px_L} (h : pk_repair g p y I L x I2 L2) : I2 131 = I 131 := by
  unfold pk_repair at h
  obtain ⟨rfl, h⟩ := h
  rcases h with ⟨a1, rfl, rfl⟩ | ⟨a1, rfl, rfl⟩
  · (repeat rw [px_u_ne (by omega)])
  · rfl

theorem ek_repair_103_47 {g p y x : Int32} {I I2 : px_I} {L L2 : px_L} (h : pk_repair g p y I L x I2 L2) : I2 103 47 = I 103 47 := by
  unfold pk_repair at h
  obtain ⟨rfl, h⟩ := h
  rcases h with ⟨a1, rfl, rfl⟩ | ⟨a1, rfl, rfl⟩
  · (repeat rw [px_u_out (by omega)])
  · rfl

theorem ek_repair_103_48 {g p y x : Int32} {I I2 : px_I} {L L2 : px_L} (h : pk_repair g p y I L x I2 L2) : I2 103 48 = I 103 48 := by
  unfold pk_repair at h
  obtain ⟨rfl, h⟩ := h
  rcases h with ⟨a1, rfl, rfl⟩ | ⟨a1, rfl, rfl⟩
  · (repeat rw [px_u_out (by omega)])
  · rfl

theorem ek_repair_103_49 {g p y x : Int32} {I I2 : px_I} {L L2 : px_L} (h : pk_repair g p y I L x I2 L2) : I2 103 49 = I 103 49 := by
  unfold pk_repair at h
  obtain ⟨rfl, h⟩ := h
  rcases h with ⟨a1, rfl, rfl⟩ | ⟨a1, rfl, rfl⟩
  · (repeat rw [px_u_out (by omega)])
  · rfl

theorem ek_repair_103_50 {g p y x : Int32} {I I2 : px_I} {L L2 : px_L} (h : pk_repair g p y I L x I2 L2) : I2 103 50 = I 103 50 := by
  unfold pk_repair at h
  obtain ⟨rfl, h⟩ := h
  rcases h with ⟨a1, rfl, rfl⟩ | ⟨a1, rfl, rfl⟩
  · (repeat rw [px_u_out (by omega)])
  · rfl

theorem ek_repair_103_51 {g p y x : Int32} {I I2 : px_I} {L L2 : px_L} (h : pk_repair g p y I L x I2 L2) : I2 103 51 = I 103 51 := by
  unfold pk_repair at h
  obtain ⟨rfl, h⟩ := h
  rcases h with ⟨a1, rfl, rfl⟩ | ⟨a1, rfl, rfl⟩
  · (repeat rw [px_u_out (by omega)])
  · rfl

theorem eb_lime_90_r {v x : Int32} {I I2 : px_I} {L L2 : px_L} (h : pb_lime v I L x I2 L2) : I2 90 = I 90 := by
  unfold pb_lime at h
  obtain ⟨rfl, h⟩ := h
  rcases h with ⟨a1, rfl, rfl⟩ | ⟨a1, rfl, rfl⟩
  · (repeat rw [px_u_ne (by omega)])
  · rfl

theorem eb_lime_91_r {v x : Int32} {I I2 : px_I} {L L2 : px_L} (h : pb_lime v I L x I2 L2) : I2 91 = I 91 := by
  unfold pb_lime at h
  obtain ⟨rfl, h⟩ := h
  rcases h with ⟨a1, rfl, rfl⟩ | ⟨a1, rfl, rfl⟩
  · (repeat rw [px_u_ne (by omega)])
  · rfl

theorem eb_lime_86_3 {v x : Int32} {I I2 : px_I} {L L2 : px_L} (h : pb_lime v I L x I2 L2) : I2 86 3 = I 86 3 := by
  unfold pb_lime at h
  obtain ⟨rfl, h⟩ := h
  rcases h with ⟨a1, rfl, rfl⟩ | ⟨a1, rfl, rfl⟩
  · (repeat rw [px_u_out (by omega)])
  · rfl

theorem eb_lime_86_4 {v x : Int32} {I I2 : px_I} {L L2 : px_L} (h : pb_lime v I L x I2 L2) : I2 86 4 = I 86 4 := by
  unfold pb_lime at h
  obtain ⟨rfl, h⟩ := h
  rcases h with ⟨a1, rfl, rfl⟩ | ⟨a1, rfl, rfl⟩
  · (repeat rw [px_u_out (by omega)])
  · rfl

theorem eb_lime_86_5 {v x : Int32} {I I2 : px_I} {L L2 : px_L} (h : pb_lime v I L x I2 L2) : I2 86 5 = I 86 5 := by
  unfold pb_lime at h
  obtain ⟨rfl, h⟩ := h
  rcases h with ⟨a1, rfl, rfl⟩ | ⟨a1, rfl, rfl⟩
  · (repeat rw [px_u_out (by omega)])
  · rfl

theorem eb_lime_86_6 {v x : Int32} {I I2 : px_I} {L L2 : px_L} (h : pb_lime v I L x I2 L2) : I2 86 6 = I 86 6 := by
  unfold pb_lime at h
  obtain ⟨rfl, h⟩ := h
  rcases h with ⟨a1, rfl, rfl⟩ | ⟨a1, rfl, rfl⟩
  · (repeat rw [px_u_out (by omega)])
  · rfl

theorem eb_lime_86_7 {v x : Int32} {I I2 : px_I} {L L2 : px_L} (h : pb_lime v I L x I2 L2) : I2 86 7 = I 86 7 := by
  unfold pb_lime at h
  obtain ⟨rfl, h⟩ := h
  rcases h with ⟨a1, rfl, rfl⟩ | ⟨a1, rfl, rfl⟩
  · (repeat rw [px_u_out (by omega)])
  · rfl

theorem eb_lime_9999_r {v x : Int32} {I I2 : px_I} {L L2 : px_L} (h : pb_lime v I L x I2 L2) (b : Nat) (hb : (77 ≤ b ∧ b ≤ 79) ∨ 147 ≤ b) : I2 b = I b := by
  unfold pb_lime at h
  obtain ⟨rfl, h⟩ := h
  rcases h with ⟨a1, rfl, rfl⟩ | ⟨a1, rfl, rfl⟩
  · (repeat rw [px_u_ne (by omega)])
  · rfl

theorem ek_lime_129_r {v x : Int32} {I I2 : px_I} {L L2 : px_L} (h : pk_lime v I L x I2 L2) : I2 129 = I 129 := by
  unfold pk_lime at h
  obtain ⟨rfl, h⟩ := h
  rcases h with ⟨a1, a2, rfl, rfl⟩ | ⟨a1, rfl, rfl⟩
  · (repeat rw [px_u_ne (by omega)])
  · rfl

theorem ek_lime_130_r {v x : Int32} {I I2 : px_I} {L L2 : px_L} (h : pk_lime v I L x I2 L2) : I2 130 = I 130 := by
  unfold pk_lime at h
  obtain ⟨rfl, h⟩ := h
  rcases h with ⟨a1, a2, rfl, rfl⟩ | ⟨a1, rfl, rfl⟩
  · (repeat rw [px_u_ne (by omega)])
  · rfl

theorem ek_lime_131_r {v x : Int32} {I I2 : px_I} {L L2 : px_L} (h : pk_lime v I L x I2 L2) : I2 131 = I 131 := by
  unfold pk_lime at h
  obtain ⟨rfl, h⟩ := h
  rcases h with ⟨a1, a2, rfl, rfl⟩ | ⟨a1, rfl, rfl⟩
  · (repeat rw [px_u_ne (by omega)])
  · rfl

theorem ek_lime_103_47 {v x : Int32} {I I2 : px_I} {L L2 : px_L} (h : pk_lime v I L x I2 L2) : I2 103 47 = I 103 47 := by
  unfold pk_lime at h
  obtain ⟨rfl, h⟩ := h
  rcases h with ⟨a1, a2, rfl, rfl⟩ | ⟨a1, rfl, rfl⟩
  · (repeat rw [px_u_out (by omega)])
  · rfl

theorem ek_lime_103_48 {v x : Int32} {I I2 : px_I} {L L2 : px_L} (h : pk_lime v I L x I2 L2) : I2 103 48 = I 103 48 := by
  unfold pk_lime at h
  obtain ⟨rfl, h⟩ := h
  rcases h with ⟨a1, a2, rfl, rfl⟩ | ⟨a1, rfl, rfl⟩
  · (repeat rw [px_u_out (by omega)])
  · rfl

theorem ek_lime_103_49 {v x : Int32} {I I2 : px_I} {L L2 : px_L} (h : pk_lime v I L x I2 L2) : I2 103 49 = I 103 49 := by
  unfold pk_lime at h
  obtain ⟨rfl, h⟩ := h
  rcases h with ⟨a1, a2, rfl, rfl⟩ | ⟨a1, rfl, rfl⟩
  · (repeat rw [px_u_out (by omega)])
  · rfl

theorem ek_lime_103_50 {v x : Int32} {I I2 : px_I} {L L2 : px_L} (h : pk_lime v I L x I2 L2) : I2 103 50 = I 103 50 := by
  unfold pk_lime at h
  obtain ⟨rfl, h⟩ := h
  rcases h with ⟨a1, a2, rfl, rfl⟩ | ⟨a1, rfl, rfl⟩
  · (repeat rw [px_u_out (by omega)])
  · rfl

theorem ek_lime_103_51 {v x : Int32} {I I2 : px_I} {L L2 : px_L} (h : pk_lime v I L x I2 L2) : I2 103 51 = I 103 51 := by
  unfold pk_lime at h
  obtain ⟨rfl, h⟩ := h
  rcases h with ⟨a1, a2, rfl, rfl⟩ | ⟨a1, rfl, rfl⟩
  · (repeat rw [px_u_out (by omega)])
  · rfl

theorem eb_flow_90_r {g y k h x : Int32} {I I2 : px_I} {L L2 : px_L} (h : pb_flow g y k h I L x I2 L2) : I2 90 = I 90 := by
  unfold pb_flow at h
  exact funext fun j => h.1 90 j (by omega)

theorem eb_flow_91_r {g y k h x : Int32} {I I2 : px_I} {L L2 : px_L} (h : pb_flow g y k h I L x I2 L2) : I2 91 = I 91 := by
  unfold pb_flow at h
  exact funext fun j => h.1 91 j (by omega)

theorem eb_flow_86_3 {g y k h x : Int32} {I I2 : px_I} {L L2 : px_L} (h : pb_flow g y k h I L x I2 L2) : I2 86 3 = I 86 3 := by
  unfold pb_flow at h
  exact h.1 86 3 (by omega)

theorem eb_flow_86_4 {g y k h x : Int32} {I I2 : px_I} {L L2 : px_L} (h : pb_flow g y k h I L x I2 L2) : I2 86 4 = I 86 4 := by
  unfold pb_flow at h
  exact h.1 86 4 (by omega)

theorem eb_flow_86_5 {g y k h x : Int32} {I I2 : px_I} {L L2 : px_L} (h : pb_flow g y k h I L x I2 L2) : I2 86 5 = I 86 5 := by
  unfold pb_flow at h
  exact h.1 86 5 (by omega)

theorem eb_flow_86_6 {g y k h x : Int32} {I I2 : px_I} {L L2 : px_L} (h : pb_flow g y k h I L x I2 L2) : I2 86 6 = I 86 6 := by
  unfold pb_flow at h
  exact h.1 86 6 (by omega)

theorem eb_flow_86_7 {g y k h x : Int32} {I I2 : px_I} {L L2 : px_L} (h : pb_flow g y k h I L x I2 L2) : I2 86 7 = I 86 7 := by
  unfold pb_flow at h
  exact h.1 86 7 (by omega)

theorem eb_flow_9999_r {g y k h x : Int32} {I I2 : px_I} {L L2 : px_L} (h : pb_flow g y k h I L x I2 L2) (b : Nat) (hb : (77 ≤ b ∧ b ≤ 79) ∨ 147 ≤ b) : I2 b = I b := by
  unfold pb_flow at h
  exact funext fun j => h.1 b j (by omega)

theorem ek_flow_129_r {g y k h x : Int32} {I I2 : px_I} {L L2 : px_L} (h : pk_flow g y k h I L x I2 L2) : I2 129 = I 129 := by
  unfold pk_flow at h
  exact funext fun j => h.1 129 j (by omega)

theorem ek_flow_130_r {g y k h x : Int32} {I I2 : px_I} {L L2 : px_L} (h : pk_flow g y k h I L x I2 L2) : I2 130 = I 130 := by
  unfold pk_flow at h
  exact funext fun j => h.1 130 j (by omega)

theorem ek_flow_131_r {g y k h x : Int32} {I I2 : px_I} {L L2 : px_L} (h : pk_flow g y k h I L x I2 L2) : I2 131 = I 131 := by
  unfold pk_flow at h
  exact funext fun j => h.1 131 j (by omega)

theorem ek_flow_103_47 {g y k h x : Int32} {I I2 : px_I} {L L2 : px_L} (h : pk_flow g y k h I L x I2 L2) : I2 103 47 = I 103 47 := by
  unfold pk_flow at h
  exact h.1 103 47 (by omega)

theorem ek_flow_103_48 {g y k h x : Int32} {I I2 : px_I} {L L2 : px_L} (h : pk_flow g y k h I L x I2 L2) : I2 103 48 = I 103 48 := by
  unfold pk_flow at h
  exact h.1 103 48 (by omega)

theorem ek_flow_103_49 {g y k h x : Int32} {I I2 : px_I} {L L2 : px_L} (h : pk_flow g y k h I L x I2 L2) : I2 103 49 = I 103 49 := by
  unfold pk_flow at h
  exact h.1 103 49 (by omega)

theorem ek_flow_103_50 {g y k h x : Int32} {I I2 : px_I} {L L2 : px_L} (h : pk_flow g y k h I L x I2 L2) : I2 103 50 = I 103 50 := by
  unfold pk_flow at h
  exact h.1 103 50 (by omega)

theorem ek_flow_103_51 {g y k h x : Int32} {I I2 : px_I} {L L2 : px_L} (h : pk_flow g y k h I L x I2 L2) : I2 103 51 = I 103 51 := by
  unfold pk_flow at h
  exact h.1 103 51 (by omega)

theorem eb_narrow_90_r {g y k x : Int32} {I I2 : px_I} {L L2 : px_L} (h : pb_narrow g y k I L x I2 L2) : I2 90 = I 90 := by
  unfold pb_narrow at h
  exact funext fun j => h.1 90 j (by omega)

theorem eb_narrow_91_r {g y k x : Int32} {I I2 : px_I} {L L2 : px_L} (h : pb_narrow g y k I L x I2 L2) : I2 91 = I 91 := by
  unfold pb_narrow at h
  exact funext fun j => h.1 91 j (by omega)

theorem eb_narrow_86_3 {g y k x : Int32} {I I2 : px_I} {L L2 : px_L} (h : pb_narrow g y k I L x I2 L2) : I2 86 3 = I 86 3 := by
  unfold pb_narrow at h
  exact h.1 86 3 (by omega)

theorem eb_narrow_86_4 {g y k x : Int32} {I I2 : px_I} {L L2 : px_L} (h : pb_narrow g y k I L x I2 L2) : I2 86 4 = I 86 4 := by
  unfold pb_narrow at h
  exact h.1 86 4 (by omega)

theorem eb_narrow_86_5 {g y k x : Int32} {I I2 : px_I} {L L2 : px_L} (h : pb_narrow g y k I L x I2 L2) : I2 86 5 = I 86 5 := by
  unfold pb_narrow at h
  exact h.1 86 5 (by omega)

theorem eb_narrow_86_6 {g y k x : Int32} {I I2 : px_I} {L L2 : px_L} (h : pb_narrow g y k I L x I2 L2) : I2 86 6 = I 86 6 := by
  unfold pb_narrow at h
  exact h.1 86 6 (by omega)

theorem eb_narrow_86_7 {g y k x : Int32} {I I2 : px_I} {L L2 : px_L} (h : pb_narrow g y k I L x I2 L2) : I2 86 7 = I 86 7 := by
  unfold pb_narrow at h
  exact h.1 86 7 (by omega)

theorem eb_narrow_9999_r {g y k x : Int32} {I I2 : px_I} {L L2 : px_L} (h : pb_narrow g y k I L x I2 L2) (b : Nat) (hb : (77 ≤ b ∧ b ≤ 79) ∨ 147 ≤ b) : I2 b = I b := by
  unfold pb_narrow at h
  exact funext fun j => h.1 b j (by omega)

theorem ek_narrow_129_r {g y k x : Int32} {I I2 : px_I} {L L2 : px_L} (h : pk_narrow g y k I L x I2 L2) : I2 129 = I 129 := by
  unfold pk_narrow at h
  exact funext fun j => h.1 129 j (by omega)

theorem ek_narrow_130_r {g y k x : Int32} {I I2 : px_I} {L L2 : px_L} (h : pk_narrow g y k I L x I2 L2) : I2 130 = I 130 := by
  unfold pk_narrow at h
  exact funext fun j => h.1 130 j (by omega)

theorem ek_narrow_131_r {g y k x : Int32} {I I2 : px_I} {L L2 : px_L} (h : pk_narrow g y k I L x I2 L2) : I2 131 = I 131 := by
  unfold pk_narrow at h
  exact funext fun j => h.1 131 j (by omega)

theorem ek_narrow_103_47 {g y k x : Int32} {I I2 : px_I} {L L2 : px_L} (h : pk_narrow g y k I L x I2 L2) : I2 103 47 = I 103 47 := by
  unfold pk_narrow at h
  exact h.1 103 47 (by omega)

theorem ek_narrow_103_48 {g y k x : Int32} {I I2 : px_I} {L L2 : px_L} (h : pk_narrow g y k I L x I2 L2) : I2 103 48 = I 103 48 := by
  unfold pk_narrow at h
  exact h.1 103 48 (by omega)

theorem ek_narrow_103_49 {g y k x : Int32} {I I2 : px_I} {L L2 : px_L} (h : pk_narrow g y k I L x I2 L2) : I2 103 49 = I 103 49 := by
  unfold pk_narrow at h
  exact h.1 103 49 (by omega)

theorem ek_narrow_103_50 {g y k x : Int32} {I I2 : px_I} {L L2 : px_L} (h : pk_narrow g y k I L x I2 L2) : I2 103 50 = I 103 50 := by
  unfold pk_narrow at h
  exact h.1 103 50 (by omega)

theorem ek_narrow_103_51 {g y k x : Int32} {I I2 : px_I} {L L2 : px_L} (h : pk_narrow g y k I L x I2 L2) : I2 103 51 = I 103 51 := by
  unfold pk_narrow at h
  exact h.1 103 51 (by omega)

theorem eb_about_90_r {w x : Int32} {I I2 : px_I} {L L2 : px_L} (h : pb_about w I L x I2 L2) : I2 90 = I 90 := by
  unfold pb_about at h
  rw [h.1]

theorem eb_about_91_r {w x : Int32} {I I2 : px_I} {L L2 : px_L} (h : pb_about w I L x I2 L2) : I2 91 = I 91 := by
  unfold pb_about at h
  rw [h.1]

theorem eb_about_86_3 {w x : Int32} {I I2 : px_I} {L L2 : px_L} (h : pb_about w I L x I2 L2) : I2 86 3 = I 86 3 := by
  unfold pb_about at h
  rw [h.1]

theorem eb_about_86_4 {w x : Int32} {I I2 : px_I} {L L2 : px_L} (h : pb_about w I L x I2 L2) : I2 86 4 = I 86 4 := by
  unfold pb_about at h
  rw [h.1]

theorem eb_about_86_5 {w x : Int32} {I I2 : px_I} {L L2 : px_L} (h : pb_about w I L x I2 L2) : I2 86 5 = I 86 5 := by
  unfold pb_about at h
  rw [h.1]

theorem eb_about_86_6 {w x : Int32} {I I2 : px_I} {L L2 : px_L} (h : pb_about w I L x I2 L2) : I2 86 6 = I 86 6 := by
  unfold pb_about at h
  rw [h.1]

theorem eb_about_86_7 {w x : Int32} {I I2 : px_I} {L L2 : px_L} (h : pb_about w I L x I2 L2) : I2 86 7 = I 86 7 := by
  unfold pb_about at h
  rw [h.1]

theorem eb_about_9999_r {w x : Int32} {I I2 : px_I} {L L2 : px_L} (h : pb_about w I L x I2 L2) (b : Nat) (hb : (77 ≤ b ∧ b ≤ 79) ∨ 147 ≤ b) : I2 b = I b := by
  unfold pb_about at h
  rw [h.1]

theorem ek_about_129_r {w x : Int32} {I I2 : px_I} {L L2 : px_L} (h : pk_about w I L x I2 L2) : I2 129 = I 129 := by
  unfold pk_about at h
  rw [h.1]

theorem ek_about_130_r {w x : Int32} {I I2 : px_I} {L L2 : px_L} (h : pk_about w I L x I2 L2) : I2 130 = I 130 := by
  unfold pk_about at h
  rw [h.1]

theorem ek_about_131_r {w x : Int32} {I I2 : px_I} {L L2 : px_L} (h : pk_about w I L x I2 L2) : I2 131 = I 131 := by
  unfold pk_about at h
  rw [h.1]

theorem ek_about_103_47 {w x : Int32} {I I2 : px_I} {L L2 : px_L} (h : pk_about w I L x I2 L2) : I2 103 47 = I 103 47 := by
  unfold pk_about at h
  rw [h.1]

theorem ek_about_103_48 {w x : Int32} {I I2 : px_I} {L L2 : px_L} (h : pk_about w I L x I2 L2) : I2 103 48 = I 103 48 := by
  unfold pk_about at h
  rw [h.1]

theorem ek_about_103_49 {w x : Int32} {I I2 : px_I} {L L2 : px_L} (h : pk_about w I L x I2 L2) : I2 103 49 = I 103 49 := by
  unfold pk_about at h
  rw [h.1]

theorem ek_about_103_50 {w x : Int32} {I I2 : px_I} {L L2 : px_L} (h : pk_about w I L x I2 L2) : I2 103 50 = I 103 50 := by
  unfold pk_about at h
  rw [h.1]

theorem ek_about_103_51 {w x : Int32} {I I2 : px_I} {L L2 : px_L} (h : pk_about w I L x I2 L2) : I2 103 51 = I 103 51 := by
  unfold pk_about at h
  rw [h.1]

theorem eb_days_93_r {x9 x : Int32} {I I2 : px_I} {L L2 : px_L} (h : pb_days x9 I L x I2 L2) : I2 93 = I 93 := by
  unfold pb_days at h
  obtain ⟨rfl, h⟩ := h
  rcases h with ⟨a1, a2, rfl, rfl⟩ | ⟨a1, rfl, rfl⟩
  · (repeat rw [px_u_ne (by omega)])
  · rfl

theorem eb_days_94_r {x9 x : Int32} {I I2 : px_I} {L L2 : px_L} (h : pb_days x9 I L x I2 L2) : I2 94 = I 94 := by
  unfold pb_days at h
  obtain ⟨rfl, h⟩ := h
  rcases h with ⟨a1, a2, rfl, rfl⟩ | ⟨a1, rfl, rfl⟩
  · (repeat rw [px_u_ne (by omega)])
  · rfl

theorem ek_days_135_r {x9 x : Int32} {I I2 : px_I} {L L2 : px_L} (h : pk_days x9 I L x I2 L2) : I2 135 = I 135 := by
  unfold pk_days at h
  obtain ⟨rfl, h⟩ := h
  rcases h with ⟨a1, a2, a3, rfl, rfl⟩ | ⟨a1, rfl, rfl⟩
  · (repeat rw [px_u_ne (by omega)])
  · rfl

theorem ek_days_136_r {x9 x : Int32} {I I2 : px_I} {L L2 : px_L} (h : pk_days x9 I L x I2 L2) : I2 136 = I 136 := by
  unfold pk_days at h
  obtain ⟨rfl, h⟩ := h
  rcases h with ⟨a1, a2, a3, rfl, rfl⟩ | ⟨a1, rfl, rfl⟩
  · (repeat rw [px_u_ne (by omega)])
  · rfl

theorem eb_station_93_r { x : Int32} {I I2 : px_I} {L L2 : px_L} (h : pb_station  I L x I2 L2) : I2 93 = I 93 := by
  unfold pb_station at h
  obtain ⟨rfl, h⟩ := h
  rcases h with ⟨a1, rfl, rfl⟩ | ⟨a1, rfl, rfl⟩
  · (repeat rw [px_u_ne (by omega)])
  · rfl

theorem eb_station_94_r { x : Int32} {I I2 : px_I} {L L2 : px_L} (h : pb_station  I L x I2 L2) : I2 94 = I 94 := by
  unfold pb_station at h
  obtain ⟨rfl, h⟩ := h
  rcases h with ⟨a1, rfl, rfl⟩ | ⟨a1, rfl, rfl⟩
  · (repeat rw [px_u_ne (by omega)])
  · rfl

theorem ek_station_135_r { x : Int32} {I I2 : px_I} {L L2 : px_L} (h : pk_station  I L x I2 L2) : I2 135 = I 135 := by
  unfold pk_station at h
  obtain ⟨rfl, h⟩ := h
  rcases h with ⟨a1, rfl, rfl⟩ | ⟨a1, rfl, rfl⟩
  · (repeat rw [px_u_ne (by omega)])
  · rfl

theorem ek_station_136_r { x : Int32} {I I2 : px_I} {L L2 : px_L} (h : pk_station  I L x I2 L2) : I2 136 = I 136 := by
  unfold pk_station at h
  obtain ⟨rfl, h⟩ := h
  rcases h with ⟨a1, rfl, rfl⟩ | ⟨a1, rfl, rfl⟩
  · (repeat rw [px_u_ne (by omega)])
  · rfl

theorem eb_sight_93_r {a f t lo hi x : Int32} {I I2 : px_I} {L L2 : px_L} (h : pb_sight a f t lo hi I L x I2 L2) : I2 93 = I 93 := by
  unfold pb_sight at h
  obtain ⟨rfl, h⟩ := h
  rcases h with ⟨a1, rfl, rfl⟩ | ⟨a1, rfl, rfl⟩
  · (repeat rw [px_u_ne (by omega)])
  · rfl

theorem eb_sight_94_r {a f t lo hi x : Int32} {I I2 : px_I} {L L2 : px_L} (h : pb_sight a f t lo hi I L x I2 L2) : I2 94 = I 94 := by
  unfold pb_sight at h
  obtain ⟨rfl, h⟩ := h
  rcases h with ⟨a1, rfl, rfl⟩ | ⟨a1, rfl, rfl⟩
  · (repeat rw [px_u_ne (by omega)])
  · rfl

theorem ek_sight_135_r {a f t lo hi x : Int32} {I I2 : px_I} {L L2 : px_L} (h : pk_sight a f t lo hi I L x I2 L2) : I2 135 = I 135 := by
  unfold pk_sight at h
  obtain ⟨rfl, h⟩ := h
  rcases h with ⟨a1, rfl, rfl⟩ | ⟨a1, rfl, rfl⟩
  · (repeat rw [px_u_ne (by omega)])
  · rfl

theorem ek_sight_136_r {a f t lo hi x : Int32} {I I2 : px_I} {L L2 : px_L} (h : pk_sight a f t lo hi I L x I2 L2) : I2 136 = I 136 := by
  unfold pk_sight at h
  obtain ⟨rfl, h⟩ := h
  rcases h with ⟨a1, rfl, rfl⟩ | ⟨a1, rfl, rfl⟩
  · (repeat rw [px_u_ne (by omega)])
  · rfl

theorem eb_closed_93_r {a k x : Int32} {I I2 : px_I} {L L2 : px_L} (h : pb_closed a k I L x I2 L2) : I2 93 = I 93 := by
  unfold pb_closed at h
  obtain ⟨rfl, h⟩ := h
  rfl

theorem eb_closed_94_r {a k x : Int32} {I I2 : px_I} {L L2 : px_L} (h : pb_closed a k I L x I2 L2) : I2 94 = I 94 := by
  unfold pb_closed at h
  obtain ⟨rfl, h⟩ := h
  rfl

theorem ek_closed_135_r {a k x : Int32} {I I2 : px_I} {L L2 : px_L} (h : pk_closed a k I L x I2 L2) : I2 135 = I 135 := by
  unfold pk_closed at h
  exact funext fun j => h.1 135 j (by omega)

theorem ek_closed_136_r {a k x : Int32} {I I2 : px_I} {L L2 : px_L} (h : pk_closed a k I L x I2 L2) : I2 136 = I 136 := by
  unfold pk_closed at h
  exact funext fun j => h.1 136 j (by omega)

theorem eb_span_93_r {a t k h x : Int32} {I I2 : px_I} {L L2 : px_L} (h : pb_span a t k h I L x I2 L2) : I2 93 = I 93 := by
  unfold pb_span at h
  obtain ⟨rfl, h⟩ := h
  rfl

theorem eb_span_94_r {a t k h x : Int32} {I I2 : px_I} {L L2 : px_L} (h : pb_span a t k h I L x I2 L2) : I2 94 = I 94 := by
  unfold pb_span at h
  obtain ⟨rfl, h⟩ := h
  rfl

theorem ek_span_135_r {a t k h x : Int32} {I I2 : px_I} {L L2 : px_L} (h : pk_span a t k h I L x I2 L2) : I2 135 = I 135 := by
  unfold pk_span at h
  exact funext fun j => h.1 135 j (by omega)

theorem ek_span_136_r {a t k h x : Int32} {I I2 : px_I} {L L2 : px_L} (h : pk_span a t k h I L x I2 L2) : I2 136 = I 136 := by
  unfold pk_span at h
  exact funext fun j => h.1 136 j (by omega)

theorem eb_gap_93_r {a f t k h x : Int32} {I I2 : px_I} {L L2 : px_L} (h : pb_gap a f t k h I L x I2 L2) : I2 93 = I 93 := by
  unfold pb_gap at h
  obtain ⟨rfl, h⟩ := h
  rfl

theorem eb_gap_94_r {a f t k h x : Int32} {I I2 : px_I} {L L2 : px_L} (h : pb_gap a f t k h I L x I2 L2) : I2 94 = I 94 := by
  unfold pb_gap at h
  obtain ⟨rfl, h⟩ := h
  rfl

theorem ek_gap_135_r {a f t k h x : Int32} {I I2 : px_I} {L L2 : px_L} (h : pk_gap a f t k h I L x I2 L2) : I2 135 = I 135 := by
  unfold pk_gap at h
  exact funext fun j => h.1 135 j (by omega)

theorem ek_gap_136_r {a f t k h x : Int32} {I I2 : px_I} {L L2 : px_L} (h : pk_gap a f t k h I L x I2 L2) : I2 136 = I 136 := by
  unfold pk_gap at h
  exact funext fun j => h.1 136 j (by omega)

theorem eb_blamed_93_r {a k i x : Int32} {I I2 : px_I} {L L2 : px_L} (h : pb_blamed a k i I L x I2 L2) : I2 93 = I 93 := by
  unfold pb_blamed at h
  obtain ⟨rfl, h⟩ := h
  rfl

theorem eb_blamed_94_r {a k i x : Int32} {I I2 : px_I} {L L2 : px_L} (h : pb_blamed a k i I L x I2 L2) : I2 94 = I 94 := by
  unfold pb_blamed at h
  obtain ⟨rfl, h⟩ := h
  rfl

theorem ek_blamed_135_r {a k i x : Int32} {I I2 : px_I} {L L2 : px_L} (h : pk_blamed a k i I L x I2 L2) : I2 135 = I 135 := by
  unfold pk_blamed at h
  exact funext fun j => h.1 135 j (by omega)

theorem ek_blamed_136_r {a k i x : Int32} {I I2 : px_I} {L L2 : px_L} (h : pk_blamed a k i I L x I2 L2) : I2 136 = I 136 := by
  unfold pk_blamed at h
  exact funext fun j => h.1 136 j (by omega)

theorem eb_reach_93_r {g lo hi sl fa w st x : Int32} {I I2 : px_I} {L L2 : px_L} (h : pb_reach g lo hi sl fa w st I L x I2 L2) : I2 93 = I 93 := by
  unfold pb_reach at h
  obtain ⟨rfl, h⟩ := h
  rcases h with ⟨G, ⟨g1, g2, g3⟩, rfl, rfl⟩ | ⟨a1, rfl, rfl⟩
  · have gG : G = 41 ∨ G = 55 := by unfold bG at g1; omega
    rw [cReach_o (by omega)]
  · rfl

theorem eb_reach_94_r {g lo hi sl fa w st x : Int32} {I I2 : px_I} {L L2 : px_L} (h : pb_reach g lo hi sl fa w st I L x I2 L2) : I2 94 = I 94 := by
  unfold pb_reach at h
  obtain ⟨rfl, h⟩ := h
  rcases h with ⟨G, ⟨g1, g2, g3⟩, rfl, rfl⟩ | ⟨a1, rfl, rfl⟩
  · have gG : G = 41 ∨ G = 55 := by unfold bG at g1; omega
    rw [cReach_o (by omega)]
  · rfl

theorem ek_reach_135_r {g lo hi sl fa w st x : Int32} {I I2 : px_I} {L L2 : px_L} (h : pk_reach g lo hi sl fa w st I L x I2 L2) : I2 135 = I 135 := by
  unfold pk_reach at h
  obtain ⟨rfl, h⟩ := h
  rcases h with ⟨a1, rfl, rfl⟩ | ⟨a1, rfl, rfl⟩
  · unfold mReach; (repeat rw [px_u_ne (by omega)])
  · rfl

theorem ek_reach_136_r {g lo hi sl fa w st x : Int32} {I I2 : px_I} {L L2 : px_L} (h : pk_reach g lo hi sl fa w st I L x I2 L2) : I2 136 = I 136 := by
  unfold pk_reach at h
  obtain ⟨rfl, h⟩ := h
  rcases h with ⟨a1, rfl, rfl⟩ | ⟨a1, rfl, rfl⟩
  · unfold mReach; (repeat rw [px_u_ne (by omega)])
  · rfl

theorem eb_mouth_93_r {g st x : Int32} {I I2 : px_I} {L L2 : px_L} (h : pb_mouth g st I L x I2 L2) : I2 93 = I 93 := by
  unfold pb_mouth at h
  obtain ⟨rfl, h⟩ := h
  rcases h with ⟨G, g1, rfl⟩ | rfl
  · have gG : G = 41 ∨ G = 55 := by unfold bG at g1; omega
    (repeat rw [px_u_ne (by omega)])
  · rfl

theorem eb_mouth_94_r {g st x : Int32} {I I2 : px_I} {L L2 : px_L} (h : pb_mouth g st I L x I2 L2) : I2 94 = I 94 := by
  unfold pb_mouth at h
  obtain ⟨rfl, h⟩ := h
  rcases h with ⟨G, g1, rfl⟩ | rfl
  · have gG : G = 41 ∨ G = 55 := by unfold bG at g1; omega
    (repeat rw [px_u_ne (by omega)])
  · rfl

theorem ek_mouth_135_r {g st x : Int32} {I I2 : px_I} {L L2 : px_L} (h : pk_mouth g st I L x I2 L2) : I2 135 = I 135 := by
  unfold pk_mouth at h
  obtain ⟨rfl, h⟩ := h
  rcases h with ⟨a1, a2, rfl, rfl⟩ | ⟨a1, rfl, rfl⟩
  · (repeat rw [px_u_ne (by omega)])
  · rfl

theorem ek_mouth_136_r {g st x : Int32} {I I2 : px_I} {L L2 : px_L} (h : pk_mouth g st I L x I2 L2) : I2 136 = I 136 := by
  unfold pk_mouth at h
  obtain ⟨rfl, h⟩ := h
  rcases h with ⟨a1, a2, rfl, rfl⟩ | ⟨a1, rfl, rfl⟩
  · (repeat rw [px_u_ne (by omega)])
  · rfl

theorem eb_mark_93_r {g p f t x : Int32} {I I2 : px_I} {L L2 : px_L} (h : pb_mark g p f t I L x I2 L2) : I2 93 = I 93 := by
  unfold pb_mark at h
  obtain ⟨rfl, h⟩ := h
  rcases h with ⟨G, g1, rfl, rfl⟩ | ⟨a1, rfl, rfl⟩
  · have g2 := g1.1
    have gG : G = 41 ∨ G = 55 := by unfold bG at g2; omega
    unfold cMark; (repeat rw [px_u_ne (by omega)])
  · rfl

theorem eb_mark_94_r {g p f t x : Int32} {I I2 : px_I} {L L2 : px_L} (h : pb_mark g p f t I L x I2 L2) : I2 94 = I 94 := by
  unfold pb_mark at h
  obtain ⟨rfl, h⟩ := h
  rcases h with ⟨G, g1, rfl, rfl⟩ | ⟨a1, rfl, rfl⟩
  · have g2 := g1.1
    have gG : G = 41 ∨ G = 55 := by unfold bG at g2; omega
    unfold cMark; (repeat rw [px_u_ne (by omega)])
  · rfl

theorem ek_mark_135_r {g p f t x : Int32} {I I2 : px_I} {L L2 : px_L} (h : pk_mark g p f t I L x I2 L2) : I2 135 = I 135 := by
  unfold pk_mark at h
  obtain ⟨rfl, h⟩ := h
  rcases h with ⟨a1, rfl, rfl⟩ | ⟨a1, rfl, rfl⟩
  · unfold mMark; (repeat rw [px_u_ne (by omega)])
  · rfl

theorem ek_mark_136_r {g p f t x : Int32} {I I2 : px_I} {L L2 : px_L} (h : pk_mark g p f t I L x I2 L2) : I2 136 = I 136 := by
  unfold pk_mark at h
  obtain ⟨rfl, h⟩ := h
  rcases h with ⟨a1, rfl, rfl⟩ | ⟨a1, rfl, rfl⟩
  · unfold mMark; (repeat rw [px_u_ne (by omega)])
  · rfl

theorem eb_when_93_r {g p h x : Int32} {I I2 : px_I} {L L2 : px_L} (h : pb_when g p h I L x I2 L2) : I2 93 = I 93 := by
  unfold pb_when at h
  obtain ⟨rfl, h⟩ := h
  rw [h 93 (by decide) (by decide) (by decide) (by decide)]

theorem eb_when_94_r {g p h x : Int32} {I I2 : px_I} {L L2 : px_L} (h : pb_when g p h I L x I2 L2) : I2 94 = I 94 := by
  unfold pb_when at h
  obtain ⟨rfl, h⟩ := h
  rw [h 94 (by decide) (by decide) (by decide) (by decide)]

theorem ek_when_135_r {g p h x : Int32} {I I2 : px_I} {L L2 : px_L} (h : pk_when g p h I L x I2 L2) : I2 135 = I 135 := by
  unfold pk_when at h
  exact funext fun j => h.1 135 j (by omega)

theorem ek_when_136_r {g p h x : Int32} {I I2 : px_I} {L L2 : px_L} (h : pk_when g p h I L x I2 L2) : I2 136 = I 136 := by
  unfold pk_when at h
  exact funext fun j => h.1 136 j (by omega)

theorem eb_between_93_r {g p q h x : Int32} {I I2 : px_I} {L L2 : px_L} (h : pb_between g p q h I L x I2 L2) : I2 93 = I 93 := by
  unfold pb_between at h
  obtain ⟨rfl, h⟩ := h
  rw [h 93 (by decide) (by decide) (by decide) (by decide)]

theorem eb_between_94_r {g p q h x : Int32} {I I2 : px_I} {L L2 : px_L} (h : pb_between g p q h I L x I2 L2) : I2 94 = I 94 := by
  unfold pb_between at h
  obtain ⟨rfl, h⟩ := h
  rw [h 94 (by decide) (by decide) (by decide) (by decide)]

theorem ek_between_135_r {g p t h x : Int32} {I I2 : px_I} {L L2 : px_L} (h : pk_between g p t h I L x I2 L2) : I2 135 = I 135 := by
  unfold pk_between at h
  exact funext fun j => h.1 135 j (by omega)

theorem ek_between_136_r {g p t h x : Int32} {I I2 : px_I} {L L2 : px_L} (h : pk_between g p t h I L x I2 L2) : I2 136 = I 136 := by
  unfold pk_between at h
  exact funext fun j => h.1 136 j (by omega)

theorem eb_lamps_93_r {g p h lo hi x : Int32} {I I2 : px_I} {L L2 : px_L} (h : pb_lamps g p h lo hi I L x I2 L2) : I2 93 = I 93 := by
  unfold pb_lamps at h
  rw [h.1]

theorem eb_lamps_94_r {g p h lo hi x : Int32} {I I2 : px_I} {L L2 : px_L} (h : pb_lamps g p h lo hi I L x I2 L2) : I2 94 = I 94 := by
  unfold pb_lamps at h
  rw [h.1]

theorem ek_lamps_135_r {g p h lo hi x : Int32} {I I2 : px_I} {L L2 : px_L} (h : pk_lamps g p h lo hi I L x I2 L2) : I2 135 = I 135 := by
  unfold pk_lamps at h
  rw [h.1]

theorem ek_lamps_136_r {g p h lo hi x : Int32} {I I2 : px_I} {L L2 : px_L} (h : pk_lamps g p h lo hi I L x I2 L2) : I2 136 = I 136 := by
  unfold pk_lamps at h
  rw [h.1]

theorem eb_count_93_r {u lo hi x : Int32} {I I2 : px_I} {L L2 : px_L} (h : pb_count u lo hi I L x I2 L2) : I2 93 = I 93 := by
  unfold pb_count at h
  obtain ⟨rfl, h⟩ := h
  rcases h with ⟨a1, rfl, rfl⟩ | ⟨a1, rfl, rfl⟩
  · (repeat rw [px_u_ne (by omega)])
  · rfl

theorem eb_count_94_r {u lo hi x : Int32} {I I2 : px_I} {L L2 : px_L} (h : pb_count u lo hi I L x I2 L2) : I2 94 = I 94 := by
  unfold pb_count at h
  obtain ⟨rfl, h⟩ := h
  rcases h with ⟨a1, rfl, rfl⟩ | ⟨a1, rfl, rfl⟩
  · (repeat rw [px_u_ne (by omega)])
  · rfl

theorem ek_count_135_r {u lo hi x : Int32} {I I2 : px_I} {L L2 : px_L} (h : pk_count u lo hi I L x I2 L2) : I2 135 = I 135 := by
  unfold pk_count at h
  rcases h with ⟨a1, rfl, rfl, rfl⟩ | ⟨a1, rfl, rfl, rfl⟩
  · (repeat rw [px_u_ne (by omega)])
  · rfl

theorem ek_count_136_r {u lo hi x : Int32} {I I2 : px_I} {L L2 : px_L} (h : pk_count u lo hi I L x I2 L2) : I2 136 = I 136 := by
  unfold pk_count at h
  rcases h with ⟨a1, rfl, rfl, rfl⟩ | ⟨a1, rfl, rfl, rfl⟩
  · (repeat rw [px_u_ne (by omega)])
  · rfl

theorem eb_unit_93_r {h x : Int32} {I I2 : px_I} {L L2 : px_L} (h : pb_unit h I L x I2 L2) : I2 93 = I 93 := by
  unfold pb_unit at h
  rw [h.1]

theorem eb_unit_94_r {h x : Int32} {I I2 : px_I} {L L2 : px_L} (h : pb_unit h I L x I2 L2) : I2 94 = I 94 := by
  unfold pb_unit at h
  rw [h.1]

theorem ek_unit_135_r {h x : Int32} {I I2 : px_I} {L L2 : px_L} (h : pk_unit h I L x I2 L2) : I2 135 = I 135 := by
  unfold pk_unit at h
  rw [h.1]

theorem ek_unit_136_r {h x : Int32} {I I2 : px_I} {L L2 : px_L} (h : pk_unit h I L x I2 L2) : I2 136 = I 136 := by
  unfold pk_unit at h
  rw [h.1]

theorem eb_feed_93_r {a b c d e x : Int32} {I I2 : px_I} {L L2 : px_L} (h : pb_feed a b c d e I L x I2 L2) : I2 93 = I 93 := by
  unfold pb_feed at h
  obtain ⟨rfl, h⟩ := h
  rcases h with ⟨a1, rfl, rfl⟩ | ⟨a1, rfl, rfl⟩
  · rw [cApp_o _ _ (by omega) (by omega), cApp_o _ _ (by omega) (by omega), cApp_o _ _ (by omega) (by omega), cApp_o _ _ (by omega) (by omega), cApp_o _ _ (by omega) (by omega)]
  · rfl

theorem eb_feed_94_r {a b c d e x : Int32} {I I2 : px_I} {L L2 : px_L} (h : pb_feed a b c d e I L x I2 L2) : I2 94 = I 94 := by
  unfold pb_feed at h
  obtain ⟨rfl, h⟩ := h
  rcases h with ⟨a1, rfl, rfl⟩ | ⟨a1, rfl, rfl⟩
  · rw [cApp_o _ _ (by omega) (by omega), cApp_o _ _ (by omega) (by omega), cApp_o _ _ (by omega) (by omega), cApp_o _ _ (by omega) (by omega), cApp_o _ _ (by omega) (by omega)]
  · rfl

theorem ek_feed_135_r {a b c d e x : Int32} {I I2 : px_I} {L L2 : px_L} (h : pk_feed a b c d e I L x I2 L2) : I2 135 = I 135 := by
  unfold pk_feed at h
  obtain ⟨rfl, h⟩ := h
  rcases h with ⟨a1, rfl, rfl⟩ | ⟨a1, rfl, rfl⟩
  · funext j; rw [mPut_o (by omega) (by omega), mPut_o (by omega) (by omega), mPut_o (by omega) (by omega), mPut_o (by omega) (by omega), mPut_o (by omega) (by omega)]
  · rfl

theorem ek_feed_136_r {a b c d e x : Int32} {I I2 : px_I} {L L2 : px_L} (h : pk_feed a b c d e I L x I2 L2) : I2 136 = I 136 := by
  unfold pk_feed at h
  obtain ⟨rfl, h⟩ := h
  rcases h with ⟨a1, rfl, rfl⟩ | ⟨a1, rfl, rfl⟩
  · funext j; rw [mPut_o (by omega) (by omega), mPut_o (by omega) (by omega), mPut_o (by omega) (by omega), mPut_o (by omega) (by omega), mPut_o (by omega) (by omega)]
  · rfl

theorem eb_end_93_r {x9 x : Int32} {I I2 : px_I} {L L2 : px_L} (h : pb_end x9 I L x I2 L2) : I2 93 = I 93 := by
  unfold pb_end at h
  obtain ⟨rfl, h⟩ := h
  rcases h with ⟨a1, rfl, rfl⟩ | ⟨a1, rfl, rfl⟩
  · (repeat rw [px_u_ne (by omega)])
  · rfl

theorem eb_end_94_r {x9 x : Int32} {I I2 : px_I} {L L2 : px_L} (h : pb_end x9 I L x I2 L2) : I2 94 = I 94 := by
  unfold pb_end at h
  obtain ⟨rfl, h⟩ := h
  rcases h with ⟨a1, rfl, rfl⟩ | ⟨a1, rfl, rfl⟩
  · (repeat rw [px_u_ne (by omega)])
  · rfl

theorem ek_end_135_r {x9 x : Int32} {I I2 : px_I} {L L2 : px_L} (h : pk_end x9 I L x I2 L2) : I2 135 = I 135 := by
  unfold pk_end at h
  obtain ⟨rfl, h⟩ := h
  rcases h with ⟨a1, a2, rfl, rfl⟩ | ⟨a1, rfl, rfl⟩
  · (repeat rw [px_u_ne (by omega)])
  · rfl

theorem ek_end_136_r {x9 x : Int32} {I I2 : px_I} {L L2 : px_L} (h : pk_end x9 I L x I2 L2) : I2 136 = I 136 := by
  unfold pk_end at h
  obtain ⟨rfl, h⟩ := h
  rcases h with ⟨a1, a2, rfl, rfl⟩ | ⟨a1, rfl, rfl⟩
  · (repeat rw [px_u_ne (by omega)])
  · rfl

theorem eb_way_93_r {i x : Int32} {I I2 : px_I} {L L2 : px_L} (h : pb_way i I L x I2 L2) : I2 93 = I 93 := by
  unfold pb_way at h
  exact funext fun j => h.1 93 j (by omega) (by omega) (by omega) (by omega) (by omega)

theorem eb_way_94_r {i x : Int32} {I I2 : px_I} {L L2 : px_L} (h : pb_way i I L x I2 L2) : I2 94 = I 94 := by
  unfold pb_way at h
  exact funext fun j => h.1 94 j (by omega) (by omega) (by omega) (by omega) (by omega)

theorem ek_way_135_r {w x : Int32} {I I2 : px_I} {L L2 : px_L} (h : pk_way w I L x I2 L2) : I2 135 = I 135 := by
  unfold pk_way at h
  obtain ⟨rfl, h⟩ := h
  rcases h with ⟨a1, a2, rfl⟩ | ⟨a1, a2, a3⟩
  · rfl
  · exact funext fun j => a2 135 j (by omega) (by omega)

theorem ek_way_136_r {w x : Int32} {I I2 : px_I} {L L2 : px_L} (h : pk_way w I L x I2 L2) : I2 136 = I 136 := by
  unfold pk_way at h
  obtain ⟨rfl, h⟩ := h
  rcases h with ⟨a1, a2, rfl⟩ | ⟨a1, a2, a3⟩
  · rfl
  · exact funext fun j => a2 136 j (by omega) (by omega)

theorem eb_fault_93_r {x9 x : Int32} {I I2 : px_I} {L L2 : px_L} (h : pb_fault x9 I L x I2 L2) : I2 93 = I 93 := by
  unfold pb_fault at h
  rw [h.1]

theorem eb_fault_94_r {x9 x : Int32} {I I2 : px_I} {L L2 : px_L} (h : pb_fault x9 I L x I2 L2) : I2 94 = I 94 := by
  unfold pb_fault at h
  rw [h.1]

theorem ek_fault_135_r {x9 x : Int32} {I I2 : px_I} {L L2 : px_L} (h : pk_fault x9 I L x I2 L2) : I2 135 = I 135 := by
  unfold pk_fault at h
  rw [h.1]

theorem ek_fault_136_r {x9 x : Int32} {I I2 : px_I} {L L2 : px_L} (h : pk_fault x9 I L x I2 L2) : I2 136 = I 136 := by
  unfold pk_fault at h
  rw [h.1]

theorem eb_tools_93_r {a b c d e x : Int32} {I I2 : px_I} {L L2 : px_L} (h : pb_tools a b c d e I L x I2 L2) : I2 93 = I 93 := by
  unfold pb_tools at h
  obtain ⟨rfl, h⟩ := h
  rcases h with ⟨a1, rfl, a2⟩ | ⟨a1, rfl, rfl⟩
  · rw [a2 93 (by decide)]; (repeat rw [px_u_ne (by omega)])
  · rfl

theorem eb_tools_94_r {a b c d e x : Int32} {I I2 : px_I} {L L2 : px_L} (h : pb_tools a b c d e I L x I2 L2) : I2 94 = I 94 := by
  unfold pb_tools at h
  obtain ⟨rfl, h⟩ := h
  rcases h with ⟨a1, rfl, a2⟩ | ⟨a1, rfl, rfl⟩
  · rw [a2 94 (by decide)]; (repeat rw [px_u_ne (by omega)])
  · rfl

theorem ek_tools_135_r {a b c d e x : Int32} {I I2 : px_I} {L L2 : px_L} (h : pk_tools a b c d e I L x I2 L2) : I2 135 = I 135 := by
  unfold pk_tools at h
  obtain ⟨rfl, h⟩ := h
  rcases h with ⟨a1, rfl, rfl⟩ | ⟨a1, rfl, rfl⟩
  · (repeat rw [px_u_ne (by omega)])
  · rfl

theorem ek_tools_136_r {a b c d e x : Int32} {I I2 : px_I} {L L2 : px_L} (h : pk_tools a b c d e I L x I2 L2) : I2 136 = I 136 := by
  unfold pk_tools at h
  obtain ⟨rfl, h⟩ := h
  rcases h with ⟨a1, rfl, rfl⟩ | ⟨a1, rfl, rfl⟩
  · (repeat rw [px_u_ne (by omega)])
  · rfl

theorem eb_run_93_r {w h a x : Int32} {I I2 : px_I} {L L2 : px_L} (h : pb_run w h a I L x I2 L2) : I2 93 = I 93 := by
  unfold pb_run at h
  exact funext fun j => h.1 93 j (by omega) (by omega) (by omega) (by omega) (by omega) (by omega) (by omega)

theorem eb_run_94_r {w h a x : Int32} {I I2 : px_I} {L L2 : px_L} (h : pb_run w h a I L x I2 L2) : I2 94 = I 94 := by
  unfold pb_run at h
  exact funext fun j => h.1 94 j (by omega) (by omega) (by omega) (by omega) (by omega) (by omega) (by omega)

theorem ek_run_135_r {w h a x : Int32} {I I2 : px_I} {L L2 : px_L} (h : pk_run w h a I L x I2 L2) : I2 135 = I 135 := by
  unfold pk_run at h
  exact funext fun j => h.1 135 j (by omega) (by omega) (by omega)

theorem ek_run_136_r {w h a x : Int32} {I I2 : px_I} {L L2 : px_L} (h : pk_run w h a I L x I2 L2) : I2 136 = I 136 := by
  unfold pk_run at h
  exact funext fun j => h.1 136 j (by omega) (by omega) (by omega)

theorem eb_meeting_93_r {a f b t x9 h x : Int32} {I I2 : px_I} {L L2 : px_L} (h : pb_meeting a f b t x9 h I L x I2 L2) : I2 93 = I 93 := by
  unfold pb_meeting at h
  exact funext fun j => h.1 93 j (by omega) (by omega) (by omega) (by omega) (by omega) (by omega) (by omega)

theorem eb_meeting_94_r {a f b t x9 h x : Int32} {I I2 : px_I} {L L2 : px_L} (h : pb_meeting a f b t x9 h I L x I2 L2) : I2 94 = I 94 := by
  unfold pb_meeting at h
  exact funext fun j => h.1 94 j (by omega) (by omega) (by omega) (by omega) (by omega) (by omega) (by omega)

theorem ek_meeting_135_r {a f b t x9 h x : Int32} {I I2 : px_I} {L L2 : px_L} (h : pk_meeting a f b t x9 h I L x I2 L2) : I2 135 = I 135 := by
  unfold pk_meeting at h
  exact funext fun j => h.1 135 j (by omega) (by omega) (by omega)

theorem ek_meeting_136_r {a f b t x9 h x : Int32} {I I2 : px_I} {L L2 : px_L} (h : pk_meeting a f b t x9 h I L x I2 L2) : I2 136 = I 136 := by
  unfold pk_meeting at h
  exact funext fun j => h.1 136 j (by omega) (by omega) (by omega)

theorem eb_fits_93_r {a f b t x : Int32} {I I2 : px_I} {L L2 : px_L} (h : pb_fits a f b t I L x I2 L2) : I2 93 = I 93 := by
  unfold pb_fits at h
  exact funext fun j => h.1 93 j (by omega) (by omega) (by omega) (by omega) (by omega) (by omega) (by omega)

theorem eb_fits_94_r {a f b t x : Int32} {I I2 : px_I} {L L2 : px_L} (h : pb_fits a f b t I L x I2 L2) : I2 94 = I 94 := by
  unfold pb_fits at h
  exact funext fun j => h.1 94 j (by omega) (by omega) (by omega) (by omega) (by omega) (by omega) (by omega)

theorem ek_fits_135_r {a f b t x : Int32} {I I2 : px_I} {L L2 : px_L} (h : pk_fits a f b t I L x I2 L2) : I2 135 = I 135 := by
  unfold pk_fits at h
  exact funext fun j => h.1 135 j (by omega) (by omega) (by omega)

theorem ek_fits_136_r {a f b t x : Int32} {I I2 : px_I} {L L2 : px_L} (h : pk_fits a f b t I L x I2 L2) : I2 136 = I 136 := by
  unfold pk_fits at h
  exact funext fun j => h.1 136 j (by omega) (by omega) (by omega)

theorem eb_ways_93_r {a f b t x9 x : Int32} {I I2 : px_I} {L L2 : px_L} (h : pb_ways a f b t x9 I L x I2 L2) : I2 93 = I 93 := by
  unfold pb_ways at h
  exact funext fun j => h.1 93 j (by omega) (by omega) (by omega) (by omega) (by omega) (by omega) (by omega)

theorem eb_ways_94_r {a f b t x9 x : Int32} {I I2 : px_I} {L L2 : px_L} (h : pb_ways a f b t x9 I L x I2 L2) : I2 94 = I 94 := by
  unfold pb_ways at h
  exact funext fun j => h.1 94 j (by omega) (by omega) (by omega) (by omega) (by omega) (by omega) (by omega)

theorem ek_ways_135_r {a f b t x9 x : Int32} {I I2 : px_I} {L L2 : px_L} (h : pk_ways a f b t x9 I L x I2 L2) : I2 135 = I 135 := by
  unfold pk_ways at h
  exact funext fun j => h.1 135 j (by omega) (by omega) (by omega)

theorem ek_ways_136_r {a f b t x9 x : Int32} {I I2 : px_I} {L L2 : px_L} (h : pk_ways a f b t x9 I L x I2 L2) : I2 136 = I 136 := by
  unfold pk_ways at h
  exact funext fun j => h.1 136 j (by omega) (by omega) (by omega)

theorem eb_seek_93_r {a b c d e f x : Int32} {I I2 : px_I} {L L2 : px_L} (h : pb_seek a b c d e f I L x I2 L2) : I2 93 = I 93 := by
  unfold pb_seek at h
  obtain ⟨rfl, h⟩ := h
  rcases h with ⟨a1, rfl, rfl⟩ | ⟨a1, rfl, rfl⟩
  · (repeat rw [px_u_ne (by omega)])
  · rfl

theorem eb_seek_94_r {a b c d e f x : Int32} {I I2 : px_I} {L L2 : px_L} (h : pb_seek a b c d e f I L x I2 L2) : I2 94 = I 94 := by
  unfold pb_seek at h
  obtain ⟨rfl, h⟩ := h
  rcases h with ⟨a1, rfl, rfl⟩ | ⟨a1, rfl, rfl⟩
  · (repeat rw [px_u_ne (by omega)])
  · rfl

theorem ek_seek_135_r {a b c d e f x : Int32} {I I2 : px_I} {L L2 : px_L} (h : pk_seek a b c d e f I L x I2 L2) : I2 135 = I 135 := by
  unfold pk_seek at h
  obtain ⟨rfl, h⟩ := h
  rcases h with ⟨a1, rfl, rfl⟩ | ⟨a1, rfl, rfl⟩
  · (repeat rw [px_u_ne (by omega)])
  · rfl

theorem ek_seek_136_r {a b c d e f x : Int32} {I I2 : px_I} {L L2 : px_L} (h : pk_seek a b c d e f I L x I2 L2) : I2 136 = I 136 := by
  unfold pk_seek at h
  obtain ⟨rfl, h⟩ := h
  rcases h with ⟨a1, rfl, rfl⟩ | ⟨a1, rfl, rfl⟩
  · (repeat rw [px_u_ne (by omega)])
  · rfl

theorem eb_detour_93_r {a o h x : Int32} {I I2 : px_I} {L L2 : px_L} (h : pb_detour a o h I L x I2 L2) : I2 93 = I 93 := by
  unfold pb_detour at h
  rw [h.1]

theorem eb_detour_94_r {a o h x : Int32} {I I2 : px_I} {L L2 : px_L} (h : pb_detour a o h I L x I2 L2) : I2 94 = I 94 := by
  unfold pb_detour at h
  rw [h.1]

theorem ek_detour_135_r {a o lo x : Int32} {I I2 : px_I} {L L2 : px_L} (h : pk_detour a o lo I L x I2 L2) : I2 135 = I 135 := by
  unfold pk_detour at h
  rw [h.1]

theorem ek_detour_136_r {a o lo x : Int32} {I I2 : px_I} {L L2 : px_L} (h : pk_detour a o lo I L x I2 L2) : I2 136 = I 136 := by
  unfold pk_detour at h
  rw [h.1]

theorem eb_table_93_r {c v x : Int32} {I I2 : px_I} {L L2 : px_L} (h : pb_table c v I L x I2 L2) : I2 93 = I 93 := by
  unfold pb_table at h
  obtain ⟨rfl, h⟩ := h
  rcases h with ⟨a1, rfl, rfl⟩ | ⟨a1, rfl, rfl⟩
  · (repeat rw [px_u_ne (by omega)])
  · rfl

theorem eb_table_94_r {c v x : Int32} {I I2 : px_I} {L L2 : px_L} (h : pb_table c v I L x I2 L2) : I2 94 = I 94 := by
  unfold pb_table at h
  obtain ⟨rfl, h⟩ := h
  rcases h with ⟨a1, rfl, rfl⟩ | ⟨a1, rfl, rfl⟩
  · (repeat rw [px_u_ne (by omega)])
  · rfl

theorem ek_table_135_r {c v x : Int32} {I I2 : px_I} {L L2 : px_L} (h : pk_table c v I L x I2 L2) : I2 135 = I 135 := by
  unfold pk_table at h
  obtain ⟨rfl, h⟩ := h
  rcases h with ⟨a1, rfl, rfl⟩ | ⟨a1, rfl, rfl⟩
  · (repeat rw [px_u_ne (by omega)])
  · rfl

theorem ek_table_136_r {c v x : Int32} {I I2 : px_I} {L L2 : px_L} (h : pk_table c v I L x I2 L2) : I2 136 = I 136 := by
  unfold pk_table at h
  obtain ⟨rfl, h⟩ := h
  rcases h with ⟨a1, rfl, rfl⟩ | ⟨a1, rfl, rfl⟩
  · (repeat rw [px_u_ne (by omega)])
  · rfl

theorem eb_repair_93_r {g p y x : Int32} {I I2 : px_I} {L L2 : px_L} (h : pb_repair g p y I L x I2 L2) : I2 93 = I 93 := by
  unfold pb_repair at h
  obtain ⟨rfl, h⟩ := h
  rcases h with ⟨G, g1, rfl, rfl⟩ | ⟨a1, rfl, rfl⟩
  · have g2 := g1.1
    have gG : G = 41 ∨ G = 55 := by unfold bG at g2; omega
    unfold cRep; (repeat rw [px_u_ne (by omega)])
  · rfl

theorem eb_repair_94_r {g p y x : Int32} {I I2 : px_I} {L L2 : px_L} (h : pb_repair g p y I L x I2 L2) : I2 94 = I 94 := by
  unfold pb_repair at h
  obtain ⟨rfl, h⟩ := h
  rcases h with ⟨G, g1, rfl, rfl⟩ | ⟨a1, rfl, rfl⟩
  · have g2 := g1.1
    have gG : G = 41 ∨ G = 55 := by unfold bG at g2; omega
    unfold cRep; (repeat rw [px_u_ne (by omega)])
  · rfl

theorem ek_repair_135_r {g p y x : Int32} {I I2 : px_I} {L L2 : px_L} (h : pk_repair g p y I L x I2 L2) : I2 135 = I 135 := by
  unfold pk_repair at h
  obtain ⟨rfl, h⟩ := h
  rcases h with ⟨a1, rfl, rfl⟩ | ⟨a1, rfl, rfl⟩
  · (repeat rw [px_u_ne (by omega)])
  · rfl

theorem ek_repair_136_r {g p y x : Int32} {I I2 : px_I} {L L2 : px_L} (h : pk_repair g p y I L x I2 L2) : I2 136 = I 136 := by
  unfold pk_repair at h
  obtain ⟨rfl, h⟩ := h
  rcases h with ⟨a1, rfl, rfl⟩ | ⟨a1, rfl, rfl⟩
  · (repeat rw [px_u_ne (by omega)])
  · rfl

theorem eb_lime_93_r {v x : Int32} {I I2 : px_I} {L L2 : px_L} (h : pb_lime v I L x I2 L2) : I2 93 = I 93 := by
  unfold pb_lime at h
  obtain ⟨rfl, h⟩ := h
  rcases h with ⟨a1, rfl, rfl⟩ | ⟨a1, rfl, rfl⟩
  · (repeat rw [px_u_ne (by omega)])
  · rfl

theorem eb_lime_94_r {v x : Int32} {I I2 : px_I} {L L2 : px_L} (h : pb_lime v I L x I2 L2) : I2 94 = I 94 := by
  unfold pb_lime at h
  obtain ⟨rfl, h⟩ := h
  rcases h with ⟨a1, rfl, rfl⟩ | ⟨a1, rfl, rfl⟩
  · (repeat rw [px_u_ne (by omega)])
  · rfl

theorem ek_lime_135_r {v x : Int32} {I I2 : px_I} {L L2 : px_L} (h : pk_lime v I L x I2 L2) : I2 135 = I 135 := by
  unfold pk_lime at h
  obtain ⟨rfl, h⟩ := h
  rcases h with ⟨a1, a2, rfl, rfl⟩ | ⟨a1, rfl, rfl⟩
  · (repeat rw [px_u_ne (by omega)])
  · rfl

theorem ek_lime_136_r {v x : Int32} {I I2 : px_I} {L L2 : px_L} (h : pk_lime v I L x I2 L2) : I2 136 = I 136 := by
  unfold pk_lime at h
  obtain ⟨rfl, h⟩ := h
  rcases h with ⟨a1, a2, rfl, rfl⟩ | ⟨a1, rfl, rfl⟩
  · (repeat rw [px_u_ne (by omega)])
  · rfl

theorem eb_flow_93_r {g y k h x : Int32} {I I2 : px_I} {L L2 : px_L} (h : pb_flow g y k h I L x I2 L2) : I2 93 = I 93 := by
  unfold pb_flow at h
  exact funext fun j => h.1 93 j (by omega)

theorem eb_flow_94_r {g y k h x : Int32} {I I2 : px_I} {L L2 : px_L} (h : pb_flow g y k h I L x I2 L2) : I2 94 = I 94 := by
  unfold pb_flow at h
  exact funext fun j => h.1 94 j (by omega)

theorem ek_flow_135_r {g y k h x : Int32} {I I2 : px_I} {L L2 : px_L} (h : pk_flow g y k h I L x I2 L2) : I2 135 = I 135 := by
  unfold pk_flow at h
  exact funext fun j => h.1 135 j (by omega)

theorem ek_flow_136_r {g y k h x : Int32} {I I2 : px_I} {L L2 : px_L} (h : pk_flow g y k h I L x I2 L2) : I2 136 = I 136 := by
  unfold pk_flow at h
  exact funext fun j => h.1 136 j (by omega)

theorem eb_narrow_93_r {g y k x : Int32} {I I2 : px_I} {L L2 : px_L} (h : pb_narrow g y k I L x I2 L2) : I2 93 = I 93 := by
  unfold pb_narrow at h
  exact funext fun j => h.1 93 j (by omega)

theorem eb_narrow_94_r {g y k x : Int32} {I I2 : px_I} {L L2 : px_L} (h : pb_narrow g y k I L x I2 L2) : I2 94 = I 94 := by
  unfold pb_narrow at h
  exact funext fun j => h.1 94 j (by omega)

theorem ek_narrow_135_r {g y k x : Int32} {I I2 : px_I} {L L2 : px_L} (h : pk_narrow g y k I L x I2 L2) : I2 135 = I 135 := by
  unfold pk_narrow at h
  exact funext fun j => h.1 135 j (by omega)

theorem ek_narrow_136_r {g y k x : Int32} {I I2 : px_I} {L L2 : px_L} (h : pk_narrow g y k I L x I2 L2) : I2 136 = I 136 := by
  unfold pk_narrow at h
  exact funext fun j => h.1 136 j (by omega)

theorem eb_about_93_r {w x : Int32} {I I2 : px_I} {L L2 : px_L} (h : pb_about w I L x I2 L2) : I2 93 = I 93 := by
  unfold pb_about at h
  rw [h.1]

theorem eb_about_94_r {w x : Int32} {I I2 : px_I} {L L2 : px_L} (h : pb_about w I L x I2 L2) : I2 94 = I 94 := by
  unfold pb_about at h
  rw [h.1]

theorem ek_about_135_r {w x : Int32} {I I2 : px_I} {L L2 : px_L} (h : pk_about w I L x I2 L2) : I2 135 = I 135 := by
  unfold pk_about at h
  rw [h.1]

theorem ek_about_136_r {w x : Int32} {I I2 : px_I} {L L2 : px_L} (h : pk_about w I L x I2 L2) : I2 136 = I 136 := by
  unfold pk_about at h
  rw [h.1]

def rel (I : px_I) (L : px_L) (R : px_R) : Prop := (I 32 10 = I 103 0) ∧ (I 33 7 = I 103 1) ∧ (I 33 8 = I 103 2) ∧ (srOk I) ∧ (I 70 5 = I 103 25) ∧ (∀ j : Nat, nb (I 71 j) = nb (I 121 j)) ∧ (WY I R) ∧ (∀ j : Nat, j < 3 → I 93 j = I 135 j ∧ I 94 j = I 136 j)

theorem rel_hx {n : Nat} {I : px_I} {L : px_L} {R : px_R} (hj : jJ n I R) (hr : rel I L R) : wyP I R (Zc I R) ∧ cSo I := ⟨(hr.2.2.2.2.2.2.1).Z, (hr.2.2.2.1).2⟩

theorem relq_days {v0 : Int32} {x y : Int32} {n : Nat} {I I2 I3 : px_I} {L L2 L3 : px_L} {R : px_R} (hj : jJ n I R) (hr : rel I L R) (f1 : frB I I2 L L2) {R2 : px_R} (fR : kR R I2 R2) (p1 : pb_days v0 I L x I2 L2) (f2 : frK I2 I3 L2 L3) (p2 : pk_days v0 I2 L2 y I3 L3) : x = y ∧ (I3 32 10 = I3 103 0) := by
  have h_da : I 32 10 = I 103 0 := hr.1
  have h_st : I 33 7 = I 103 1 := hr.2.1
  have h_si : I 33 8 = I 103 2 := hr.2.2.1
  have h_sr : srOk I := hr.2.2.2.1
  have h_fd : I 70 5 = I 103 25 := hr.2.2.2.2.1
  have h_by : ∀ j : Nat, nb (I 71 j) = nb (I 121 j) := hr.2.2.2.2.2.1
  have h_wy : WY I R := hr.2.2.2.2.2.2.1
  have h_th : ∀ j : Nat, j < 3 → I 93 j = I 135 j ∧ I 94 j = I 136 j := hr.2.2.2.2.2.2.2
  unfold pb_days at p1
  unfold pk_days at p2
  have e : I2 103 0 = I 32 10 := by rw [f1.1 103 (by omega) (by omega)]; exact h_da.symm
  have e3 : I3 32 10 = I2 32 10 := by rw [f2.1 32 (by omega)]
  rw [e] at p2
  rcases p1.2 with ⟨a1, a2, a3, a4⟩ | ⟨a1, a3, a4⟩
  · rcases p2.2 with ⟨b1, b2, b3, b4, b5⟩ | ⟨b1, b4, b5⟩
    · refine ⟨by rw [a3, b4], ?_⟩
      rw [e3, b5, a4, px_u_at, px_u_at]
    · exact absurd ⟨a1.1, a1.2, a2⟩ b1
  · rcases p2.2 with ⟨b1, b2, b3, b4, b5⟩ | ⟨b1, b4, b5⟩
    · exact absurd ⟨⟨b1, b2⟩, b3⟩ a1
    · refine ⟨by rw [a3, b4], ?_⟩
      rw [e3, b5, a4, ← e, a4]

theorem rel.days {v0 : Int32} {x y : Int32} {n : Nat} {I I2 I3 : px_I} {L L2 L3 : px_L} {R : px_R} (hj : jJ n I R) (hr : rel I L R) (f1 : frB I I2 L L2) {R2 : px_R} (fR : kR R I2 R2) (p1 : pb_days v0 I L x I2 L2) (f2 : frK I2 I3 L2 L3) (p2 : pk_days v0 I2 L2 y I3 L3) : rel I3 L3 R2 := by
  have hq0 := (relq_days hj hr f1 fR p1 f2 p2).2
  have f_33_7 : I3 33 7 = I 33 7 := by rw [f2.1 33 (by omega), eb_days_33_7 p1]
  have f_103_1 : I3 103 1 = I 103 1 := by rw [ek_days_103_1 p2, f1.1 103 (by omega) (by omega)]
  have f_33_8 : I3 33 8 = I 33 8 := by rw [f2.1 33 (by omega), eb_days_33_8 p1]
  have f_103_2 : I3 103 2 = I 103 2 := by rw [ek_days_103_2 p2, f1.1 103 (by omega) (by omega)]
  have f_34_r : I3 34 = I 34 := by rw [f2.1 34 (by omega), eb_days_34_r p1]
  have f_35_r : I3 35 = I 35 := by rw [f2.1 35 (by omega), eb_days_35_r p1]
  have f_36_r : I3 36 = I 36 := by rw [f2.1 36 (by omega), eb_days_36_r p1]
  have f_37_r : I3 37 = I 37 := by rw [f2.1 37 (by omega), eb_days_37_r p1]
  have f_38_r : I3 38 = I 38 := by rw [f2.1 38 (by omega), eb_days_38_r p1]
  have f_39_r : I3 39 = I 39 := by rw [f2.1 39 (by omega), eb_days_39_r p1]
  have f_104_r : I3 104 = I 104 := by rw [ek_days_104_r p2, f1.1 104 (by omega) (by omega)]
  have f_105_r : I3 105 = I 105 := by rw [ek_days_105_r p2, f1.1 105 (by omega) (by omega)]
  have f_106_r : I3 106 = I 106 := by rw [ek_days_106_r p2, f1.1 106 (by omega) (by omega)]
  have f_107_r : I3 107 = I 107 := by rw [ek_days_107_r p2, f1.1 107 (by omega) (by omega)]
  have f_108_r : I3 108 = I 108 := by rw [ek_days_108_r p2, f1.1 108 (by omega) (by omega)]
  have f_109_r : I3 109 = I 109 := by rw [ek_days_109_r p2, f1.1 109 (by omega) (by omega)]
  have f_70_5 : I3 70 5 = I 70 5 := by rw [f2.1 70 (by omega), eb_days_70_5 p1]
  have f_103_25 : I3 103 25 = I 103 25 := by rw [ek_days_103_25 p2, f1.1 103 (by omega) (by omega)]
  have f_71_r : I3 71 = I 71 := by rw [f2.1 71 (by omega), eb_days_71_r p1]
  have f_121_r : I3 121 = I 121 := by rw [ek_days_121_r p2, f1.1 121 (by omega) (by omega)]
  have f_90_r : I3 90 = I 90 := by rw [f2.1 90 (by omega), eb_days_90_r p1]
  have f_91_r : I3 91 = I 91 := by rw [f2.1 91 (by omega), eb_days_91_r p1]
  have f_86_3 : I3 86 3 = I 86 3 := by rw [f2.1 86 (by omega), eb_days_86_3 p1]
  have f_86_4 : I3 86 4 = I 86 4 := by rw [f2.1 86 (by omega), eb_days_86_4 p1]
  have f_86_5 : I3 86 5 = I 86 5 := by rw [f2.1 86 (by omega), eb_days_86_5 p1]
  have f_86_6 : I3 86 6 = I 86 6 := by rw [f2.1 86 (by omega), eb_days_86_6 p1]
  have f_86_7 : I3 86 7 = I 86 7 := by rw [f2.1 86 (by omega), eb_days_86_7 p1]
  have f_9999_r : ∀ b, ((77 ≤ b ∧ b ≤ 79) ∨ 147 ≤ b) → I3 b = I b := fun b hb => by rw [f2.1 b (by omega), eb_days_9999_r p1 b hb]
  have f_129_r : I3 129 = I 129 := by rw [ek_days_129_r p2, f1.1 129 (by omega) (by omega)]
  have f_130_r : I3 130 = I 130 := by rw [ek_days_130_r p2, f1.1 130 (by omega) (by omega)]
  have f_131_r : I3 131 = I 131 := by rw [ek_days_131_r p2, f1.1 131 (by omega) (by omega)]
  have f_103_47 : I3 103 47 = I 103 47 := by rw [ek_days_103_47 p2, f1.1 103 (by omega) (by omega)]
  have f_103_48 : I3 103 48 = I 103 48 := by rw [ek_days_103_48 p2, f1.1 103 (by omega) (by omega)]
  have f_103_49 : I3 103 49 = I 103 49 := by rw [ek_days_103_49 p2, f1.1 103 (by omega) (by omega)]
  have f_103_50 : I3 103 50 = I 103 50 := by rw [ek_days_103_50 p2, f1.1 103 (by omega) (by omega)]
  have f_103_51 : I3 103 51 = I 103 51 := by rw [ek_days_103_51 p2, f1.1 103 (by omega) (by omega)]
  have f_93_r : I3 93 = I 93 := by rw [f2.1 93 (by omega), eb_days_93_r p1]
  have f_94_r : I3 94 = I 94 := by rw [f2.1 94 (by omega), eb_days_94_r p1]
  have f_135_r : I3 135 = I 135 := by rw [ek_days_135_r p2, f1.1 135 (by omega) (by omega)]
  have f_136_r : I3 136 = I 136 := by rw [ek_days_136_r p2, f1.1 136 (by omega) (by omega)]
  exact ⟨hq0, (by rw [f_33_7, f_103_1]; exact hr.2.1), (by rw [f_33_8, f_103_2]; exact hr.2.2.1), (srOk.eq f_33_7 f_33_8 f_34_r f_35_r f_36_r f_37_r f_38_r f_39_r f_104_r f_105_r f_106_r f_107_r f_108_r f_109_r hr.2.2.2.1), (by rw [f_70_5, f_103_25]; exact hr.2.2.2.2.1), (by rw [f_71_r, f_121_r]; exact hr.2.2.2.2.2.1), (wy_eq f_90_r f_91_r f_86_3 f_86_4 f_86_5 f_86_6 f_86_7 f_9999_r f_129_r f_130_r f_131_r f_103_47 f_103_48 f_103_49 f_103_50 f_103_51 fR hr.2.2.2.2.2.2.1), (by rw [f_93_r, f_94_r, f_135_r, f_136_r]; exact hr.2.2.2.2.2.2.2)⟩

theorem relq_station {x y : Int32} {n : Nat} {I I2 I3 : px_I} {L L2 L3 : px_L} {R : px_R} (hj : jJ n I R) (hr : rel I L R) (f1 : frB I I2 L L2) {R2 : px_R} (fR : kR R I2 R2) (p1 : pb_station  I L x I2 L2) (f2 : frK I2 I3 L2 L3) (p2 : pk_station  I2 L2 y I3 L3) : x = y ∧ (I3 33 7 = I3 103 1) := by
  have h_da : I 32 10 = I 103 0 := hr.1
  have h_st : I 33 7 = I 103 1 := hr.2.1
  have h_si : I 33 8 = I 103 2 := hr.2.2.1
  have h_sr : srOk I := hr.2.2.2.1
  have h_fd : I 70 5 = I 103 25 := hr.2.2.2.2.1
  have h_by : ∀ j : Nat, nb (I 71 j) = nb (I 121 j) := hr.2.2.2.2.2.1
  have h_wy : WY I R := hr.2.2.2.2.2.2.1
  have h_th : ∀ j : Nat, j < 3 → I 93 j = I 135 j ∧ I 94 j = I 136 j := hr.2.2.2.2.2.2.2
  unfold pb_station at p1
  unfold pk_station at p2
  have s := hj.s
  unfold cSt at s
  have e : I2 103 1 = I 103 1 := by rw [f1.1 103 (by omega) (by omega)]
  have e3 : I3 33 7 = I2 33 7 := by rw [f2.1 33 (by omega)]
  rcases p1.2 with ⟨a1, a2, a3⟩ | ⟨a1, a2, a3⟩
  · rcases p2.2 with ⟨b1, b2, b3⟩ | ⟨b1, b2, b3⟩
    · exact ⟨by rw [a2, b2, e]; exact h_st, by rw [e3, b3, a3, px_u_at, px_u_at, ← a3, e, h_st]⟩
    · exact absurd (b1.symm.trans (e.trans h_st.symm)) (by grind)
  · rcases p2.2 with ⟨b1, b2, b3⟩ | ⟨b1, b2, b3⟩
    · exact absurd (e.trans h_st.symm) (by grind)
    · exact ⟨by rw [a2, b2], by rw [e3, b3, e, a3]; exact h_st⟩

theorem relq_station_1 {x y : Int32} {n : Nat} {I I2 I3 : px_I} {L L2 L3 : px_L} {R : px_R} (hj : jJ n I R) (hr : rel I L R) (f1 : frB I I2 L L2) {R2 : px_R} (fR : kR R I2 R2) (p1 : pb_station  I L x I2 L2) (f2 : frK I2 I3 L2 L3) (p2 : pk_station  I2 L2 y I3 L3) : (srOk I3) := by
  have h_da : I 32 10 = I 103 0 := hr.1
  have h_st : I 33 7 = I 103 1 := hr.2.1
  have h_si : I 33 8 = I 103 2 := hr.2.2.1
  have h_sr : srOk I := hr.2.2.2.1
  have h_fd : I 70 5 = I 103 25 := hr.2.2.2.2.1
  have h_by : ∀ j : Nat, nb (I 71 j) = nb (I 121 j) := hr.2.2.2.2.2.1
  have h_wy : WY I R := hr.2.2.2.2.2.2.1
  have h_th : ∀ j : Nat, j < 3 → I 93 j = I 135 j ∧ I 94 j = I 136 j := hr.2.2.2.2.2.2.2
  have hxy := (relq_station hj hr f1 fR p1 f2 p2).1
  unfold pb_station at p1
  unfold pk_station at p2
  have s := hj.s
  unfold cSt at s
  have cr : ∀ b, 103 ≤ b → b < 147 → I2 b = I b := f1.1
  have cb : ∀ b, b < 103 → I3 b = I2 b := fun b hb => f2.1 b (Or.inl hb)
  have km : ∀ b, 104 ≤ b → b < 147 → I3 b = I2 b := fun b h1 h2 => by
    rcases p2.2 with ⟨-, -, e⟩ | ⟨-, -, e⟩
    · rw [e, px_u_ne (by omega)]
    · rw [e]
  have kb : ∀ b, b < 103 → b ≠ 33 → I2 b = I b := fun b h1 h2 => by
    rcases p1.2 with ⟨-, -, e⟩ | ⟨-, -, e⟩
    · rw [e, px_u_ne h2]
    · rw [e]
  have k8 : I2 33 8 = I 33 8 := by
    rcases p1.2 with ⟨-, -, e⟩ | ⟨-, -, e⟩
    · rw [e, px_u_at_ne (by decide)]
    · rw [e]
  have k7 : ∀ x : Int32, x < I 33 7 → x < I2 33 7 := fun x hx => by
    rcases p1.2 with ⟨-, -, e⟩ | ⟨-, -, e⟩
    · rw [e, px_u_at]; grind
    · rw [e]; exact hx
  unfold srOk cSo at h_sr ⊢
  rw [cb 33 (by omega), cb 34 (by omega), cb 35 (by omega), cb 36 (by omega), cb 37 (by omega), cb 38 (by omega), cb 39 (by omega), kb 34 (by omega) (by omega), kb 35 (by omega) (by omega), kb 36 (by omega) (by omega), kb 37 (by omega) (by omega), kb 38 (by omega) (by omega), kb 39 (by omega) (by omega),
    km 104 (by omega) (by omega), km 105 (by omega) (by omega), km 106 (by omega) (by omega), km 107 (by omega) (by omega), km 108 (by omega) (by omega), km 109 (by omega) (by omega), cr 104 (by omega) (by omega), cr 105 (by omega) (by omega), cr 106 (by omega) (by omega), cr 107 (by omega) (by omega), cr 108 (by omega) (by omega), cr 109 (by omega) (by omega), k8]
  exact ⟨h_sr.1, fun i hi => by
    obtain ⟨q1, q2, q3⟩ := h_sr.2 i hi
    exact ⟨⟨q1.1, k7 _ q1.2⟩, ⟨q2.1, k7 _ q2.2⟩, q3⟩⟩

theorem rel.station {x y : Int32} {n : Nat} {I I2 I3 : px_I} {L L2 L3 : px_L} {R : px_R} (hj : jJ n I R) (hr : rel I L R) (f1 : frB I I2 L L2) {R2 : px_R} (fR : kR R I2 R2) (p1 : pb_station  I L x I2 L2) (f2 : frK I2 I3 L2 L3) (p2 : pk_station  I2 L2 y I3 L3) : rel I3 L3 R2 := by
  have hq0 := (relq_station hj hr f1 fR p1 f2 p2).2
  have hq1 := relq_station_1 hj hr f1 fR p1 f2 p2
  have f_32_10 : I3 32 10 = I 32 10 := by rw [f2.1 32 (by omega), eb_station_32_10 p1]
  have f_103_0 : I3 103 0 = I 103 0 := by rw [ek_station_103_0 p2, f1.1 103 (by omega) (by omega)]
  have f_33_8 : I3 33 8 = I 33 8 := by rw [f2.1 33 (by omega), eb_station_33_8 p1]
  have f_103_2 : I3 103 2 = I 103 2 := by rw [ek_station_103_2 p2, f1.1 103 (by omega) (by omega)]
  have f_70_5 : I3 70 5 = I 70 5 := by rw [f2.1 70 (by omega), eb_station_70_5 p1]
  have f_103_25 : I3 103 25 = I 103 25 := by rw [ek_station_103_25 p2, f1.1 103 (by omega) (by omega)]
  have f_71_r : I3 71 = I 71 := by rw [f2.1 71 (by omega), eb_station_71_r p1]
  have f_121_r : I3 121 = I 121 := by rw [ek_station_121_r p2, f1.1 121 (by omega) (by omega)]
  have f_90_r : I3 90 = I 90 := by rw [f2.1 90 (by omega), eb_station_90_r p1]
  have f_91_r : I3 91 = I 91 := by rw [f2.1 91 (by omega), eb_station_91_r p1]
  have f_86_3 : I3 86 3 = I 86 3 := by rw [f2.1 86 (by omega), eb_station_86_3 p1]
  have f_86_4 : I3 86 4 = I 86 4 := by rw [f2.1 86 (by omega), eb_station_86_4 p1]
  have f_86_5 : I3 86 5 = I 86 5 := by rw [f2.1 86 (by omega), eb_station_86_5 p1]
  have f_86_6 : I3 86 6 = I 86 6 := by rw [f2.1 86 (by omega), eb_station_86_6 p1]
  have f_86_7 : I3 86 7 = I 86 7 := by rw [f2.1 86 (by omega), eb_station_86_7 p1]
  have f_9999_r : ∀ b, ((77 ≤ b ∧ b ≤ 79) ∨ 147 ≤ b) → I3 b = I b := fun b hb => by rw [f2.1 b (by omega), eb_station_9999_r p1 b hb]
  have f_129_r : I3 129 = I 129 := by rw [ek_station_129_r p2, f1.1 129 (by omega) (by omega)]
  have f_130_r : I3 130 = I 130 := by rw [ek_station_130_r p2, f1.1 130 (by omega) (by omega)]
  have f_131_r : I3 131 = I 131 := by rw [ek_station_131_r p2, f1.1 131 (by omega) (by omega)]
  have f_103_47 : I3 103 47 = I 103 47 := by rw [ek_station_103_47 p2, f1.1 103 (by omega) (by omega)]
  have f_103_48 : I3 103 48 = I 103 48 := by rw [ek_station_103_48 p2, f1.1 103 (by omega) (by omega)]
  have f_103_49 : I3 103 49 = I 103 49 := by rw [ek_station_103_49 p2, f1.1 103 (by omega) (by omega)]
  have f_103_50 : I3 103 50 = I 103 50 := by rw [ek_station_103_50 p2, f1.1 103 (by omega) (by omega)]
  have f_103_51 : I3 103 51 = I 103 51 := by rw [ek_station_103_51 p2, f1.1 103 (by omega) (by omega)]
  have f_93_r : I3 93 = I 93 := by rw [f2.1 93 (by omega), eb_station_93_r p1]
  have f_94_r : I3 94 = I 94 := by rw [f2.1 94 (by omega), eb_station_94_r p1]
  have f_135_r : I3 135 = I 135 := by rw [ek_station_135_r p2, f1.1 135 (by omega) (by omega)]
  have f_136_r : I3 136 = I 136 := by rw [ek_station_136_r p2, f1.1 136 (by omega) (by omega)]
  exact ⟨(by rw [f_32_10, f_103_0]; exact hr.1), hq0, (by rw [f_33_8, f_103_2]; exact hr.2.2.1), hq1, (by rw [f_70_5, f_103_25]; exact hr.2.2.2.2.1), (by rw [f_71_r, f_121_r]; exact hr.2.2.2.2.2.1), (wy_eq f_90_r f_91_r f_86_3 f_86_4 f_86_5 f_86_6 f_86_7 f_9999_r f_129_r f_130_r f_131_r f_103_47 f_103_48 f_103_49 f_103_50 f_103_51 fR hr.2.2.2.2.2.2.1), (by rw [f_93_r, f_94_r, f_135_r, f_136_r]; exact hr.2.2.2.2.2.2.2)⟩

theorem relq_sight {v0 v1 v2 v3 v4 : Int32} {x y : Int32} {n : Nat} {I I2 I3 : px_I} {L L2 L3 : px_L} {R : px_R} (hj : jJ n I R) (hr : rel I L R) (f1 : frB I I2 L L2) {R2 : px_R} (fR : kR R I2 R2) (p1 : pb_sight v0 v1 v2 v3 v4 I L x I2 L2) (f2 : frK I2 I3 L2 L3) (p2 : pk_sight v0 v1 v2 v3 v4 I2 L2 y I3 L3) : x = y ∧ (I3 33 8 = I3 103 2) := by
  have h_da : I 32 10 = I 103 0 := hr.1
  have h_st : I 33 7 = I 103 1 := hr.2.1
  have h_si : I 33 8 = I 103 2 := hr.2.2.1
  have h_sr : srOk I := hr.2.2.2.1
  have h_fd : I 70 5 = I 103 25 := hr.2.2.2.2.1
  have h_by : ∀ j : Nat, nb (I 71 j) = nb (I 121 j) := hr.2.2.2.2.2.1
  have h_wy : WY I R := hr.2.2.2.2.2.2.1
  have h_th : ∀ j : Nat, j < 3 → I 93 j = I 135 j ∧ I 94 j = I 136 j := hr.2.2.2.2.2.2.2
  unfold pb_sight at p1
  unfold pk_sight at p2
  have s := hj.s
  unfold cSt at s
  have e : I2 103 2 = I 103 2 := by rw [f1.1 103 (by omega) (by omega)]
  have e3 : I3 33 8 = I2 33 8 := by rw [f2.1 33 (by omega)]
  have e7 : I2 103 1 = I 33 7 := by rw [f1.1 103 (by omega) (by omega)]; exact h_st.symm
  have e8 : I2 103 2 = I 33 8 := e.trans h_si.symm
  rw [e7, e8] at p2
  rcases p1.2 with ⟨a1, a2, a3⟩ | ⟨a1, a2, a3⟩
  · rcases p2.2 with ⟨b1, b2, b3⟩ | ⟨b1, b2, b3⟩
    · exact ⟨by rw [a2, b2], by rw [e3, b3, px_u_at, a3, px_u_at]⟩
    · exact absurd ⟨a1.1, ⟨a1.2.2.1.1, by grind⟩, ⟨a1.2.2.2.1.1, by grind⟩, a1.2.2.2.2.1, ⟨a1.2.1.1, by grind⟩, a1.2.1.2, by grind⟩ b1
  · rcases p2.2 with ⟨b1, b2, b3⟩ | ⟨b1, b2, b3⟩
    · exact absurd ⟨b1.1, ⟨b1.2.2.2.2.1.1, b1.2.2.2.2.2.1⟩, ⟨b1.2.1.1, by grind⟩, ⟨b1.2.2.1.1, by grind⟩, b1.2.2.2.1, by grind⟩ a1
    · exact ⟨by rw [a2, b2], by rw [e3, b3, e8, a3]⟩

theorem relq_sight_1 {v0 v1 v2 v3 v4 : Int32} {x y : Int32} {n : Nat} {I I2 I3 : px_I} {L L2 L3 : px_L} {R : px_R} (hj : jJ n I R) (hr : rel I L R) (f1 : frB I I2 L L2) {R2 : px_R} (fR : kR R I2 R2) (p1 : pb_sight v0 v1 v2 v3 v4 I L x I2 L2) (f2 : frK I2 I3 L2 L3) (p2 : pk_sight v0 v1 v2 v3 v4 I2 L2 y I3 L3) : (srOk I3) := by
  have h_da : I 32 10 = I 103 0 := hr.1
  have h_st : I 33 7 = I 103 1 := hr.2.1
  have h_si : I 33 8 = I 103 2 := hr.2.2.1
  have h_sr : srOk I := hr.2.2.2.1
  have h_fd : I 70 5 = I 103 25 := hr.2.2.2.2.1
  have h_by : ∀ j : Nat, nb (I 71 j) = nb (I 121 j) := hr.2.2.2.2.2.1
  have h_wy : WY I R := hr.2.2.2.2.2.2.1
  have h_th : ∀ j : Nat, j < 3 → I 93 j = I 135 j ∧ I 94 j = I 136 j := hr.2.2.2.2.2.2.2
  have hxy := (relq_sight hj hr f1 fR p1 f2 p2).1
  unfold pb_sight at p1
  unfold pk_sight at p2
  have s := hj.s
  unfold cSt at s
  have cr : ∀ b, 103 ≤ b → b < 147 → I2 b = I b := f1.1
  have cb : ∀ b, b < 103 → I3 b = I2 b := fun b hb => f2.1 b (Or.inl hb)
  rcases p1.2 with ⟨a1, a2, a3⟩ | ⟨a1, a2, a3⟩
  · rcases p2.2 with ⟨b1, b2, b3⟩ | ⟨b1, b2, b3⟩
    · have e2 : I2 103 2 = I 33 8 := by rw [cr 103 (by omega) (by omega)]; exact h_si.symm
      have e0 : I2 103 0 = I 32 10 := by rw [cr 103 (by omega) (by omega)]; exact h_da.symm
      rw [e2, e0] at b3
      have c8 : I3 33 8 = I 33 8 + 1 := by rw [cb 33 (by omega), a3, px_u_at]
      have c7 : I3 33 7 = I 33 7 := by rw [cb 33 (by omega), a3, px_u_at_ne (by decide)]; repeat rw [px_u_ne (by omega)]
      have r4 : ∀ i, I3 34 i = if i = (I 33 8).toNatClampNeg then v0 else I 34 i := fun i => by rw [cb 34 (by omega), a3]; simp only [px_ur]; simp
      have r5 : ∀ i, I3 35 i = if i = (I 33 8).toNatClampNeg then v1 else I 35 i := fun i => by rw [cb 35 (by omega), a3]; simp only [px_ur]; simp
      have r6 : ∀ i, I3 36 i = if i = (I 33 8).toNatClampNeg then v2 else I 36 i := fun i => by rw [cb 36 (by omega), a3]; simp only [px_ur]; simp
      have r7 : ∀ i, I3 37 i = if i = (I 33 8).toNatClampNeg then v3 else I 37 i := fun i => by rw [cb 37 (by omega), a3]; simp only [px_ur]; simp
      have r8 : ∀ i, I3 38 i = if i = (I 33 8).toNatClampNeg then v4 else I 38 i := fun i => by rw [cb 38 (by omega), a3]; simp only [px_ur]; simp
      have r9 : ∀ i, I3 39 i = if i = (I 33 8).toNatClampNeg then I 32 10 else I 39 i := fun i => by rw [cb 39 (by omega), a3]; simp only [px_ur]; simp
      have m4 : ∀ i, I3 104 i = if i = (I 33 8).toNatClampNeg then v0 else I 104 i := fun i => by rw [b3, ← cr 104 (by omega) (by omega)]; simp only [px_ur]; simp
      have m5 : ∀ i, I3 105 i = if i = (I 33 8).toNatClampNeg then v1 else I 105 i := fun i => by rw [b3, ← cr 105 (by omega) (by omega)]; simp only [px_ur]; simp
      have m6 : ∀ i, I3 106 i = if i = (I 33 8).toNatClampNeg then v2 else I 106 i := fun i => by rw [b3, ← cr 106 (by omega) (by omega)]; simp only [px_ur]; simp
      have m7 : ∀ i, I3 107 i = if i = (I 33 8).toNatClampNeg then v3 else I 107 i := fun i => by rw [b3, ← cr 107 (by omega) (by omega)]; simp only [px_ur]; simp
      have m8 : ∀ i, I3 108 i = if i = (I 33 8).toNatClampNeg then v4 else I 108 i := fun i => by rw [b3, ← cr 108 (by omega) (by omega)]; simp only [px_ur]; simp
      have m9 : ∀ i, I3 109 i = if i = (I 33 8).toNatClampNeg then I 32 10 else I 109 i := fun i => by rw [b3, ← cr 109 (by omega) (by omega)]; simp only [px_ur]; simp
      have n8 : (I 33 8 + 1).toNatClampNeg = (I 33 8).toNatClampNeg + 1 := (px_tnS s.2.1 (by grind)).1
      unfold srOk cSo
      rw [c8, c7, n8]
      refine ⟨fun i hi => ?_, fun i hi => ?_⟩
      · rw [r4, r5, r6, r7, r8, r9, m4, m5, m6, m7, m8, m9]
        by_cases e : i = (I 33 8).toNatClampNeg
        · simp only [if_pos e, and_self]
        · simp only [if_neg e]
          exact h_sr.1 i (by omega)
      · rw [r5, r6, r7, r8]
        by_cases e : i = (I 33 8).toNatClampNeg
        · simp only [if_pos e]
          obtain ⟨q1, q2, q3, q4, -⟩ := a1
          exact ⟨q3, q4, ⟨q2.1, by grind⟩, by grind, q2.2.2⟩
        · simp only [if_neg e]
          exact h_sr.2 i (by omega)
    · exfalso
      rw [hxy, b2] at a2
      exact absurd s.2.1 (by rw [← a2]; decide)
  · rcases p2.2 with ⟨b1, b2, b3⟩ | ⟨b1, b2, b3⟩
    · exfalso
      have e2 : I2 103 2 = I 33 8 := by rw [cr 103 (by omega) (by omega)]; exact h_si.symm
      rw [← hxy, a2, e2] at b2
      exact absurd s.2.1 (by rw [← b2]; decide)
    · have e4 : ∀ b, I3 b = I b := fun b => by rw [b3, a3]
      exact h_sr.eq (by rw [e4 33]) (by rw [e4 33]) (e4 34) (e4 35) (e4 36) (e4 37) (e4 38) (e4 39) (e4 104) (e4 105) (e4 106) (e4 107) (e4 108) (e4 109)

theorem rel.sight {v0 v1 v2 v3 v4 : Int32} {x y : Int32} {n : Nat} {I I2 I3 : px_I} {L L2 L3 : px_L} {R : px_R} (hj : jJ n I R) (hr : rel I L R) (f1 : frB I I2 L L2) {R2 : px_R} (fR : kR R I2 R2) (p1 : pb_sight v0 v1 v2 v3 v4 I L x I2 L2) (f2 : frK I2 I3 L2 L3) (p2 : pk_sight v0 v1 v2 v3 v4 I2 L2 y I3 L3) : rel I3 L3 R2 := by
  have hq0 := (relq_sight hj hr f1 fR p1 f2 p2).2
  have hq1 := relq_sight_1 hj hr f1 fR p1 f2 p2
  have f_32_10 : I3 32 10 = I 32 10 := by rw [f2.1 32 (by omega), eb_sight_32_10 p1]
  have f_103_0 : I3 103 0 = I 103 0 := by rw [ek_sight_103_0 p2, f1.1 103 (by omega) (by omega)]
  have f_33_7 : I3 33 7 = I 33 7 := by rw [f2.1 33 (by omega), eb_sight_33_7 p1]
  have f_103_1 : I3 103 1 = I 103 1 := by rw [ek_sight_103_1 p2, f1.1 103 (by omega) (by omega)]
  have f_70_5 : I3 70 5 = I 70 5 := by rw [f2.1 70 (by omega), eb_sight_70_5 p1]
  have f_103_25 : I3 103 25 = I 103 25 := by rw [ek_sight_103_25 p2, f1.1 103 (by omega) (by omega)]
  have f_71_r : I3 71 = I 71 := by rw [f2.1 71 (by omega), eb_sight_71_r p1]
  have f_121_r : I3 121 = I 121 := by rw [ek_sight_121_r p2, f1.1 121 (by omega) (by omega)]
  have f_90_r : I3 90 = I 90 := by rw [f2.1 90 (by omega), eb_sight_90_r p1]
  have f_91_r : I3 91 = I 91 := by rw [f2.1 91 (by omega), eb_sight_91_r p1]
  have f_86_3 : I3 86 3 = I 86 3 := by rw [f2.1 86 (by omega), eb_sight_86_3 p1]
  have f_86_4 : I3 86 4 = I 86 4 := by rw [f2.1 86 (by omega), eb_sight_86_4 p1]
  have f_86_5 : I3 86 5 = I 86 5 := by rw [f2.1 86 (by omega), eb_sight_86_5 p1]
  have f_86_6 : I3 86 6 = I 86 6 := by rw [f2.1 86 (by omega), eb_sight_86_6 p1]
  have f_86_7 : I3 86 7 = I 86 7 := by rw [f2.1 86 (by omega), eb_sight_86_7 p1]
  have f_9999_r : ∀ b, ((77 ≤ b ∧ b ≤ 79) ∨ 147 ≤ b) → I3 b = I b := fun b hb => by rw [f2.1 b (by omega), eb_sight_9999_r p1 b hb]
  have f_129_r : I3 129 = I 129 := by rw [ek_sight_129_r p2, f1.1 129 (by omega) (by omega)]
  have f_130_r : I3 130 = I 130 := by rw [ek_sight_130_r p2, f1.1 130 (by omega) (by omega)]
  have f_131_r : I3 131 = I 131 := by rw [ek_sight_131_r p2, f1.1 131 (by omega) (by omega)]
  have f_103_47 : I3 103 47 = I 103 47 := by rw [ek_sight_103_47 p2, f1.1 103 (by omega) (by omega)]
  have f_103_48 : I3 103 48 = I 103 48 := by rw [ek_sight_103_48 p2, f1.1 103 (by omega) (by omega)]
  have f_103_49 : I3 103 49 = I 103 49 := by rw [ek_sight_103_49 p2, f1.1 103 (by omega) (by omega)]
  have f_103_50 : I3 103 50 = I 103 50 := by rw [ek_sight_103_50 p2, f1.1 103 (by omega) (by omega)]
  have f_103_51 : I3 103 51 = I 103 51 := by rw [ek_sight_103_51 p2, f1.1 103 (by omega) (by omega)]
  have f_93_r : I3 93 = I 93 := by rw [f2.1 93 (by omega), eb_sight_93_r p1]
  have f_94_r : I3 94 = I 94 := by rw [f2.1 94 (by omega), eb_sight_94_r p1]
  have f_135_r : I3 135 = I 135 := by rw [ek_sight_135_r p2, f1.1 135 (by omega) (by omega)]
  have f_136_r : I3 136 = I 136 := by rw [ek_sight_136_r p2, f1.1 136 (by omega) (by omega)]
  exact ⟨(by rw [f_32_10, f_103_0]; exact hr.1), (by rw [f_33_7, f_103_1]; exact hr.2.1), hq0, hq1, (by rw [f_70_5, f_103_25]; exact hr.2.2.2.2.1), (by rw [f_71_r, f_121_r]; exact hr.2.2.2.2.2.1), (wy_eq f_90_r f_91_r f_86_3 f_86_4 f_86_5 f_86_6 f_86_7 f_9999_r f_129_r f_130_r f_131_r f_103_47 f_103_48 f_103_49 f_103_50 f_103_51 fR hr.2.2.2.2.2.2.1), (by rw [f_93_r, f_94_r, f_135_r, f_136_r]; exact hr.2.2.2.2.2.2.2)⟩

theorem rel.closed {v0 v1 : Int32} {x y : Int32} {n : Nat} {I I2 I3 : px_I} {L L2 L3 : px_L} {R : px_R} (hj : jJ n I R) (hr : rel I L R) (f1 : frB I I2 L L2) {R2 : px_R} (fR : kR R I2 R2) (p1 : pb_closed v0 v1 I L x I2 L2) (f2 : frK I2 I3 L2 L3) (p2 : pk_closed v0 v1 I2 L2 y I3 L3) : rel I3 L3 R2 := by
  have f_32_10 : I3 32 10 = I 32 10 := by rw [f2.1 32 (by omega), eb_closed_32_10 p1]
  have f_103_0 : I3 103 0 = I 103 0 := by rw [ek_closed_103_0 p2, f1.1 103 (by omega) (by omega)]
  have f_33_7 : I3 33 7 = I 33 7 := by rw [f2.1 33 (by omega), eb_closed_33_7 p1]
  have f_103_1 : I3 103 1 = I 103 1 := by rw [ek_closed_103_1 p2, f1.1 103 (by omega) (by omega)]
  have f_33_8 : I3 33 8 = I 33 8 := by rw [f2.1 33 (by omega), eb_closed_33_8 p1]
  have f_103_2 : I3 103 2 = I 103 2 := by rw [ek_closed_103_2 p2, f1.1 103 (by omega) (by omega)]
  have f_34_r : I3 34 = I 34 := by rw [f2.1 34 (by omega), eb_closed_34_r p1]
  have f_35_r : I3 35 = I 35 := by rw [f2.1 35 (by omega), eb_closed_35_r p1]
  have f_36_r : I3 36 = I 36 := by rw [f2.1 36 (by omega), eb_closed_36_r p1]
  have f_37_r : I3 37 = I 37 := by rw [f2.1 37 (by omega), eb_closed_37_r p1]
  have f_38_r : I3 38 = I 38 := by rw [f2.1 38 (by omega), eb_closed_38_r p1]
  have f_39_r : I3 39 = I 39 := by rw [f2.1 39 (by omega), eb_closed_39_r p1]
  have f_104_r : I3 104 = I 104 := by rw [ek_closed_104_r p2, f1.1 104 (by omega) (by omega)]
  have f_105_r : I3 105 = I 105 := by rw [ek_closed_105_r p2, f1.1 105 (by omega) (by omega)]
  have f_106_r : I3 106 = I 106 := by rw [ek_closed_106_r p2, f1.1 106 (by omega) (by omega)]
  have f_107_r : I3 107 = I 107 := by rw [ek_closed_107_r p2, f1.1 107 (by omega) (by omega)]
  have f_108_r : I3 108 = I 108 := by rw [ek_closed_108_r p2, f1.1 108 (by omega) (by omega)]
  have f_109_r : I3 109 = I 109 := by rw [ek_closed_109_r p2, f1.1 109 (by omega) (by omega)]
  have f_70_5 : I3 70 5 = I 70 5 := by rw [f2.1 70 (by omega), eb_closed_70_5 p1]
  have f_103_25 : I3 103 25 = I 103 25 := by rw [ek_closed_103_25 p2, f1.1 103 (by omega) (by omega)]
  have f_71_r : I3 71 = I 71 := by rw [f2.1 71 (by omega), eb_closed_71_r p1]
  have f_121_r : I3 121 = I 121 := by rw [ek_closed_121_r p2, f1.1 121 (by omega) (by omega)]
  have f_90_r : I3 90 = I 90 := by rw [f2.1 90 (by omega), eb_closed_90_r p1]
  have f_91_r : I3 91 = I 91 := by rw [f2.1 91 (by omega), eb_closed_91_r p1]
  have f_86_3 : I3 86 3 = I 86 3 := by rw [f2.1 86 (by omega), eb_closed_86_3 p1]
  have f_86_4 : I3 86 4 = I 86 4 := by rw [f2.1 86 (by omega), eb_closed_86_4 p1]
  have f_86_5 : I3 86 5 = I 86 5 := by rw [f2.1 86 (by omega), eb_closed_86_5 p1]
  have f_86_6 : I3 86 6 = I 86 6 := by rw [f2.1 86 (by omega), eb_closed_86_6 p1]
  have f_86_7 : I3 86 7 = I 86 7 := by rw [f2.1 86 (by omega), eb_closed_86_7 p1]
  have f_9999_r : ∀ b, ((77 ≤ b ∧ b ≤ 79) ∨ 147 ≤ b) → I3 b = I b := fun b hb => by rw [f2.1 b (by omega), eb_closed_9999_r p1 b hb]
  have f_129_r : I3 129 = I 129 := by rw [ek_closed_129_r p2, f1.1 129 (by omega) (by omega)]
  have f_130_r : I3 130 = I 130 := by rw [ek_closed_130_r p2, f1.1 130 (by omega) (by omega)]
  have f_131_r : I3 131 = I 131 := by rw [ek_closed_131_r p2, f1.1 131 (by omega) (by omega)]
  have f_103_47 : I3 103 47 = I 103 47 := by rw [ek_closed_103_47 p2, f1.1 103 (by omega) (by omega)]
  have f_103_48 : I3 103 48 = I 103 48 := by rw [ek_closed_103_48 p2, f1.1 103 (by omega) (by omega)]
  have f_103_49 : I3 103 49 = I 103 49 := by rw [ek_closed_103_49 p2, f1.1 103 (by omega) (by omega)]
  have f_103_50 : I3 103 50 = I 103 50 := by rw [ek_closed_103_50 p2, f1.1 103 (by omega) (by omega)]
  have f_103_51 : I3 103 51 = I 103 51 := by rw [ek_closed_103_51 p2, f1.1 103 (by omega) (by omega)]
  have f_93_r : I3 93 = I 93 := by rw [f2.1 93 (by omega), eb_closed_93_r p1]
  have f_94_r : I3 94 = I 94 := by rw [f2.1 94 (by omega), eb_closed_94_r p1]
  have f_135_r : I3 135 = I 135 := by rw [ek_closed_135_r p2, f1.1 135 (by omega) (by omega)]
  have f_136_r : I3 136 = I 136 := by rw [ek_closed_136_r p2, f1.1 136 (by omega) (by omega)]
  exact ⟨(by rw [f_32_10, f_103_0]; exact hr.1), (by rw [f_33_7, f_103_1]; exact hr.2.1), (by rw [f_33_8, f_103_2]; exact hr.2.2.1), (srOk.eq f_33_7 f_33_8 f_34_r f_35_r f_36_r f_37_r f_38_r f_39_r f_104_r f_105_r f_106_r f_107_r f_108_r f_109_r hr.2.2.2.1), (by rw [f_70_5, f_103_25]; exact hr.2.2.2.2.1), (by rw [f_71_r, f_121_r]; exact hr.2.2.2.2.2.1), (wy_eq f_90_r f_91_r f_86_3 f_86_4 f_86_5 f_86_6 f_86_7 f_9999_r f_129_r f_130_r f_131_r f_103_47 f_103_48 f_103_49 f_103_50 f_103_51 fR hr.2.2.2.2.2.2.1), (by rw [f_93_r, f_94_r, f_135_r, f_136_r]; exact hr.2.2.2.2.2.2.2)⟩

theorem rel.span {v0 v1 v2 v3 : Int32} {x y : Int32} {n : Nat} {I I2 I3 : px_I} {L L2 L3 : px_L} {R : px_R} (hj : jJ n I R) (hr : rel I L R) (f1 : frB I I2 L L2) {R2 : px_R} (fR : kR R I2 R2) (p1 : pb_span v0 v1 v2 v3 I L x I2 L2) (f2 : frK I2 I3 L2 L3) (p2 : pk_span v0 v1 v2 v3 I2 L2 y I3 L3) : rel I3 L3 R2 := by
  have f_32_10 : I3 32 10 = I 32 10 := by rw [f2.1 32 (by omega), eb_span_32_10 p1]
  have f_103_0 : I3 103 0 = I 103 0 := by rw [ek_span_103_0 p2, f1.1 103 (by omega) (by omega)]
  have f_33_7 : I3 33 7 = I 33 7 := by rw [f2.1 33 (by omega), eb_span_33_7 p1]
  have f_103_1 : I3 103 1 = I 103 1 := by rw [ek_span_103_1 p2, f1.1 103 (by omega) (by omega)]
  have f_33_8 : I3 33 8 = I 33 8 := by rw [f2.1 33 (by omega), eb_span_33_8 p1]
  have f_103_2 : I3 103 2 = I 103 2 := by rw [ek_span_103_2 p2, f1.1 103 (by omega) (by omega)]
  have f_34_r : I3 34 = I 34 := by rw [f2.1 34 (by omega), eb_span_34_r p1]
  have f_35_r : I3 35 = I 35 := by rw [f2.1 35 (by omega), eb_span_35_r p1]
  have f_36_r : I3 36 = I 36 := by rw [f2.1 36 (by omega), eb_span_36_r p1]
  have f_37_r : I3 37 = I 37 := by rw [f2.1 37 (by omega), eb_span_37_r p1]
  have f_38_r : I3 38 = I 38 := by rw [f2.1 38 (by omega), eb_span_38_r p1]
  have f_39_r : I3 39 = I 39 := by rw [f2.1 39 (by omega), eb_span_39_r p1]
  have f_104_r : I3 104 = I 104 := by rw [ek_span_104_r p2, f1.1 104 (by omega) (by omega)]
  have f_105_r : I3 105 = I 105 := by rw [ek_span_105_r p2, f1.1 105 (by omega) (by omega)]
  have f_106_r : I3 106 = I 106 := by rw [ek_span_106_r p2, f1.1 106 (by omega) (by omega)]
  have f_107_r : I3 107 = I 107 := by rw [ek_span_107_r p2, f1.1 107 (by omega) (by omega)]
  have f_108_r : I3 108 = I 108 := by rw [ek_span_108_r p2, f1.1 108 (by omega) (by omega)]
  have f_109_r : I3 109 = I 109 := by rw [ek_span_109_r p2, f1.1 109 (by omega) (by omega)]
  have f_70_5 : I3 70 5 = I 70 5 := by rw [f2.1 70 (by omega), eb_span_70_5 p1]
  have f_103_25 : I3 103 25 = I 103 25 := by rw [ek_span_103_25 p2, f1.1 103 (by omega) (by omega)]
  have f_71_r : I3 71 = I 71 := by rw [f2.1 71 (by omega), eb_span_71_r p1]
  have f_121_r : I3 121 = I 121 := by rw [ek_span_121_r p2, f1.1 121 (by omega) (by omega)]
  have f_90_r : I3 90 = I 90 := by rw [f2.1 90 (by omega), eb_span_90_r p1]
  have f_91_r : I3 91 = I 91 := by rw [f2.1 91 (by omega), eb_span_91_r p1]
  have f_86_3 : I3 86 3 = I 86 3 := by rw [f2.1 86 (by omega), eb_span_86_3 p1]
  have f_86_4 : I3 86 4 = I 86 4 := by rw [f2.1 86 (by omega), eb_span_86_4 p1]
  have f_86_5 : I3 86 5 = I 86 5 := by rw [f2.1 86 (by omega), eb_span_86_5 p1]
  have f_86_6 : I3 86 6 = I 86 6 := by rw [f2.1 86 (by omega), eb_span_86_6 p1]
  have f_86_7 : I3 86 7 = I 86 7 := by rw [f2.1 86 (by omega), eb_span_86_7 p1]
  have f_9999_r : ∀ b, ((77 ≤ b ∧ b ≤ 79) ∨ 147 ≤ b) → I3 b = I b := fun b hb => by rw [f2.1 b (by omega), eb_span_9999_r p1 b hb]
  have f_129_r : I3 129 = I 129 := by rw [ek_span_129_r p2, f1.1 129 (by omega) (by omega)]
  have f_130_r : I3 130 = I 130 := by rw [ek_span_130_r p2, f1.1 130 (by omega) (by omega)]
  have f_131_r : I3 131 = I 131 := by rw [ek_span_131_r p2, f1.1 131 (by omega) (by omega)]
  have f_103_47 : I3 103 47 = I 103 47 := by rw [ek_span_103_47 p2, f1.1 103 (by omega) (by omega)]
  have f_103_48 : I3 103 48 = I 103 48 := by rw [ek_span_103_48 p2, f1.1 103 (by omega) (by omega)]
  have f_103_49 : I3 103 49 = I 103 49 := by rw [ek_span_103_49 p2, f1.1 103 (by omega) (by omega)]
  have f_103_50 : I3 103 50 = I 103 50 := by rw [ek_span_103_50 p2, f1.1 103 (by omega) (by omega)]
  have f_103_51 : I3 103 51 = I 103 51 := by rw [ek_span_103_51 p2, f1.1 103 (by omega) (by omega)]
  have f_93_r : I3 93 = I 93 := by rw [f2.1 93 (by omega), eb_span_93_r p1]
  have f_94_r : I3 94 = I 94 := by rw [f2.1 94 (by omega), eb_span_94_r p1]
  have f_135_r : I3 135 = I 135 := by rw [ek_span_135_r p2, f1.1 135 (by omega) (by omega)]
  have f_136_r : I3 136 = I 136 := by rw [ek_span_136_r p2, f1.1 136 (by omega) (by omega)]
  exact ⟨(by rw [f_32_10, f_103_0]; exact hr.1), (by rw [f_33_7, f_103_1]; exact hr.2.1), (by rw [f_33_8, f_103_2]; exact hr.2.2.1), (srOk.eq f_33_7 f_33_8 f_34_r f_35_r f_36_r f_37_r f_38_r f_39_r f_104_r f_105_r f_106_r f_107_r f_108_r f_109_r hr.2.2.2.1), (by rw [f_70_5, f_103_25]; exact hr.2.2.2.2.1), (by rw [f_71_r, f_121_r]; exact hr.2.2.2.2.2.1), (wy_eq f_90_r f_91_r f_86_3 f_86_4 f_86_5 f_86_6 f_86_7 f_9999_r f_129_r f_130_r f_131_r f_103_47 f_103_48 f_103_49 f_103_50 f_103_51 fR hr.2.2.2.2.2.2.1), (by rw [f_93_r, f_94_r, f_135_r, f_136_r]; exact hr.2.2.2.2.2.2.2)⟩

theorem rel.gap {v0 v1 v2 v3 v4 : Int32} {x y : Int32} {n : Nat} {I I2 I3 : px_I} {L L2 L3 : px_L} {R : px_R} (hj : jJ n I R) (hr : rel I L R) (f1 : frB I I2 L L2) {R2 : px_R} (fR : kR R I2 R2) (p1 : pb_gap v0 v1 v2 v3 v4 I L x I2 L2) (f2 : frK I2 I3 L2 L3) (p2 : pk_gap v0 v1 v2 v3 v4 I2 L2 y I3 L3) : rel I3 L3 R2 := by
  have f_32_10 : I3 32 10 = I 32 10 := by rw [f2.1 32 (by omega), eb_gap_32_10 p1]
  have f_103_0 : I3 103 0 = I 103 0 := by rw [ek_gap_103_0 p2, f1.1 103 (by omega) (by omega)]
  have f_33_7 : I3 33 7 = I 33 7 := by rw [f2.1 33 (by omega), eb_gap_33_7 p1]
  have f_103_1 : I3 103 1 = I 103 1 := by rw [ek_gap_103_1 p2, f1.1 103 (by omega) (by omega)]
  have f_33_8 : I3 33 8 = I 33 8 := by rw [f2.1 33 (by omega), eb_gap_33_8 p1]
  have f_103_2 : I3 103 2 = I 103 2 := by rw [ek_gap_103_2 p2, f1.1 103 (by omega) (by omega)]
  have f_34_r : I3 34 = I 34 := by rw [f2.1 34 (by omega), eb_gap_34_r p1]
  have f_35_r : I3 35 = I 35 := by rw [f2.1 35 (by omega), eb_gap_35_r p1]
  have f_36_r : I3 36 = I 36 := by rw [f2.1 36 (by omega), eb_gap_36_r p1]
  have f_37_r : I3 37 = I 37 := by rw [f2.1 37 (by omega), eb_gap_37_r p1]
  have f_38_r : I3 38 = I 38 := by rw [f2.1 38 (by omega), eb_gap_38_r p1]
  have f_39_r : I3 39 = I 39 := by rw [f2.1 39 (by omega), eb_gap_39_r p1]
  have f_104_r : I3 104 = I 104 := by rw [ek_gap_104_r p2, f1.1 104 (by omega) (by omega)]
  have f_105_r : I3 105 = I 105 := by rw [ek_gap_105_r p2, f1.1 105 (by omega) (by omega)]
  have f_106_r : I3 106 = I 106 := by rw [ek_gap_106_r p2, f1.1 106 (by omega) (by omega)]
  have f_107_r : I3 107 = I 107 := by rw [ek_gap_107_r p2, f1.1 107 (by omega) (by omega)]
  have f_108_r : I3 108 = I 108 := by rw [ek_gap_108_r p2, f1.1 108 (by omega) (by omega)]
  have f_109_r : I3 109 = I 109 := by rw [ek_gap_109_r p2, f1.1 109 (by omega) (by omega)]
  have f_70_5 : I3 70 5 = I 70 5 := by rw [f2.1 70 (by omega), eb_gap_70_5 p1]
  have f_103_25 : I3 103 25 = I 103 25 := by rw [ek_gap_103_25 p2, f1.1 103 (by omega) (by omega)]
  have f_71_r : I3 71 = I 71 := by rw [f2.1 71 (by omega), eb_gap_71_r p1]
  have f_121_r : I3 121 = I 121 := by rw [ek_gap_121_r p2, f1.1 121 (by omega) (by omega)]
  have f_90_r : I3 90 = I 90 := by rw [f2.1 90 (by omega), eb_gap_90_r p1]
  have f_91_r : I3 91 = I 91 := by rw [f2.1 91 (by omega), eb_gap_91_r p1]
  have f_86_3 : I3 86 3 = I 86 3 := by rw [f2.1 86 (by omega), eb_gap_86_3 p1]
  have f_86_4 : I3 86 4 = I 86 4 := by rw [f2.1 86 (by omega), eb_gap_86_4 p1]
  have f_86_5 : I3 86 5 = I 86 5 := by rw [f2.1 86 (by omega), eb_gap_86_5 p1]
  have f_86_6 : I3 86 6 = I 86 6 := by rw [f2.1 86 (by omega), eb_gap_86_6 p1]
  have f_86_7 : I3 86 7 = I 86 7 := by rw [f2.1 86 (by omega), eb_gap_86_7 p1]
  have f_9999_r : ∀ b, ((77 ≤ b ∧ b ≤ 79) ∨ 147 ≤ b) → I3 b = I b := fun b hb => by rw [f2.1 b (by omega), eb_gap_9999_r p1 b hb]
  have f_129_r : I3 129 = I 129 := by rw [ek_gap_129_r p2, f1.1 129 (by omega) (by omega)]
  have f_130_r : I3 130 = I 130 := by rw [ek_gap_130_r p2, f1.1 130 (by omega) (by omega)]
  have f_131_r : I3 131 = I 131 := by rw [ek_gap_131_r p2, f1.1 131 (by omega) (by omega)]
  have f_103_47 : I3 103 47 = I 103 47 := by rw [ek_gap_103_47 p2, f1.1 103 (by omega) (by omega)]
  have f_103_48 : I3 103 48 = I 103 48 := by rw [ek_gap_103_48 p2, f1.1 103 (by omega) (by omega)]
  have f_103_49 : I3 103 49 = I 103 49 := by rw [ek_gap_103_49 p2, f1.1 103 (by omega) (by omega)]
  have f_103_50 : I3 103 50 = I 103 50 := by rw [ek_gap_103_50 p2, f1.1 103 (by omega) (by omega)]
  have f_103_51 : I3 103 51 = I 103 51 := by rw [ek_gap_103_51 p2, f1.1 103 (by omega) (by omega)]
  have f_93_r : I3 93 = I 93 := by rw [f2.1 93 (by omega), eb_gap_93_r p1]
  have f_94_r : I3 94 = I 94 := by rw [f2.1 94 (by omega), eb_gap_94_r p1]
  have f_135_r : I3 135 = I 135 := by rw [ek_gap_135_r p2, f1.1 135 (by omega) (by omega)]
  have f_136_r : I3 136 = I 136 := by rw [ek_gap_136_r p2, f1.1 136 (by omega) (by omega)]
  exact ⟨(by rw [f_32_10, f_103_0]; exact hr.1), (by rw [f_33_7, f_103_1]; exact hr.2.1), (by rw [f_33_8, f_103_2]; exact hr.2.2.1), (srOk.eq f_33_7 f_33_8 f_34_r f_35_r f_36_r f_37_r f_38_r f_39_r f_104_r f_105_r f_106_r f_107_r f_108_r f_109_r hr.2.2.2.1), (by rw [f_70_5, f_103_25]; exact hr.2.2.2.2.1), (by rw [f_71_r, f_121_r]; exact hr.2.2.2.2.2.1), (wy_eq f_90_r f_91_r f_86_3 f_86_4 f_86_5 f_86_6 f_86_7 f_9999_r f_129_r f_130_r f_131_r f_103_47 f_103_48 f_103_49 f_103_50 f_103_51 fR hr.2.2.2.2.2.2.1), (by rw [f_93_r, f_94_r, f_135_r, f_136_r]; exact hr.2.2.2.2.2.2.2)⟩

theorem rel.blamed {v0 v1 v2 : Int32} {x y : Int32} {n : Nat} {I I2 I3 : px_I} {L L2 L3 : px_L} {R : px_R} (hj : jJ n I R) (hr : rel I L R) (f1 : frB I I2 L L2) {R2 : px_R} (fR : kR R I2 R2) (p1 : pb_blamed v0 v1 v2 I L x I2 L2) (f2 : frK I2 I3 L2 L3) (p2 : pk_blamed v0 v1 v2 I2 L2 y I3 L3) : rel I3 L3 R2 := by
  have f_32_10 : I3 32 10 = I 32 10 := by rw [f2.1 32 (by omega), eb_blamed_32_10 p1]
  have f_103_0 : I3 103 0 = I 103 0 := by rw [ek_blamed_103_0 p2, f1.1 103 (by omega) (by omega)]
  have f_33_7 : I3 33 7 = I 33 7 := by rw [f2.1 33 (by omega), eb_blamed_33_7 p1]
  have f_103_1 : I3 103 1 = I 103 1 := by rw [ek_blamed_103_1 p2, f1.1 103 (by omega) (by omega)]
  have f_33_8 : I3 33 8 = I 33 8 := by rw [f2.1 33 (by omega), eb_blamed_33_8 p1]
  have f_103_2 : I3 103 2 = I 103 2 := by rw [ek_blamed_103_2 p2, f1.1 103 (by omega) (by omega)]
  have f_34_r : I3 34 = I 34 := by rw [f2.1 34 (by omega), eb_blamed_34_r p1]
  have f_35_r : I3 35 = I 35 := by rw [f2.1 35 (by omega), eb_blamed_35_r p1]
  have f_36_r : I3 36 = I 36 := by rw [f2.1 36 (by omega), eb_blamed_36_r p1]
  have f_37_r : I3 37 = I 37 := by rw [f2.1 37 (by omega), eb_blamed_37_r p1]
  have f_38_r : I3 38 = I 38 := by rw [f2.1 38 (by omega), eb_blamed_38_r p1]
  have f_39_r : I3 39 = I 39 := by rw [f2.1 39 (by omega), eb_blamed_39_r p1]
  have f_104_r : I3 104 = I 104 := by rw [ek_blamed_104_r p2, f1.1 104 (by omega) (by omega)]
  have f_105_r : I3 105 = I 105 := by rw [ek_blamed_105_r p2, f1.1 105 (by omega) (by omega)]
  have f_106_r : I3 106 = I 106 := by rw [ek_blamed_106_r p2, f1.1 106 (by omega) (by omega)]
  have f_107_r : I3 107 = I 107 := by rw [ek_blamed_107_r p2, f1.1 107 (by omega) (by omega)]
  have f_108_r : I3 108 = I 108 := by rw [ek_blamed_108_r p2, f1.1 108 (by omega) (by omega)]
  have f_109_r : I3 109 = I 109 := by rw [ek_blamed_109_r p2, f1.1 109 (by omega) (by omega)]
  have f_70_5 : I3 70 5 = I 70 5 := by rw [f2.1 70 (by omega), eb_blamed_70_5 p1]
  have f_103_25 : I3 103 25 = I 103 25 := by rw [ek_blamed_103_25 p2, f1.1 103 (by omega) (by omega)]
  have f_71_r : I3 71 = I 71 := by rw [f2.1 71 (by omega), eb_blamed_71_r p1]
  have f_121_r : I3 121 = I 121 := by rw [ek_blamed_121_r p2, f1.1 121 (by omega) (by omega)]
  have f_90_r : I3 90 = I 90 := by rw [f2.1 90 (by omega), eb_blamed_90_r p1]
  have f_91_r : I3 91 = I 91 := by rw [f2.1 91 (by omega), eb_blamed_91_r p1]
  have f_86_3 : I3 86 3 = I 86 3 := by rw [f2.1 86 (by omega), eb_blamed_86_3 p1]
  have f_86_4 : I3 86 4 = I 86 4 := by rw [f2.1 86 (by omega), eb_blamed_86_4 p1]
  have f_86_5 : I3 86 5 = I 86 5 := by rw [f2.1 86 (by omega), eb_blamed_86_5 p1]
  have f_86_6 : I3 86 6 = I 86 6 := by rw [f2.1 86 (by omega), eb_blamed_86_6 p1]
  have f_86_7 : I3 86 7 = I 86 7 := by rw [f2.1 86 (by omega), eb_blamed_86_7 p1]
  have f_9999_r : ∀ b, ((77 ≤ b ∧ b ≤ 79) ∨ 147 ≤ b) → I3 b = I b := fun b hb => by rw [f2.1 b (by omega), eb_blamed_9999_r p1 b hb]
  have f_129_r : I3 129 = I 129 := by rw [ek_blamed_129_r p2, f1.1 129 (by omega) (by omega)]
  have f_130_r : I3 130 = I 130 := by rw [ek_blamed_130_r p2, f1.1 130 (by omega) (by omega)]
  have f_131_r : I3 131 = I 131 := by rw [ek_blamed_131_r p2, f1.1 131 (by omega) (by omega)]
  have f_103_47 : I3 103 47 = I 103 47 := by rw [ek_blamed_103_47 p2, f1.1 103 (by omega) (by omega)]
  have f_103_48 : I3 103 48 = I 103 48 := by rw [ek_blamed_103_48 p2, f1.1 103 (by omega) (by omega)]
  have f_103_49 : I3 103 49 = I 103 49 := by rw [ek_blamed_103_49 p2, f1.1 103 (by omega) (by omega)]
  have f_103_50 : I3 103 50 = I 103 50 := by rw [ek_blamed_103_50 p2, f1.1 103 (by omega) (by omega)]
  have f_103_51 : I3 103 51 = I 103 51 := by rw [ek_blamed_103_51 p2, f1.1 103 (by omega) (by omega)]
  have f_93_r : I3 93 = I 93 := by rw [f2.1 93 (by omega), eb_blamed_93_r p1]
  have f_94_r : I3 94 = I 94 := by rw [f2.1 94 (by omega), eb_blamed_94_r p1]
  have f_135_r : I3 135 = I 135 := by rw [ek_blamed_135_r p2, f1.1 135 (by omega) (by omega)]
  have f_136_r : I3 136 = I 136 := by rw [ek_blamed_136_r p2, f1.1 136 (by omega) (by omega)]
  exact ⟨(by rw [f_32_10, f_103_0]; exact hr.1), (by rw [f_33_7, f_103_1]; exact hr.2.1), (by rw [f_33_8, f_103_2]; exact hr.2.2.1), (srOk.eq f_33_7 f_33_8 f_34_r f_35_r f_36_r f_37_r f_38_r f_39_r f_104_r f_105_r f_106_r f_107_r f_108_r f_109_r hr.2.2.2.1), (by rw [f_70_5, f_103_25]; exact hr.2.2.2.2.1), (by rw [f_71_r, f_121_r]; exact hr.2.2.2.2.2.1), (wy_eq f_90_r f_91_r f_86_3 f_86_4 f_86_5 f_86_6 f_86_7 f_9999_r f_129_r f_130_r f_131_r f_103_47 f_103_48 f_103_49 f_103_50 f_103_51 fR hr.2.2.2.2.2.2.1), (by rw [f_93_r, f_94_r, f_135_r, f_136_r]; exact hr.2.2.2.2.2.2.2)⟩

theorem rel.reach {v0 v1 v2 v3 v4 v5 v6 : Int32} {x y : Int32} {n : Nat} {I I2 I3 : px_I} {L L2 L3 : px_L} {R : px_R} (hj : jJ n I R) (hr : rel I L R) (f1 : frB I I2 L L2) {R2 : px_R} (fR : kR R I2 R2) (p1 : pb_reach v0 v1 v2 v3 v4 v5 v6 I L x I2 L2) (f2 : frK I2 I3 L2 L3) (p2 : pk_reach v0 v1 v2 v3 v4 v5 v6 I2 L2 y I3 L3) : rel I3 L3 R2 := by
  have f_32_10 : I3 32 10 = I 32 10 := by rw [f2.1 32 (by omega), eb_reach_32_10 p1]
  have f_103_0 : I3 103 0 = I 103 0 := by rw [ek_reach_103_0 p2, f1.1 103 (by omega) (by omega)]
  have f_33_7 : I3 33 7 = I 33 7 := by rw [f2.1 33 (by omega), eb_reach_33_7 p1]
  have f_103_1 : I3 103 1 = I 103 1 := by rw [ek_reach_103_1 p2, f1.1 103 (by omega) (by omega)]
  have f_33_8 : I3 33 8 = I 33 8 := by rw [f2.1 33 (by omega), eb_reach_33_8 p1]
  have f_103_2 : I3 103 2 = I 103 2 := by rw [ek_reach_103_2 p2, f1.1 103 (by omega) (by omega)]
  have f_34_r : I3 34 = I 34 := by rw [f2.1 34 (by omega), eb_reach_34_r p1]
  have f_35_r : I3 35 = I 35 := by rw [f2.1 35 (by omega), eb_reach_35_r p1]
  have f_36_r : I3 36 = I 36 := by rw [f2.1 36 (by omega), eb_reach_36_r p1]
  have f_37_r : I3 37 = I 37 := by rw [f2.1 37 (by omega), eb_reach_37_r p1]
  have f_38_r : I3 38 = I 38 := by rw [f2.1 38 (by omega), eb_reach_38_r p1]
  have f_39_r : I3 39 = I 39 := by rw [f2.1 39 (by omega), eb_reach_39_r p1]
  have f_104_r : I3 104 = I 104 := by rw [ek_reach_104_r p2, f1.1 104 (by omega) (by omega)]
  have f_105_r : I3 105 = I 105 := by rw [ek_reach_105_r p2, f1.1 105 (by omega) (by omega)]
  have f_106_r : I3 106 = I 106 := by rw [ek_reach_106_r p2, f1.1 106 (by omega) (by omega)]
  have f_107_r : I3 107 = I 107 := by rw [ek_reach_107_r p2, f1.1 107 (by omega) (by omega)]
  have f_108_r : I3 108 = I 108 := by rw [ek_reach_108_r p2, f1.1 108 (by omega) (by omega)]
  have f_109_r : I3 109 = I 109 := by rw [ek_reach_109_r p2, f1.1 109 (by omega) (by omega)]
  have f_70_5 : I3 70 5 = I 70 5 := by rw [f2.1 70 (by omega), eb_reach_70_5 p1]
  have f_103_25 : I3 103 25 = I 103 25 := by rw [ek_reach_103_25 p2, f1.1 103 (by omega) (by omega)]
  have f_71_r : I3 71 = I 71 := by rw [f2.1 71 (by omega), eb_reach_71_r p1]
  have f_121_r : I3 121 = I 121 := by rw [ek_reach_121_r p2, f1.1 121 (by omega) (by omega)]
  have f_90_r : I3 90 = I 90 := by rw [f2.1 90 (by omega), eb_reach_90_r p1]
  have f_91_r : I3 91 = I 91 := by rw [f2.1 91 (by omega), eb_reach_91_r p1]
  have f_86_3 : I3 86 3 = I 86 3 := by rw [f2.1 86 (by omega), eb_reach_86_3 p1]
  have f_86_4 : I3 86 4 = I 86 4 := by rw [f2.1 86 (by omega), eb_reach_86_4 p1]
  have f_86_5 : I3 86 5 = I 86 5 := by rw [f2.1 86 (by omega), eb_reach_86_5 p1]
  have f_86_6 : I3 86 6 = I 86 6 := by rw [f2.1 86 (by omega), eb_reach_86_6 p1]
  have f_86_7 : I3 86 7 = I 86 7 := by rw [f2.1 86 (by omega), eb_reach_86_7 p1]
  have f_9999_r : ∀ b, ((77 ≤ b ∧ b ≤ 79) ∨ 147 ≤ b) → I3 b = I b := fun b hb => by rw [f2.1 b (by omega), eb_reach_9999_r p1 b hb]
  have f_129_r : I3 129 = I 129 := by rw [ek_reach_129_r p2, f1.1 129 (by omega) (by omega)]
  have f_130_r : I3 130 = I 130 := by rw [ek_reach_130_r p2, f1.1 130 (by omega) (by omega)]
  have f_131_r : I3 131 = I 131 := by rw [ek_reach_131_r p2, f1.1 131 (by omega) (by omega)]
  have f_103_47 : I3 103 47 = I 103 47 := by rw [ek_reach_103_47 p2, f1.1 103 (by omega) (by omega)]
  have f_103_48 : I3 103 48 = I 103 48 := by rw [ek_reach_103_48 p2, f1.1 103 (by omega) (by omega)]
  have f_103_49 : I3 103 49 = I 103 49 := by rw [ek_reach_103_49 p2, f1.1 103 (by omega) (by omega)]
  have f_103_50 : I3 103 50 = I 103 50 := by rw [ek_reach_103_50 p2, f1.1 103 (by omega) (by omega)]
  have f_103_51 : I3 103 51 = I 103 51 := by rw [ek_reach_103_51 p2, f1.1 103 (by omega) (by omega)]
  have f_93_r : I3 93 = I 93 := by rw [f2.1 93 (by omega), eb_reach_93_r p1]
  have f_94_r : I3 94 = I 94 := by rw [f2.1 94 (by omega), eb_reach_94_r p1]
  have f_135_r : I3 135 = I 135 := by rw [ek_reach_135_r p2, f1.1 135 (by omega) (by omega)]
  have f_136_r : I3 136 = I 136 := by rw [ek_reach_136_r p2, f1.1 136 (by omega) (by omega)]
  exact ⟨(by rw [f_32_10, f_103_0]; exact hr.1), (by rw [f_33_7, f_103_1]; exact hr.2.1), (by rw [f_33_8, f_103_2]; exact hr.2.2.1), (srOk.eq f_33_7 f_33_8 f_34_r f_35_r f_36_r f_37_r f_38_r f_39_r f_104_r f_105_r f_106_r f_107_r f_108_r f_109_r hr.2.2.2.1), (by rw [f_70_5, f_103_25]; exact hr.2.2.2.2.1), (by rw [f_71_r, f_121_r]; exact hr.2.2.2.2.2.1), (wy_eq f_90_r f_91_r f_86_3 f_86_4 f_86_5 f_86_6 f_86_7 f_9999_r f_129_r f_130_r f_131_r f_103_47 f_103_48 f_103_49 f_103_50 f_103_51 fR hr.2.2.2.2.2.2.1), (by rw [f_93_r, f_94_r, f_135_r, f_136_r]; exact hr.2.2.2.2.2.2.2)⟩

theorem rel.mouth {v0 v1 : Int32} {x y : Int32} {n : Nat} {I I2 I3 : px_I} {L L2 L3 : px_L} {R : px_R} (hj : jJ n I R) (hr : rel I L R) (f1 : frB I I2 L L2) {R2 : px_R} (fR : kR R I2 R2) (p1 : pb_mouth v0 v1 I L x I2 L2) (f2 : frK I2 I3 L2 L3) (p2 : pk_mouth v0 v1 I2 L2 y I3 L3) : rel I3 L3 R2 := by
  have f_32_10 : I3 32 10 = I 32 10 := by rw [f2.1 32 (by omega), eb_mouth_32_10 p1]
  have f_103_0 : I3 103 0 = I 103 0 := by rw [ek_mouth_103_0 p2, f1.1 103 (by omega) (by omega)]
  have f_33_7 : I3 33 7 = I 33 7 := by rw [f2.1 33 (by omega), eb_mouth_33_7 p1]
  have f_103_1 : I3 103 1 = I 103 1 := by rw [ek_mouth_103_1 p2, f1.1 103 (by omega) (by omega)]
  have f_33_8 : I3 33 8 = I 33 8 := by rw [f2.1 33 (by omega), eb_mouth_33_8 p1]
  have f_103_2 : I3 103 2 = I 103 2 := by rw [ek_mouth_103_2 p2, f1.1 103 (by omega) (by omega)]
  have f_34_r : I3 34 = I 34 := by rw [f2.1 34 (by omega), eb_mouth_34_r p1]
  have f_35_r : I3 35 = I 35 := by rw [f2.1 35 (by omega), eb_mouth_35_r p1]
  have f_36_r : I3 36 = I 36 := by rw [f2.1 36 (by omega), eb_mouth_36_r p1]
  have f_37_r : I3 37 = I 37 := by rw [f2.1 37 (by omega), eb_mouth_37_r p1]
  have f_38_r : I3 38 = I 38 := by rw [f2.1 38 (by omega), eb_mouth_38_r p1]
  have f_39_r : I3 39 = I 39 := by rw [f2.1 39 (by omega), eb_mouth_39_r p1]
  have f_104_r : I3 104 = I 104 := by rw [ek_mouth_104_r p2, f1.1 104 (by omega) (by omega)]
  have f_105_r : I3 105 = I 105 := by rw [ek_mouth_105_r p2, f1.1 105 (by omega) (by omega)]
  have f_106_r : I3 106 = I 106 := by rw [ek_mouth_106_r p2, f1.1 106 (by omega) (by omega)]
  have f_107_r : I3 107 = I 107 := by rw [ek_mouth_107_r p2, f1.1 107 (by omega) (by omega)]
  have f_108_r : I3 108 = I 108 := by rw [ek_mouth_108_r p2, f1.1 108 (by omega) (by omega)]
  have f_109_r : I3 109 = I 109 := by rw [ek_mouth_109_r p2, f1.1 109 (by omega) (by omega)]
  have f_70_5 : I3 70 5 = I 70 5 := by rw [f2.1 70 (by omega), eb_mouth_70_5 p1]
  have f_103_25 : I3 103 25 = I 103 25 := by rw [ek_mouth_103_25 p2, f1.1 103 (by omega) (by omega)]
  have f_71_r : I3 71 = I 71 := by rw [f2.1 71 (by omega), eb_mouth_71_r p1]
  have f_121_r : I3 121 = I 121 := by rw [ek_mouth_121_r p2, f1.1 121 (by omega) (by omega)]
  have f_90_r : I3 90 = I 90 := by rw [f2.1 90 (by omega), eb_mouth_90_r p1]
  have f_91_r : I3 91 = I 91 := by rw [f2.1 91 (by omega), eb_mouth_91_r p1]
  have f_86_3 : I3 86 3 = I 86 3 := by rw [f2.1 86 (by omega), eb_mouth_86_3 p1]
  have f_86_4 : I3 86 4 = I 86 4 := by rw [f2.1 86 (by omega), eb_mouth_86_4 p1]
  have f_86_5 : I3 86 5 = I 86 5 := by rw [f2.1 86 (by omega), eb_mouth_86_5 p1]
  have f_86_6 : I3 86 6 = I 86 6 := by rw [f2.1 86 (by omega), eb_mouth_86_6 p1]
  have f_86_7 : I3 86 7 = I 86 7 := by rw [f2.1 86 (by omega), eb_mouth_86_7 p1]
  have f_9999_r : ∀ b, ((77 ≤ b ∧ b ≤ 79) ∨ 147 ≤ b) → I3 b = I b := fun b hb => by rw [f2.1 b (by omega), eb_mouth_9999_r p1 b hb]
  have f_129_r : I3 129 = I 129 := by rw [ek_mouth_129_r p2, f1.1 129 (by omega) (by omega)]
  have f_130_r : I3 130 = I 130 := by rw [ek_mouth_130_r p2, f1.1 130 (by omega) (by omega)]
  have f_131_r : I3 131 = I 131 := by rw [ek_mouth_131_r p2, f1.1 131 (by omega) (by omega)]
  have f_103_47 : I3 103 47 = I 103 47 := by rw [ek_mouth_103_47 p2, f1.1 103 (by omega) (by omega)]
  have f_103_48 : I3 103 48 = I 103 48 := by rw [ek_mouth_103_48 p2, f1.1 103 (by omega) (by omega)]
  have f_103_49 : I3 103 49 = I 103 49 := by rw [ek_mouth_103_49 p2, f1.1 103 (by omega) (by omega)]
  have f_103_50 : I3 103 50 = I 103 50 := by rw [ek_mouth_103_50 p2, f1.1 103 (by omega) (by omega)]
  have f_103_51 : I3 103 51 = I 103 51 := by rw [ek_mouth_103_51 p2, f1.1 103 (by omega) (by omega)]
  have f_93_r : I3 93 = I 93 := by rw [f2.1 93 (by omega), eb_mouth_93_r p1]
  have f_94_r : I3 94 = I 94 := by rw [f2.1 94 (by omega), eb_mouth_94_r p1]
  have f_135_r : I3 135 = I 135 := by rw [ek_mouth_135_r p2, f1.1 135 (by omega) (by omega)]
  have f_136_r : I3 136 = I 136 := by rw [ek_mouth_136_r p2, f1.1 136 (by omega) (by omega)]
  exact ⟨(by rw [f_32_10, f_103_0]; exact hr.1), (by rw [f_33_7, f_103_1]; exact hr.2.1), (by rw [f_33_8, f_103_2]; exact hr.2.2.1), (srOk.eq f_33_7 f_33_8 f_34_r f_35_r f_36_r f_37_r f_38_r f_39_r f_104_r f_105_r f_106_r f_107_r f_108_r f_109_r hr.2.2.2.1), (by rw [f_70_5, f_103_25]; exact hr.2.2.2.2.1), (by rw [f_71_r, f_121_r]; exact hr.2.2.2.2.2.1), (wy_eq f_90_r f_91_r f_86_3 f_86_4 f_86_5 f_86_6 f_86_7 f_9999_r f_129_r f_130_r f_131_r f_103_47 f_103_48 f_103_49 f_103_50 f_103_51 fR hr.2.2.2.2.2.2.1), (by rw [f_93_r, f_94_r, f_135_r, f_136_r]; exact hr.2.2.2.2.2.2.2)⟩

theorem rel.mark {v0 v1 v2 v3 : Int32} {x y : Int32} {n : Nat} {I I2 I3 : px_I} {L L2 L3 : px_L} {R : px_R} (hj : jJ n I R) (hr : rel I L R) (f1 : frB I I2 L L2) {R2 : px_R} (fR : kR R I2 R2) (p1 : pb_mark v0 v1 v2 v3 I L x I2 L2) (f2 : frK I2 I3 L2 L3) (p2 : pk_mark v0 v1 v2 v3 I2 L2 y I3 L3) : rel I3 L3 R2 := by
  have f_32_10 : I3 32 10 = I 32 10 := by rw [f2.1 32 (by omega), eb_mark_32_10 p1]
  have f_103_0 : I3 103 0 = I 103 0 := by rw [ek_mark_103_0 p2, f1.1 103 (by omega) (by omega)]
  have f_33_7 : I3 33 7 = I 33 7 := by rw [f2.1 33 (by omega), eb_mark_33_7 p1]
  have f_103_1 : I3 103 1 = I 103 1 := by rw [ek_mark_103_1 p2, f1.1 103 (by omega) (by omega)]
  have f_33_8 : I3 33 8 = I 33 8 := by rw [f2.1 33 (by omega), eb_mark_33_8 p1]
  have f_103_2 : I3 103 2 = I 103 2 := by rw [ek_mark_103_2 p2, f1.1 103 (by omega) (by omega)]
  have f_34_r : I3 34 = I 34 := by rw [f2.1 34 (by omega), eb_mark_34_r p1]
  have f_35_r : I3 35 = I 35 := by rw [f2.1 35 (by omega), eb_mark_35_r p1]
  have f_36_r : I3 36 = I 36 := by rw [f2.1 36 (by omega), eb_mark_36_r p1]
  have f_37_r : I3 37 = I 37 := by rw [f2.1 37 (by omega), eb_mark_37_r p1]
  have f_38_r : I3 38 = I 38 := by rw [f2.1 38 (by omega), eb_mark_38_r p1]
  have f_39_r : I3 39 = I 39 := by rw [f2.1 39 (by omega), eb_mark_39_r p1]
  have f_104_r : I3 104 = I 104 := by rw [ek_mark_104_r p2, f1.1 104 (by omega) (by omega)]
  have f_105_r : I3 105 = I 105 := by rw [ek_mark_105_r p2, f1.1 105 (by omega) (by omega)]
  have f_106_r : I3 106 = I 106 := by rw [ek_mark_106_r p2, f1.1 106 (by omega) (by omega)]
  have f_107_r : I3 107 = I 107 := by rw [ek_mark_107_r p2, f1.1 107 (by omega) (by omega)]
  have f_108_r : I3 108 = I 108 := by rw [ek_mark_108_r p2, f1.1 108 (by omega) (by omega)]
  have f_109_r : I3 109 = I 109 := by rw [ek_mark_109_r p2, f1.1 109 (by omega) (by omega)]
  have f_70_5 : I3 70 5 = I 70 5 := by rw [f2.1 70 (by omega), eb_mark_70_5 p1]
  have f_103_25 : I3 103 25 = I 103 25 := by rw [ek_mark_103_25 p2, f1.1 103 (by omega) (by omega)]
  have f_71_r : I3 71 = I 71 := by rw [f2.1 71 (by omega), eb_mark_71_r p1]
  have f_121_r : I3 121 = I 121 := by rw [ek_mark_121_r p2, f1.1 121 (by omega) (by omega)]
  have f_90_r : I3 90 = I 90 := by rw [f2.1 90 (by omega), eb_mark_90_r p1]
  have f_91_r : I3 91 = I 91 := by rw [f2.1 91 (by omega), eb_mark_91_r p1]
  have f_86_3 : I3 86 3 = I 86 3 := by rw [f2.1 86 (by omega), eb_mark_86_3 p1]
  have f_86_4 : I3 86 4 = I 86 4 := by rw [f2.1 86 (by omega), eb_mark_86_4 p1]
  have f_86_5 : I3 86 5 = I 86 5 := by rw [f2.1 86 (by omega), eb_mark_86_5 p1]
  have f_86_6 : I3 86 6 = I 86 6 := by rw [f2.1 86 (by omega), eb_mark_86_6 p1]
  have f_86_7 : I3 86 7 = I 86 7 := by rw [f2.1 86 (by omega), eb_mark_86_7 p1]
  have f_9999_r : ∀ b, ((77 ≤ b ∧ b ≤ 79) ∨ 147 ≤ b) → I3 b = I b := fun b hb => by rw [f2.1 b (by omega), eb_mark_9999_r p1 b hb]
  have f_129_r : I3 129 = I 129 := by rw [ek_mark_129_r p2, f1.1 129 (by omega) (by omega)]
  have f_130_r : I3 130 = I 130 := by rw [ek_mark_130_r p2, f1.1 130 (by omega) (by omega)]
  have f_131_r : I3 131 = I 131 := by rw [ek_mark_131_r p2, f1.1 131 (by omega) (by omega)]
  have f_103_47 : I3 103 47 = I 103 47 := by rw [ek_mark_103_47 p2, f1.1 103 (by omega) (by omega)]
  have f_103_48 : I3 103 48 = I 103 48 := by rw [ek_mark_103_48 p2, f1.1 103 (by omega) (by omega)]
  have f_103_49 : I3 103 49 = I 103 49 := by rw [ek_mark_103_49 p2, f1.1 103 (by omega) (by omega)]
  have f_103_50 : I3 103 50 = I 103 50 := by rw [ek_mark_103_50 p2, f1.1 103 (by omega) (by omega)]
  have f_103_51 : I3 103 51 = I 103 51 := by rw [ek_mark_103_51 p2, f1.1 103 (by omega) (by omega)]
  have f_93_r : I3 93 = I 93 := by rw [f2.1 93 (by omega), eb_mark_93_r p1]
  have f_94_r : I3 94 = I 94 := by rw [f2.1 94 (by omega), eb_mark_94_r p1]
  have f_135_r : I3 135 = I 135 := by rw [ek_mark_135_r p2, f1.1 135 (by omega) (by omega)]
  have f_136_r : I3 136 = I 136 := by rw [ek_mark_136_r p2, f1.1 136 (by omega) (by omega)]
  exact ⟨(by rw [f_32_10, f_103_0]; exact hr.1), (by rw [f_33_7, f_103_1]; exact hr.2.1), (by rw [f_33_8, f_103_2]; exact hr.2.2.1), (srOk.eq f_33_7 f_33_8 f_34_r f_35_r f_36_r f_37_r f_38_r f_39_r f_104_r f_105_r f_106_r f_107_r f_108_r f_109_r hr.2.2.2.1), (by rw [f_70_5, f_103_25]; exact hr.2.2.2.2.1), (by rw [f_71_r, f_121_r]; exact hr.2.2.2.2.2.1), (wy_eq f_90_r f_91_r f_86_3 f_86_4 f_86_5 f_86_6 f_86_7 f_9999_r f_129_r f_130_r f_131_r f_103_47 f_103_48 f_103_49 f_103_50 f_103_51 fR hr.2.2.2.2.2.2.1), (by rw [f_93_r, f_94_r, f_135_r, f_136_r]; exact hr.2.2.2.2.2.2.2)⟩

theorem rel.when {v0 v1 v2 : Int32} {x y : Int32} {n : Nat} {I I2 I3 : px_I} {L L2 L3 : px_L} {R : px_R} (hj : jJ n I R) (hr : rel I L R) (f1 : frB I I2 L L2) {R2 : px_R} (fR : kR R I2 R2) (p1 : pb_when v0 v1 v2 I L x I2 L2) (f2 : frK I2 I3 L2 L3) (p2 : pk_when v0 v1 v2 I2 L2 y I3 L3) : rel I3 L3 R2 := by
  have f_32_10 : I3 32 10 = I 32 10 := by rw [f2.1 32 (by omega), eb_when_32_10 p1]
  have f_103_0 : I3 103 0 = I 103 0 := by rw [ek_when_103_0 p2, f1.1 103 (by omega) (by omega)]
  have f_33_7 : I3 33 7 = I 33 7 := by rw [f2.1 33 (by omega), eb_when_33_7 p1]
  have f_103_1 : I3 103 1 = I 103 1 := by rw [ek_when_103_1 p2, f1.1 103 (by omega) (by omega)]
  have f_33_8 : I3 33 8 = I 33 8 := by rw [f2.1 33 (by omega), eb_when_33_8 p1]
  have f_103_2 : I3 103 2 = I 103 2 := by rw [ek_when_103_2 p2, f1.1 103 (by omega) (by omega)]
  have f_34_r : I3 34 = I 34 := by rw [f2.1 34 (by omega), eb_when_34_r p1]
  have f_35_r : I3 35 = I 35 := by rw [f2.1 35 (by omega), eb_when_35_r p1]
  have f_36_r : I3 36 = I 36 := by rw [f2.1 36 (by omega), eb_when_36_r p1]
  have f_37_r : I3 37 = I 37 := by rw [f2.1 37 (by omega), eb_when_37_r p1]
  have f_38_r : I3 38 = I 38 := by rw [f2.1 38 (by omega), eb_when_38_r p1]
  have f_39_r : I3 39 = I 39 := by rw [f2.1 39 (by omega), eb_when_39_r p1]
  have f_104_r : I3 104 = I 104 := by rw [ek_when_104_r p2, f1.1 104 (by omega) (by omega)]
  have f_105_r : I3 105 = I 105 := by rw [ek_when_105_r p2, f1.1 105 (by omega) (by omega)]
  have f_106_r : I3 106 = I 106 := by rw [ek_when_106_r p2, f1.1 106 (by omega) (by omega)]
  have f_107_r : I3 107 = I 107 := by rw [ek_when_107_r p2, f1.1 107 (by omega) (by omega)]
  have f_108_r : I3 108 = I 108 := by rw [ek_when_108_r p2, f1.1 108 (by omega) (by omega)]
  have f_109_r : I3 109 = I 109 := by rw [ek_when_109_r p2, f1.1 109 (by omega) (by omega)]
  have f_70_5 : I3 70 5 = I 70 5 := by rw [f2.1 70 (by omega), eb_when_70_5 p1]
  have f_103_25 : I3 103 25 = I 103 25 := by rw [ek_when_103_25 p2, f1.1 103 (by omega) (by omega)]
  have f_71_r : I3 71 = I 71 := by rw [f2.1 71 (by omega), eb_when_71_r p1]
  have f_121_r : I3 121 = I 121 := by rw [ek_when_121_r p2, f1.1 121 (by omega) (by omega)]
  have f_90_r : I3 90 = I 90 := by rw [f2.1 90 (by omega), eb_when_90_r p1]
  have f_91_r : I3 91 = I 91 := by rw [f2.1 91 (by omega), eb_when_91_r p1]
  have f_86_3 : I3 86 3 = I 86 3 := by rw [f2.1 86 (by omega), eb_when_86_3 p1]
  have f_86_4 : I3 86 4 = I 86 4 := by rw [f2.1 86 (by omega), eb_when_86_4 p1]
  have f_86_5 : I3 86 5 = I 86 5 := by rw [f2.1 86 (by omega), eb_when_86_5 p1]
  have f_86_6 : I3 86 6 = I 86 6 := by rw [f2.1 86 (by omega), eb_when_86_6 p1]
  have f_86_7 : I3 86 7 = I 86 7 := by rw [f2.1 86 (by omega), eb_when_86_7 p1]
  have f_9999_r : ∀ b, ((77 ≤ b ∧ b ≤ 79) ∨ 147 ≤ b) → I3 b = I b := fun b hb => by rw [f2.1 b (by omega), eb_when_9999_r p1 b hb]
  have f_129_r : I3 129 = I 129 := by rw [ek_when_129_r p2, f1.1 129 (by omega) (by omega)]
  have f_130_r : I3 130 = I 130 := by rw [ek_when_130_r p2, f1.1 130 (by omega) (by omega)]
  have f_131_r : I3 131 = I 131 := by rw [ek_when_131_r p2, f1.1 131 (by omega) (by omega)]
  have f_103_47 : I3 103 47 = I 103 47 := by rw [ek_when_103_47 p2, f1.1 103 (by omega) (by omega)]
  have f_103_48 : I3 103 48 = I 103 48 := by rw [ek_when_103_48 p2, f1.1 103 (by omega) (by omega)]
  have f_103_49 : I3 103 49 = I 103 49 := by rw [ek_when_103_49 p2, f1.1 103 (by omega) (by omega)]
  have f_103_50 : I3 103 50 = I 103 50 := by rw [ek_when_103_50 p2, f1.1 103 (by omega) (by omega)]
  have f_103_51 : I3 103 51 = I 103 51 := by rw [ek_when_103_51 p2, f1.1 103 (by omega) (by omega)]
  have f_93_r : I3 93 = I 93 := by rw [f2.1 93 (by omega), eb_when_93_r p1]
  have f_94_r : I3 94 = I 94 := by rw [f2.1 94 (by omega), eb_when_94_r p1]
  have f_135_r : I3 135 = I 135 := by rw [ek_when_135_r p2, f1.1 135 (by omega) (by omega)]
  have f_136_r : I3 136 = I 136 := by rw [ek_when_136_r p2, f1.1 136 (by omega) (by omega)]
  exact ⟨(by rw [f_32_10, f_103_0]; exact hr.1), (by rw [f_33_7, f_103_1]; exact hr.2.1), (by rw [f_33_8, f_103_2]; exact hr.2.2.1), (srOk.eq f_33_7 f_33_8 f_34_r f_35_r f_36_r f_37_r f_38_r f_39_r f_104_r f_105_r f_106_r f_107_r f_108_r f_109_r hr.2.2.2.1), (by rw [f_70_5, f_103_25]; exact hr.2.2.2.2.1), (by rw [f_71_r, f_121_r]; exact hr.2.2.2.2.2.1), (wy_eq f_90_r f_91_r f_86_3 f_86_4 f_86_5 f_86_6 f_86_7 f_9999_r f_129_r f_130_r f_131_r f_103_47 f_103_48 f_103_49 f_103_50 f_103_51 fR hr.2.2.2.2.2.2.1), (by rw [f_93_r, f_94_r, f_135_r, f_136_r]; exact hr.2.2.2.2.2.2.2)⟩

theorem rel.between {v0 v1 v2 v3 : Int32} {x y : Int32} {n : Nat} {I I2 I3 : px_I} {L L2 L3 : px_L} {R : px_R} (hj : jJ n I R) (hr : rel I L R) (f1 : frB I I2 L L2) {R2 : px_R} (fR : kR R I2 R2) (p1 : pb_between v0 v1 v2 v3 I L x I2 L2) (f2 : frK I2 I3 L2 L3) (p2 : pk_between v0 v1 v2 v3 I2 L2 y I3 L3) : rel I3 L3 R2 := by
  have f_32_10 : I3 32 10 = I 32 10 := by rw [f2.1 32 (by omega), eb_between_32_10 p1]
  have f_103_0 : I3 103 0 = I 103 0 := by rw [ek_between_103_0 p2, f1.1 103 (by omega) (by omega)]
  have f_33_7 : I3 33 7 = I 33 7 := by rw [f2.1 33 (by omega), eb_between_33_7 p1]
  have f_103_1 : I3 103 1 = I 103 1 := by rw [ek_between_103_1 p2, f1.1 103 (by omega) (by omega)]
  have f_33_8 : I3 33 8 = I 33 8 := by rw [f2.1 33 (by omega), eb_between_33_8 p1]
  have f_103_2 : I3 103 2 = I 103 2 := by rw [ek_between_103_2 p2, f1.1 103 (by omega) (by omega)]
  have f_34_r : I3 34 = I 34 := by rw [f2.1 34 (by omega), eb_between_34_r p1]
  have f_35_r : I3 35 = I 35 := by rw [f2.1 35 (by omega), eb_between_35_r p1]
  have f_36_r : I3 36 = I 36 := by rw [f2.1 36 (by omega), eb_between_36_r p1]
  have f_37_r : I3 37 = I 37 := by rw [f2.1 37 (by omega), eb_between_37_r p1]
  have f_38_r : I3 38 = I 38 := by rw [f2.1 38 (by omega), eb_between_38_r p1]
  have f_39_r : I3 39 = I 39 := by rw [f2.1 39 (by omega), eb_between_39_r p1]
  have f_104_r : I3 104 = I 104 := by rw [ek_between_104_r p2, f1.1 104 (by omega) (by omega)]
  have f_105_r : I3 105 = I 105 := by rw [ek_between_105_r p2, f1.1 105 (by omega) (by omega)]
  have f_106_r : I3 106 = I 106 := by rw [ek_between_106_r p2, f1.1 106 (by omega) (by omega)]
  have f_107_r : I3 107 = I 107 := by rw [ek_between_107_r p2, f1.1 107 (by omega) (by omega)]
  have f_108_r : I3 108 = I 108 := by rw [ek_between_108_r p2, f1.1 108 (by omega) (by omega)]
  have f_109_r : I3 109 = I 109 := by rw [ek_between_109_r p2, f1.1 109 (by omega) (by omega)]
  have f_70_5 : I3 70 5 = I 70 5 := by rw [f2.1 70 (by omega), eb_between_70_5 p1]
  have f_103_25 : I3 103 25 = I 103 25 := by rw [ek_between_103_25 p2, f1.1 103 (by omega) (by omega)]
  have f_71_r : I3 71 = I 71 := by rw [f2.1 71 (by omega), eb_between_71_r p1]
  have f_121_r : I3 121 = I 121 := by rw [ek_between_121_r p2, f1.1 121 (by omega) (by omega)]
  have f_90_r : I3 90 = I 90 := by rw [f2.1 90 (by omega), eb_between_90_r p1]
  have f_91_r : I3 91 = I 91 := by rw [f2.1 91 (by omega), eb_between_91_r p1]
  have f_86_3 : I3 86 3 = I 86 3 := by rw [f2.1 86 (by omega), eb_between_86_3 p1]
  have f_86_4 : I3 86 4 = I 86 4 := by rw [f2.1 86 (by omega), eb_between_86_4 p1]
  have f_86_5 : I3 86 5 = I 86 5 := by rw [f2.1 86 (by omega), eb_between_86_5 p1]
  have f_86_6 : I3 86 6 = I 86 6 := by rw [f2.1 86 (by omega), eb_between_86_6 p1]
  have f_86_7 : I3 86 7 = I 86 7 := by rw [f2.1 86 (by omega), eb_between_86_7 p1]
  have f_9999_r : ∀ b, ((77 ≤ b ∧ b ≤ 79) ∨ 147 ≤ b) → I3 b = I b := fun b hb => by rw [f2.1 b (by omega), eb_between_9999_r p1 b hb]
  have f_129_r : I3 129 = I 129 := by rw [ek_between_129_r p2, f1.1 129 (by omega) (by omega)]
  have f_130_r : I3 130 = I 130 := by rw [ek_between_130_r p2, f1.1 130 (by omega) (by omega)]
  have f_131_r : I3 131 = I 131 := by rw [ek_between_131_r p2, f1.1 131 (by omega) (by omega)]
  have f_103_47 : I3 103 47 = I 103 47 := by rw [ek_between_103_47 p2, f1.1 103 (by omega) (by omega)]
  have f_103_48 : I3 103 48 = I 103 48 := by rw [ek_between_103_48 p2, f1.1 103 (by omega) (by omega)]
  have f_103_49 : I3 103 49 = I 103 49 := by rw [ek_between_103_49 p2, f1.1 103 (by omega) (by omega)]
  have f_103_50 : I3 103 50 = I 103 50 := by rw [ek_between_103_50 p2, f1.1 103 (by omega) (by omega)]
  have f_103_51 : I3 103 51 = I 103 51 := by rw [ek_between_103_51 p2, f1.1 103 (by omega) (by omega)]
  have f_93_r : I3 93 = I 93 := by rw [f2.1 93 (by omega), eb_between_93_r p1]
  have f_94_r : I3 94 = I 94 := by rw [f2.1 94 (by omega), eb_between_94_r p1]
  have f_135_r : I3 135 = I 135 := by rw [ek_between_135_r p2, f1.1 135 (by omega) (by omega)]
  have f_136_r : I3 136 = I 136 := by rw [ek_between_136_r p2, f1.1 136 (by omega) (by omega)]
  exact ⟨(by rw [f_32_10, f_103_0]; exact hr.1), (by rw [f_33_7, f_103_1]; exact hr.2.1), (by rw [f_33_8, f_103_2]; exact hr.2.2.1), (srOk.eq f_33_7 f_33_8 f_34_r f_35_r f_36_r f_37_r f_38_r f_39_r f_104_r f_105_r f_106_r f_107_r f_108_r f_109_r hr.2.2.2.1), (by rw [f_70_5, f_103_25]; exact hr.2.2.2.2.1), (by rw [f_71_r, f_121_r]; exact hr.2.2.2.2.2.1), (wy_eq f_90_r f_91_r f_86_3 f_86_4 f_86_5 f_86_6 f_86_7 f_9999_r f_129_r f_130_r f_131_r f_103_47 f_103_48 f_103_49 f_103_50 f_103_51 fR hr.2.2.2.2.2.2.1), (by rw [f_93_r, f_94_r, f_135_r, f_136_r]; exact hr.2.2.2.2.2.2.2)⟩

theorem rel.lamps {v0 v1 v2 v3 v4 : Int32} {x y : Int32} {n : Nat} {I I2 I3 : px_I} {L L2 L3 : px_L} {R : px_R} (hj : jJ n I R) (hr : rel I L R) (f1 : frB I I2 L L2) {R2 : px_R} (fR : kR R I2 R2) (p1 : pb_lamps v0 v1 v2 v3 v4 I L x I2 L2) (f2 : frK I2 I3 L2 L3) (p2 : pk_lamps v0 v1 v2 v3 v4 I2 L2 y I3 L3) : rel I3 L3 R2 := by
  have f_32_10 : I3 32 10 = I 32 10 := by rw [f2.1 32 (by omega), eb_lamps_32_10 p1]
  have f_103_0 : I3 103 0 = I 103 0 := by rw [ek_lamps_103_0 p2, f1.1 103 (by omega) (by omega)]
  have f_33_7 : I3 33 7 = I 33 7 := by rw [f2.1 33 (by omega), eb_lamps_33_7 p1]
  have f_103_1 : I3 103 1 = I 103 1 := by rw [ek_lamps_103_1 p2, f1.1 103 (by omega) (by omega)]
  have f_33_8 : I3 33 8 = I 33 8 := by rw [f2.1 33 (by omega), eb_lamps_33_8 p1]
  have f_103_2 : I3 103 2 = I 103 2 := by rw [ek_lamps_103_2 p2, f1.1 103 (by omega) (by omega)]
  have f_34_r : I3 34 = I 34 := by rw [f2.1 34 (by omega), eb_lamps_34_r p1]
  have f_35_r : I3 35 = I 35 := by rw [f2.1 35 (by omega), eb_lamps_35_r p1]
  have f_36_r : I3 36 = I 36 := by rw [f2.1 36 (by omega), eb_lamps_36_r p1]
  have f_37_r : I3 37 = I 37 := by rw [f2.1 37 (by omega), eb_lamps_37_r p1]
  have f_38_r : I3 38 = I 38 := by rw [f2.1 38 (by omega), eb_lamps_38_r p1]
  have f_39_r : I3 39 = I 39 := by rw [f2.1 39 (by omega), eb_lamps_39_r p1]
  have f_104_r : I3 104 = I 104 := by rw [ek_lamps_104_r p2, f1.1 104 (by omega) (by omega)]
  have f_105_r : I3 105 = I 105 := by rw [ek_lamps_105_r p2, f1.1 105 (by omega) (by omega)]
  have f_106_r : I3 106 = I 106 := by rw [ek_lamps_106_r p2, f1.1 106 (by omega) (by omega)]
  have f_107_r : I3 107 = I 107 := by rw [ek_lamps_107_r p2, f1.1 107 (by omega) (by omega)]
  have f_108_r : I3 108 = I 108 := by rw [ek_lamps_108_r p2, f1.1 108 (by omega) (by omega)]
  have f_109_r : I3 109 = I 109 := by rw [ek_lamps_109_r p2, f1.1 109 (by omega) (by omega)]
  have f_70_5 : I3 70 5 = I 70 5 := by rw [f2.1 70 (by omega), eb_lamps_70_5 p1]
  have f_103_25 : I3 103 25 = I 103 25 := by rw [ek_lamps_103_25 p2, f1.1 103 (by omega) (by omega)]
  have f_71_r : I3 71 = I 71 := by rw [f2.1 71 (by omega), eb_lamps_71_r p1]
  have f_121_r : I3 121 = I 121 := by rw [ek_lamps_121_r p2, f1.1 121 (by omega) (by omega)]
  have f_90_r : I3 90 = I 90 := by rw [f2.1 90 (by omega), eb_lamps_90_r p1]
  have f_91_r : I3 91 = I 91 := by rw [f2.1 91 (by omega), eb_lamps_91_r p1]
  have f_86_3 : I3 86 3 = I 86 3 := by rw [f2.1 86 (by omega), eb_lamps_86_3 p1]
  have f_86_4 : I3 86 4 = I 86 4 := by rw [f2.1 86 (by omega), eb_lamps_86_4 p1]
  have f_86_5 : I3 86 5 = I 86 5 := by rw [f2.1 86 (by omega), eb_lamps_86_5 p1]
  have f_86_6 : I3 86 6 = I 86 6 := by rw [f2.1 86 (by omega), eb_lamps_86_6 p1]
  have f_86_7 : I3 86 7 = I 86 7 := by rw [f2.1 86 (by omega), eb_lamps_86_7 p1]
  have f_9999_r : ∀ b, ((77 ≤ b ∧ b ≤ 79) ∨ 147 ≤ b) → I3 b = I b := fun b hb => by rw [f2.1 b (by omega), eb_lamps_9999_r p1 b hb]
  have f_129_r : I3 129 = I 129 := by rw [ek_lamps_129_r p2, f1.1 129 (by omega) (by omega)]
  have f_130_r : I3 130 = I 130 := by rw [ek_lamps_130_r p2, f1.1 130 (by omega) (by omega)]
  have f_131_r : I3 131 = I 131 := by rw [ek_lamps_131_r p2, f1.1 131 (by omega) (by omega)]
  have f_103_47 : I3 103 47 = I 103 47 := by rw [ek_lamps_103_47 p2, f1.1 103 (by omega) (by omega)]
  have f_103_48 : I3 103 48 = I 103 48 := by rw [ek_lamps_103_48 p2, f1.1 103 (by omega) (by omega)]
  have f_103_49 : I3 103 49 = I 103 49 := by rw [ek_lamps_103_49 p2, f1.1 103 (by omega) (by omega)]
  have f_103_50 : I3 103 50 = I 103 50 := by rw [ek_lamps_103_50 p2, f1.1 103 (by omega) (by omega)]
  have f_103_51 : I3 103 51 = I 103 51 := by rw [ek_lamps_103_51 p2, f1.1 103 (by omega) (by omega)]
  have f_93_r : I3 93 = I 93 := by rw [f2.1 93 (by omega), eb_lamps_93_r p1]
  have f_94_r : I3 94 = I 94 := by rw [f2.1 94 (by omega), eb_lamps_94_r p1]
  have f_135_r : I3 135 = I 135 := by rw [ek_lamps_135_r p2, f1.1 135 (by omega) (by omega)]
  have f_136_r : I3 136 = I 136 := by rw [ek_lamps_136_r p2, f1.1 136 (by omega) (by omega)]
  exact ⟨(by rw [f_32_10, f_103_0]; exact hr.1), (by rw [f_33_7, f_103_1]; exact hr.2.1), (by rw [f_33_8, f_103_2]; exact hr.2.2.1), (srOk.eq f_33_7 f_33_8 f_34_r f_35_r f_36_r f_37_r f_38_r f_39_r f_104_r f_105_r f_106_r f_107_r f_108_r f_109_r hr.2.2.2.1), (by rw [f_70_5, f_103_25]; exact hr.2.2.2.2.1), (by rw [f_71_r, f_121_r]; exact hr.2.2.2.2.2.1), (wy_eq f_90_r f_91_r f_86_3 f_86_4 f_86_5 f_86_6 f_86_7 f_9999_r f_129_r f_130_r f_131_r f_103_47 f_103_48 f_103_49 f_103_50 f_103_51 fR hr.2.2.2.2.2.2.1), (by rw [f_93_r, f_94_r, f_135_r, f_136_r]; exact hr.2.2.2.2.2.2.2)⟩

theorem rel.count {v0 v1 v2 : Int32} {x y : Int32} {n : Nat} {I I2 I3 : px_I} {L L2 L3 : px_L} {R : px_R} (hj : jJ n I R) (hr : rel I L R) (f1 : frB I I2 L L2) {R2 : px_R} (fR : kR R I2 R2) (p1 : pb_count v0 v1 v2 I L x I2 L2) (f2 : frK I2 I3 L2 L3) (p2 : pk_count v0 v1 v2 I2 L2 y I3 L3) : rel I3 L3 R2 := by
  have f_32_10 : I3 32 10 = I 32 10 := by rw [f2.1 32 (by omega), eb_count_32_10 p1]
  have f_103_0 : I3 103 0 = I 103 0 := by rw [ek_count_103_0 p2, f1.1 103 (by omega) (by omega)]
  have f_33_7 : I3 33 7 = I 33 7 := by rw [f2.1 33 (by omega), eb_count_33_7 p1]
  have f_103_1 : I3 103 1 = I 103 1 := by rw [ek_count_103_1 p2, f1.1 103 (by omega) (by omega)]
  have f_33_8 : I3 33 8 = I 33 8 := by rw [f2.1 33 (by omega), eb_count_33_8 p1]
  have f_103_2 : I3 103 2 = I 103 2 := by rw [ek_count_103_2 p2, f1.1 103 (by omega) (by omega)]
  have f_34_r : I3 34 = I 34 := by rw [f2.1 34 (by omega), eb_count_34_r p1]
  have f_35_r : I3 35 = I 35 := by rw [f2.1 35 (by omega), eb_count_35_r p1]
  have f_36_r : I3 36 = I 36 := by rw [f2.1 36 (by omega), eb_count_36_r p1]
  have f_37_r : I3 37 = I 37 := by rw [f2.1 37 (by omega), eb_count_37_r p1]
  have f_38_r : I3 38 = I 38 := by rw [f2.1 38 (by omega), eb_count_38_r p1]
  have f_39_r : I3 39 = I 39 := by rw [f2.1 39 (by omega), eb_count_39_r p1]
  have f_104_r : I3 104 = I 104 := by rw [ek_count_104_r p2, f1.1 104 (by omega) (by omega)]
  have f_105_r : I3 105 = I 105 := by rw [ek_count_105_r p2, f1.1 105 (by omega) (by omega)]
  have f_106_r : I3 106 = I 106 := by rw [ek_count_106_r p2, f1.1 106 (by omega) (by omega)]
  have f_107_r : I3 107 = I 107 := by rw [ek_count_107_r p2, f1.1 107 (by omega) (by omega)]
  have f_108_r : I3 108 = I 108 := by rw [ek_count_108_r p2, f1.1 108 (by omega) (by omega)]
  have f_109_r : I3 109 = I 109 := by rw [ek_count_109_r p2, f1.1 109 (by omega) (by omega)]
  have f_70_5 : I3 70 5 = I 70 5 := by rw [f2.1 70 (by omega), eb_count_70_5 p1]
  have f_103_25 : I3 103 25 = I 103 25 := by rw [ek_count_103_25 p2, f1.1 103 (by omega) (by omega)]
  have f_71_r : I3 71 = I 71 := by rw [f2.1 71 (by omega), eb_count_71_r p1]
  have f_121_r : I3 121 = I 121 := by rw [ek_count_121_r p2, f1.1 121 (by omega) (by omega)]
  have f_90_r : I3 90 = I 90 := by rw [f2.1 90 (by omega), eb_count_90_r p1]
  have f_91_r : I3 91 = I 91 := by rw [f2.1 91 (by omega), eb_count_91_r p1]
  have f_86_3 : I3 86 3 = I 86 3 := by rw [f2.1 86 (by omega), eb_count_86_3 p1]
  have f_86_4 : I3 86 4 = I 86 4 := by rw [f2.1 86 (by omega), eb_count_86_4 p1]
  have f_86_5 : I3 86 5 = I 86 5 := by rw [f2.1 86 (by omega), eb_count_86_5 p1]
  have f_86_6 : I3 86 6 = I 86 6 := by rw [f2.1 86 (by omega), eb_count_86_6 p1]
  have f_86_7 : I3 86 7 = I 86 7 := by rw [f2.1 86 (by omega), eb_count_86_7 p1]
  have f_9999_r : ∀ b, ((77 ≤ b ∧ b ≤ 79) ∨ 147 ≤ b) → I3 b = I b := fun b hb => by rw [f2.1 b (by omega), eb_count_9999_r p1 b hb]
  have f_129_r : I3 129 = I 129 := by rw [ek_count_129_r p2, f1.1 129 (by omega) (by omega)]
  have f_130_r : I3 130 = I 130 := by rw [ek_count_130_r p2, f1.1 130 (by omega) (by omega)]
  have f_131_r : I3 131 = I 131 := by rw [ek_count_131_r p2, f1.1 131 (by omega) (by omega)]
  have f_103_47 : I3 103 47 = I 103 47 := by rw [ek_count_103_47 p2, f1.1 103 (by omega) (by omega)]
  have f_103_48 : I3 103 48 = I 103 48 := by rw [ek_count_103_48 p2, f1.1 103 (by omega) (by omega)]
  have f_103_49 : I3 103 49 = I 103 49 := by rw [ek_count_103_49 p2, f1.1 103 (by omega) (by omega)]
  have f_103_50 : I3 103 50 = I 103 50 := by rw [ek_count_103_50 p2, f1.1 103 (by omega) (by omega)]
  have f_103_51 : I3 103 51 = I 103 51 := by rw [ek_count_103_51 p2, f1.1 103 (by omega) (by omega)]
  have f_93_r : I3 93 = I 93 := by rw [f2.1 93 (by omega), eb_count_93_r p1]
  have f_94_r : I3 94 = I 94 := by rw [f2.1 94 (by omega), eb_count_94_r p1]
  have f_135_r : I3 135 = I 135 := by rw [ek_count_135_r p2, f1.1 135 (by omega) (by omega)]
  have f_136_r : I3 136 = I 136 := by rw [ek_count_136_r p2, f1.1 136 (by omega) (by omega)]
  exact ⟨(by rw [f_32_10, f_103_0]; exact hr.1), (by rw [f_33_7, f_103_1]; exact hr.2.1), (by rw [f_33_8, f_103_2]; exact hr.2.2.1), (srOk.eq f_33_7 f_33_8 f_34_r f_35_r f_36_r f_37_r f_38_r f_39_r f_104_r f_105_r f_106_r f_107_r f_108_r f_109_r hr.2.2.2.1), (by rw [f_70_5, f_103_25]; exact hr.2.2.2.2.1), (by rw [f_71_r, f_121_r]; exact hr.2.2.2.2.2.1), (wy_eq f_90_r f_91_r f_86_3 f_86_4 f_86_5 f_86_6 f_86_7 f_9999_r f_129_r f_130_r f_131_r f_103_47 f_103_48 f_103_49 f_103_50 f_103_51 fR hr.2.2.2.2.2.2.1), (by rw [f_93_r, f_94_r, f_135_r, f_136_r]; exact hr.2.2.2.2.2.2.2)⟩

theorem rel.unit {v0 : Int32} {x y : Int32} {n : Nat} {I I2 I3 : px_I} {L L2 L3 : px_L} {R : px_R} (hj : jJ n I R) (hr : rel I L R) (f1 : frB I I2 L L2) {R2 : px_R} (fR : kR R I2 R2) (p1 : pb_unit v0 I L x I2 L2) (f2 : frK I2 I3 L2 L3) (p2 : pk_unit v0 I2 L2 y I3 L3) : rel I3 L3 R2 := by
  have f_32_10 : I3 32 10 = I 32 10 := by rw [f2.1 32 (by omega), eb_unit_32_10 p1]
  have f_103_0 : I3 103 0 = I 103 0 := by rw [ek_unit_103_0 p2, f1.1 103 (by omega) (by omega)]
  have f_33_7 : I3 33 7 = I 33 7 := by rw [f2.1 33 (by omega), eb_unit_33_7 p1]
  have f_103_1 : I3 103 1 = I 103 1 := by rw [ek_unit_103_1 p2, f1.1 103 (by omega) (by omega)]
  have f_33_8 : I3 33 8 = I 33 8 := by rw [f2.1 33 (by omega), eb_unit_33_8 p1]
  have f_103_2 : I3 103 2 = I 103 2 := by rw [ek_unit_103_2 p2, f1.1 103 (by omega) (by omega)]
  have f_34_r : I3 34 = I 34 := by rw [f2.1 34 (by omega), eb_unit_34_r p1]
  have f_35_r : I3 35 = I 35 := by rw [f2.1 35 (by omega), eb_unit_35_r p1]
  have f_36_r : I3 36 = I 36 := by rw [f2.1 36 (by omega), eb_unit_36_r p1]
  have f_37_r : I3 37 = I 37 := by rw [f2.1 37 (by omega), eb_unit_37_r p1]
  have f_38_r : I3 38 = I 38 := by rw [f2.1 38 (by omega), eb_unit_38_r p1]
  have f_39_r : I3 39 = I 39 := by rw [f2.1 39 (by omega), eb_unit_39_r p1]
  have f_104_r : I3 104 = I 104 := by rw [ek_unit_104_r p2, f1.1 104 (by omega) (by omega)]
  have f_105_r : I3 105 = I 105 := by rw [ek_unit_105_r p2, f1.1 105 (by omega) (by omega)]
  have f_106_r : I3 106 = I 106 := by rw [ek_unit_106_r p2, f1.1 106 (by omega) (by omega)]
  have f_107_r : I3 107 = I 107 := by rw [ek_unit_107_r p2, f1.1 107 (by omega) (by omega)]
  have f_108_r : I3 108 = I 108 := by rw [ek_unit_108_r p2, f1.1 108 (by omega) (by omega)]
  have f_109_r : I3 109 = I 109 := by rw [ek_unit_109_r p2, f1.1 109 (by omega) (by omega)]
  have f_70_5 : I3 70 5 = I 70 5 := by rw [f2.1 70 (by omega), eb_unit_70_5 p1]
  have f_103_25 : I3 103 25 = I 103 25 := by rw [ek_unit_103_25 p2, f1.1 103 (by omega) (by omega)]
  have f_71_r : I3 71 = I 71 := by rw [f2.1 71 (by omega), eb_unit_71_r p1]
  have f_121_r : I3 121 = I 121 := by rw [ek_unit_121_r p2, f1.1 121 (by omega) (by omega)]
  have f_90_r : I3 90 = I 90 := by rw [f2.1 90 (by omega), eb_unit_90_r p1]
  have f_91_r : I3 91 = I 91 := by rw [f2.1 91 (by omega), eb_unit_91_r p1]
  have f_86_3 : I3 86 3 = I 86 3 := by rw [f2.1 86 (by omega), eb_unit_86_3 p1]
  have f_86_4 : I3 86 4 = I 86 4 := by rw [f2.1 86 (by omega), eb_unit_86_4 p1]
  have f_86_5 : I3 86 5 = I 86 5 := by rw [f2.1 86 (by omega), eb_unit_86_5 p1]
  have f_86_6 : I3 86 6 = I 86 6 := by rw [f2.1 86 (by omega), eb_unit_86_6 p1]
  have f_86_7 : I3 86 7 = I 86 7 := by rw [f2.1 86 (by omega), eb_unit_86_7 p1]
  have f_9999_r : ∀ b, ((77 ≤ b ∧ b ≤ 79) ∨ 147 ≤ b) → I3 b = I b := fun b hb => by rw [f2.1 b (by omega), eb_unit_9999_r p1 b hb]
  have f_129_r : I3 129 = I 129 := by rw [ek_unit_129_r p2, f1.1 129 (by omega) (by omega)]
  have f_130_r : I3 130 = I 130 := by rw [ek_unit_130_r p2, f1.1 130 (by omega) (by omega)]
  have f_131_r : I3 131 = I 131 := by rw [ek_unit_131_r p2, f1.1 131 (by omega) (by omega)]
  have f_103_47 : I3 103 47 = I 103 47 := by rw [ek_unit_103_47 p2, f1.1 103 (by omega) (by omega)]
  have f_103_48 : I3 103 48 = I 103 48 := by rw [ek_unit_103_48 p2, f1.1 103 (by omega) (by omega)]
  have f_103_49 : I3 103 49 = I 103 49 := by rw [ek_unit_103_49 p2, f1.1 103 (by omega) (by omega)]
  have f_103_50 : I3 103 50 = I 103 50 := by rw [ek_unit_103_50 p2, f1.1 103 (by omega) (by omega)]
  have f_103_51 : I3 103 51 = I 103 51 := by rw [ek_unit_103_51 p2, f1.1 103 (by omega) (by omega)]
  have f_93_r : I3 93 = I 93 := by rw [f2.1 93 (by omega), eb_unit_93_r p1]
  have f_94_r : I3 94 = I 94 := by rw [f2.1 94 (by omega), eb_unit_94_r p1]
  have f_135_r : I3 135 = I 135 := by rw [ek_unit_135_r p2, f1.1 135 (by omega) (by omega)]
  have f_136_r : I3 136 = I 136 := by rw [ek_unit_136_r p2, f1.1 136 (by omega) (by omega)]
  exact ⟨(by rw [f_32_10, f_103_0]; exact hr.1), (by rw [f_33_7, f_103_1]; exact hr.2.1), (by rw [f_33_8, f_103_2]; exact hr.2.2.1), (srOk.eq f_33_7 f_33_8 f_34_r f_35_r f_36_r f_37_r f_38_r f_39_r f_104_r f_105_r f_106_r f_107_r f_108_r f_109_r hr.2.2.2.1), (by rw [f_70_5, f_103_25]; exact hr.2.2.2.2.1), (by rw [f_71_r, f_121_r]; exact hr.2.2.2.2.2.1), (wy_eq f_90_r f_91_r f_86_3 f_86_4 f_86_5 f_86_6 f_86_7 f_9999_r f_129_r f_130_r f_131_r f_103_47 f_103_48 f_103_49 f_103_50 f_103_51 fR hr.2.2.2.2.2.2.1), (by rw [f_93_r, f_94_r, f_135_r, f_136_r]; exact hr.2.2.2.2.2.2.2)⟩

theorem relq_feed {v0 v1 v2 v3 v4 : Int32} {x y : Int32} {n : Nat} {I I2 I3 : px_I} {L L2 L3 : px_L} {R : px_R} (hj : jJ n I R) (hr : rel I L R) (f1 : frB I I2 L L2) {R2 : px_R} (fR : kR R I2 R2) (p1 : pb_feed v0 v1 v2 v3 v4 I L x I2 L2) (f2 : frK I2 I3 L2 L3) (p2 : pk_feed v0 v1 v2 v3 v4 I2 L2 y I3 L3) : x = y ∧ (I3 70 5 = I3 103 25) := by
  have h_da : I 32 10 = I 103 0 := hr.1
  have h_st : I 33 7 = I 103 1 := hr.2.1
  have h_si : I 33 8 = I 103 2 := hr.2.2.1
  have h_sr : srOk I := hr.2.2.2.1
  have h_fd : I 70 5 = I 103 25 := hr.2.2.2.2.1
  have h_by : ∀ j : Nat, nb (I 71 j) = nb (I 121 j) := hr.2.2.2.2.2.1
  have h_wy : WY I R := hr.2.2.2.2.2.2.1
  have h_th : ∀ j : Nat, j < 3 → I 93 j = I 135 j ∧ I 94 j = I 136 j := hr.2.2.2.2.2.2.2
  unfold pb_feed at p1
  unfold pk_feed at p2
  have e1 : I2 103 = I 103 := f1.1 103 (by omega) (by omega)
  have e5 : I3 70 = I2 70 := f2.1 70 (by omega)
  rcases p1.2 with ⟨a1, a2, a3⟩ | ⟨a1, a2, a3⟩
  · rcases p2.2 with ⟨b1, b2, b3⟩ | ⟨b1, b2, b3⟩
    · refine ⟨by rw [a2, b2, e1, ← h_fd], ?_⟩
      rw [e5, b3, mPut_25, mPut_25, mPut_25, mPut_25, mPut_25, e1, ← h_fd, a3, cApp_5, cApp_5, cApp_5, cApp_5, cApp_5]
    · exact absurd (by rw [e1, ← h_fd]; exact a1) b1
  · rcases p2.2 with ⟨b1, b2, b3⟩ | ⟨b1, b2, b3⟩
    · exact absurd (by rw [e1, ← h_fd] at b1; exact b1) a1
    · exact ⟨by rw [a2, b2], by rw [e5, b3, e1, a3]; exact h_fd⟩

theorem relq_feed_1 {v0 v1 v2 v3 v4 : Int32} {x y : Int32} {n : Nat} {I I2 I3 : px_I} {L L2 L3 : px_L} {R : px_R} (hj : jJ n I R) (hr : rel I L R) (f1 : frB I I2 L L2) {R2 : px_R} (fR : kR R I2 R2) (p1 : pb_feed v0 v1 v2 v3 v4 I L x I2 L2) (f2 : frK I2 I3 L2 L3) (p2 : pk_feed v0 v1 v2 v3 v4 I2 L2 y I3 L3) : (∀ j : Nat, nb (I3 71 j) = nb (I3 121 j)) := by
  have h_da : I 32 10 = I 103 0 := hr.1
  have h_st : I 33 7 = I 103 1 := hr.2.1
  have h_si : I 33 8 = I 103 2 := hr.2.2.1
  have h_sr : srOk I := hr.2.2.2.1
  have h_fd : I 70 5 = I 103 25 := hr.2.2.2.2.1
  have h_by : ∀ j : Nat, nb (I 71 j) = nb (I 121 j) := hr.2.2.2.2.2.1
  have h_wy : WY I R := hr.2.2.2.2.2.2.1
  have h_th : ∀ j : Nat, j < 3 → I 93 j = I 135 j ∧ I 94 j = I 136 j := hr.2.2.2.2.2.2.2
  have hxy := (relq_feed hj hr f1 fR p1 f2 p2).1
  unfold pb_feed at p1
  unfold pk_feed at p2
  have e1 : I2 103 = I 103 := f1.1 103 (by omega) (by omega)
  have e9 : I2 121 = I 121 := f1.1 121 (by omega) (by omega)
  have e7 : I3 71 = I2 71 := f2.1 71 (by omega)
  rw [e7]
  have y0 : I 70 5 = I2 103 25 := by rw [e1]; exact h_fd
  have y1 : ∀ j : Nat, nb (I 71 j) = nb (I2 121 j) := by rw [e9]; exact h_by
  rcases p1.2 with ⟨a1, a2, a3⟩ | ⟨a1, a2, a3⟩
  · rcases p2.2 with ⟨b1, b2, b3⟩ | ⟨b1, b2, b3⟩
    · have z1 := zFeed (x := v0) y0 y1
      have z2 := zFeed (x := v1) z1.1 z1.2
      have z3 := zFeed (x := v2) z2.1 z2.2
      have z4 := zFeed (x := v3) z3.1 z3.2
      have z5 := zFeed (x := v4) z4.1 z4.2
      rw [a3, b3]
      exact z5.2
    · exact absurd (by rw [← y0]; exact a1) b1
  · rcases p2.2 with ⟨b1, b2, b3⟩ | ⟨b1, b2, b3⟩
    · exact absurd (by rw [y0]; exact b1) a1
    · rw [a3, b3]; exact y1

theorem rel.feed {v0 v1 v2 v3 v4 : Int32} {x y : Int32} {n : Nat} {I I2 I3 : px_I} {L L2 L3 : px_L} {R : px_R} (hj : jJ n I R) (hr : rel I L R) (f1 : frB I I2 L L2) {R2 : px_R} (fR : kR R I2 R2) (p1 : pb_feed v0 v1 v2 v3 v4 I L x I2 L2) (f2 : frK I2 I3 L2 L3) (p2 : pk_feed v0 v1 v2 v3 v4 I2 L2 y I3 L3) : rel I3 L3 R2 := by
  have hq0 := (relq_feed hj hr f1 fR p1 f2 p2).2
  have hq1 := relq_feed_1 hj hr f1 fR p1 f2 p2
  have f_32_10 : I3 32 10 = I 32 10 := by rw [f2.1 32 (by omega), eb_feed_32_10 p1]
  have f_103_0 : I3 103 0 = I 103 0 := by rw [ek_feed_103_0 p2, f1.1 103 (by omega) (by omega)]
  have f_33_7 : I3 33 7 = I 33 7 := by rw [f2.1 33 (by omega), eb_feed_33_7 p1]
  have f_103_1 : I3 103 1 = I 103 1 := by rw [ek_feed_103_1 p2, f1.1 103 (by omega) (by omega)]
  have f_33_8 : I3 33 8 = I 33 8 := by rw [f2.1 33 (by omega), eb_feed_33_8 p1]
  have f_103_2 : I3 103 2 = I 103 2 := by rw [ek_feed_103_2 p2, f1.1 103 (by omega) (by omega)]
  have f_34_r : I3 34 = I 34 := by rw [f2.1 34 (by omega), eb_feed_34_r p1]
  have f_35_r : I3 35 = I 35 := by rw [f2.1 35 (by omega), eb_feed_35_r p1]
  have f_36_r : I3 36 = I 36 := by rw [f2.1 36 (by omega), eb_feed_36_r p1]
  have f_37_r : I3 37 = I 37 := by rw [f2.1 37 (by omega), eb_feed_37_r p1]
  have f_38_r : I3 38 = I 38 := by rw [f2.1 38 (by omega), eb_feed_38_r p1]
  have f_39_r : I3 39 = I 39 := by rw [f2.1 39 (by omega), eb_feed_39_r p1]
  have f_104_r : I3 104 = I 104 := by rw [ek_feed_104_r p2, f1.1 104 (by omega) (by omega)]
  have f_105_r : I3 105 = I 105 := by rw [ek_feed_105_r p2, f1.1 105 (by omega) (by omega)]
  have f_106_r : I3 106 = I 106 := by rw [ek_feed_106_r p2, f1.1 106 (by omega) (by omega)]
  have f_107_r : I3 107 = I 107 := by rw [ek_feed_107_r p2, f1.1 107 (by omega) (by omega)]
  have f_108_r : I3 108 = I 108 := by rw [ek_feed_108_r p2, f1.1 108 (by omega) (by omega)]
  have f_109_r : I3 109 = I 109 := by rw [ek_feed_109_r p2, f1.1 109 (by omega) (by omega)]
  have f_90_r : I3 90 = I 90 := by rw [f2.1 90 (by omega), eb_feed_90_r p1]
  have f_91_r : I3 91 = I 91 := by rw [f2.1 91 (by omega), eb_feed_91_r p1]
  have f_86_3 : I3 86 3 = I 86 3 := by rw [f2.1 86 (by omega), eb_feed_86_3 p1]
  have f_86_4 : I3 86 4 = I 86 4 := by rw [f2.1 86 (by omega), eb_feed_86_4 p1]
  have f_86_5 : I3 86 5 = I 86 5 := by rw [f2.1 86 (by omega), eb_feed_86_5 p1]
  have f_86_6 : I3 86 6 = I 86 6 := by rw [f2.1 86 (by omega), eb_feed_86_6 p1]
  have f_86_7 : I3 86 7 = I 86 7 := by rw [f2.1 86 (by omega), eb_feed_86_7 p1]
  have f_9999_r : ∀ b, ((77 ≤ b ∧ b ≤ 79) ∨ 147 ≤ b) → I3 b = I b := fun b hb => by rw [f2.1 b (by omega), eb_feed_9999_r p1 b hb]
  have f_129_r : I3 129 = I 129 := by rw [ek_feed_129_r p2, f1.1 129 (by omega) (by omega)]
  have f_130_r : I3 130 = I 130 := by rw [ek_feed_130_r p2, f1.1 130 (by omega) (by omega)]
  have f_131_r : I3 131 = I 131 := by rw [ek_feed_131_r p2, f1.1 131 (by omega) (by omega)]
  have f_103_47 : I3 103 47 = I 103 47 := by rw [ek_feed_103_47 p2, f1.1 103 (by omega) (by omega)]
  have f_103_48 : I3 103 48 = I 103 48 := by rw [ek_feed_103_48 p2, f1.1 103 (by omega) (by omega)]
  have f_103_49 : I3 103 49 = I 103 49 := by rw [ek_feed_103_49 p2, f1.1 103 (by omega) (by omega)]
  have f_103_50 : I3 103 50 = I 103 50 := by rw [ek_feed_103_50 p2, f1.1 103 (by omega) (by omega)]
  have f_103_51 : I3 103 51 = I 103 51 := by rw [ek_feed_103_51 p2, f1.1 103 (by omega) (by omega)]
  have f_93_r : I3 93 = I 93 := by rw [f2.1 93 (by omega), eb_feed_93_r p1]
  have f_94_r : I3 94 = I 94 := by rw [f2.1 94 (by omega), eb_feed_94_r p1]
  have f_135_r : I3 135 = I 135 := by rw [ek_feed_135_r p2, f1.1 135 (by omega) (by omega)]
  have f_136_r : I3 136 = I 136 := by rw [ek_feed_136_r p2, f1.1 136 (by omega) (by omega)]
  exact ⟨(by rw [f_32_10, f_103_0]; exact hr.1), (by rw [f_33_7, f_103_1]; exact hr.2.1), (by rw [f_33_8, f_103_2]; exact hr.2.2.1), (srOk.eq f_33_7 f_33_8 f_34_r f_35_r f_36_r f_37_r f_38_r f_39_r f_104_r f_105_r f_106_r f_107_r f_108_r f_109_r hr.2.2.2.1), hq0, hq1, (wy_eq f_90_r f_91_r f_86_3 f_86_4 f_86_5 f_86_6 f_86_7 f_9999_r f_129_r f_130_r f_131_r f_103_47 f_103_48 f_103_49 f_103_50 f_103_51 fR hr.2.2.2.2.2.2.1), (by rw [f_93_r, f_94_r, f_135_r, f_136_r]; exact hr.2.2.2.2.2.2.2)⟩

theorem relq_end {v0 : Int32} {x y : Int32} {n : Nat} {I I2 I3 : px_I} {L L2 L3 : px_L} {R : px_R} (hj : jJ n I R) (hr : rel I L R) (f1 : frB I I2 L L2) {R2 : px_R} (fR : kR R I2 R2) (p1 : pb_end v0 I L x I2 L2) (f2 : frK I2 I3 L2 L3) (p2 : pk_end v0 I2 L2 y I3 L3) : x = y ∧ (I3 70 5 = I3 103 25) := by
  have h_da : I 32 10 = I 103 0 := hr.1
  have h_st : I 33 7 = I 103 1 := hr.2.1
  have h_si : I 33 8 = I 103 2 := hr.2.2.1
  have h_sr : srOk I := hr.2.2.2.1
  have h_fd : I 70 5 = I 103 25 := hr.2.2.2.2.1
  have h_by : ∀ j : Nat, nb (I 71 j) = nb (I 121 j) := hr.2.2.2.2.2.1
  have h_wy : WY I R := hr.2.2.2.2.2.2.1
  have h_th : ∀ j : Nat, j < 3 → I 93 j = I 135 j ∧ I 94 j = I 136 j := hr.2.2.2.2.2.2.2
  unfold pb_end at p1
  unfold pk_end at p2
  have e1 : I2 103 = I 103 := f1.1 103 (by omega) (by omega)
  have e5 : I3 70 = I2 70 := f2.1 70 (by omega)
  rcases p1.2 with ⟨a1, a2, a3⟩ | ⟨a1, a2, a3⟩
  · rcases p2.2 with ⟨b0, b1, b2, b3⟩ | ⟨b1, b2, b3⟩
    · exact ⟨by rw [a2, b2], by rw [e5, b3, a3, px_u_at, px_u_at]⟩
    · exact absurd (by rw [e1, ← h_fd]; exact a1) b1
  · rcases p2.2 with ⟨b0, b1, b2, b3⟩ | ⟨b1, b2, b3⟩
    · exact absurd (by rw [e1, ← h_fd] at b1; exact ⟨b0, b1⟩) a1
    · exact ⟨by rw [a2, b2], by rw [e5, b3, e1, a3]; exact h_fd⟩

theorem rel.end {v0 : Int32} {x y : Int32} {n : Nat} {I I2 I3 : px_I} {L L2 L3 : px_L} {R : px_R} (hj : jJ n I R) (hr : rel I L R) (f1 : frB I I2 L L2) {R2 : px_R} (fR : kR R I2 R2) (p1 : pb_end v0 I L x I2 L2) (f2 : frK I2 I3 L2 L3) (p2 : pk_end v0 I2 L2 y I3 L3) : rel I3 L3 R2 := by
  have hq0 := (relq_end hj hr f1 fR p1 f2 p2).2
  have f_32_10 : I3 32 10 = I 32 10 := by rw [f2.1 32 (by omega), eb_end_32_10 p1]
  have f_103_0 : I3 103 0 = I 103 0 := by rw [ek_end_103_0 p2, f1.1 103 (by omega) (by omega)]
  have f_33_7 : I3 33 7 = I 33 7 := by rw [f2.1 33 (by omega), eb_end_33_7 p1]
  have f_103_1 : I3 103 1 = I 103 1 := by rw [ek_end_103_1 p2, f1.1 103 (by omega) (by omega)]
  have f_33_8 : I3 33 8 = I 33 8 := by rw [f2.1 33 (by omega), eb_end_33_8 p1]
  have f_103_2 : I3 103 2 = I 103 2 := by rw [ek_end_103_2 p2, f1.1 103 (by omega) (by omega)]
  have f_34_r : I3 34 = I 34 := by rw [f2.1 34 (by omega), eb_end_34_r p1]
  have f_35_r : I3 35 = I 35 := by rw [f2.1 35 (by omega), eb_end_35_r p1]
  have f_36_r : I3 36 = I 36 := by rw [f2.1 36 (by omega), eb_end_36_r p1]
  have f_37_r : I3 37 = I 37 := by rw [f2.1 37 (by omega), eb_end_37_r p1]
  have f_38_r : I3 38 = I 38 := by rw [f2.1 38 (by omega), eb_end_38_r p1]
  have f_39_r : I3 39 = I 39 := by rw [f2.1 39 (by omega), eb_end_39_r p1]
  have f_104_r : I3 104 = I 104 := by rw [ek_end_104_r p2, f1.1 104 (by omega) (by omega)]
  have f_105_r : I3 105 = I 105 := by rw [ek_end_105_r p2, f1.1 105 (by omega) (by omega)]
  have f_106_r : I3 106 = I 106 := by rw [ek_end_106_r p2, f1.1 106 (by omega) (by omega)]
  have f_107_r : I3 107 = I 107 := by rw [ek_end_107_r p2, f1.1 107 (by omega) (by omega)]
  have f_108_r : I3 108 = I 108 := by rw [ek_end_108_r p2, f1.1 108 (by omega) (by omega)]
  have f_109_r : I3 109 = I 109 := by rw [ek_end_109_r p2, f1.1 109 (by omega) (by omega)]
  have f_71_r : I3 71 = I 71 := by rw [f2.1 71 (by omega), eb_end_71_r p1]
  have f_121_r : I3 121 = I 121 := by rw [ek_end_121_r p2, f1.1 121 (by omega) (by omega)]
  have f_90_r : I3 90 = I 90 := by rw [f2.1 90 (by omega), eb_end_90_r p1]
  have f_91_r : I3 91 = I 91 := by rw [f2.1 91 (by omega), eb_end_91_r p1]
  have f_86_3 : I3 86 3 = I 86 3 := by rw [f2.1 86 (by omega), eb_end_86_3 p1]
  have f_86_4 : I3 86 4 = I 86 4 := by rw [f2.1 86 (by omega), eb_end_86_4 p1]
  have f_86_5 : I3 86 5 = I 86 5 := by rw [f2.1 86 (by omega), eb_end_86_5 p1]
  have f_86_6 : I3 86 6 = I 86 6 := by rw [f2.1 86 (by omega), eb_end_86_6 p1]
  have f_86_7 : I3 86 7 = I 86 7 := by rw [f2.1 86 (by omega), eb_end_86_7 p1]
  have f_9999_r : ∀ b, ((77 ≤ b ∧ b ≤ 79) ∨ 147 ≤ b) → I3 b = I b := fun b hb => by rw [f2.1 b (by omega), eb_end_9999_r p1 b hb]
  have f_129_r : I3 129 = I 129 := by rw [ek_end_129_r p2, f1.1 129 (by omega) (by omega)]
  have f_130_r : I3 130 = I 130 := by rw [ek_end_130_r p2, f1.1 130 (by omega) (by omega)]
  have f_131_r : I3 131 = I 131 := by rw [ek_end_131_r p2, f1.1 131 (by omega) (by omega)]
  have f_103_47 : I3 103 47 = I 103 47 := by rw [ek_end_103_47 p2, f1.1 103 (by omega) (by omega)]
  have f_103_48 : I3 103 48 = I 103 48 := by rw [ek_end_103_48 p2, f1.1 103 (by omega) (by omega)]
  have f_103_49 : I3 103 49 = I 103 49 := by rw [ek_end_103_49 p2, f1.1 103 (by omega) (by omega)]
  have f_103_50 : I3 103 50 = I 103 50 := by rw [ek_end_103_50 p2, f1.1 103 (by omega) (by omega)]
  have f_103_51 : I3 103 51 = I 103 51 := by rw [ek_end_103_51 p2, f1.1 103 (by omega) (by omega)]
  have f_93_r : I3 93 = I 93 := by rw [f2.1 93 (by omega), eb_end_93_r p1]
  have f_94_r : I3 94 = I 94 := by rw [f2.1 94 (by omega), eb_end_94_r p1]
  have f_135_r : I3 135 = I 135 := by rw [ek_end_135_r p2, f1.1 135 (by omega) (by omega)]
  have f_136_r : I3 136 = I 136 := by rw [ek_end_136_r p2, f1.1 136 (by omega) (by omega)]
  exact ⟨(by rw [f_32_10, f_103_0]; exact hr.1), (by rw [f_33_7, f_103_1]; exact hr.2.1), (by rw [f_33_8, f_103_2]; exact hr.2.2.1), (srOk.eq f_33_7 f_33_8 f_34_r f_35_r f_36_r f_37_r f_38_r f_39_r f_104_r f_105_r f_106_r f_107_r f_108_r f_109_r hr.2.2.2.1), hq0, (by rw [f_71_r, f_121_r]; exact hr.2.2.2.2.2.1), (wy_eq f_90_r f_91_r f_86_3 f_86_4 f_86_5 f_86_6 f_86_7 f_9999_r f_129_r f_130_r f_131_r f_103_47 f_103_48 f_103_49 f_103_50 f_103_51 fR hr.2.2.2.2.2.2.1), (by rw [f_93_r, f_94_r, f_135_r, f_136_r]; exact hr.2.2.2.2.2.2.2)⟩

theorem relq_way {v0 : Int32} {x y : Int32} {n : Nat} {I I2 I3 : px_I} {L L2 L3 : px_L} {R : px_R} (hj : jJ n I R) (hr : rel I L R) (f1 : frB I I2 L L2) {R2 : px_R} (fR : wZ v0 I R I2 R2) (p1 : pbs_way v0 I L x I2 L2) (f2 : frK I2 I3 L2 L3) (p2 : pks_way v0 I2 L2 y I3 L3) : (I3 70 5 = I3 103 25) := by
  have h_da : I 32 10 = I 103 0 := hr.1
  have h_st : I 33 7 = I 103 1 := hr.2.1
  have h_si : I 33 8 = I 103 2 := hr.2.2.1
  have h_sr : srOk I := hr.2.2.2.1
  have h_fd : I 70 5 = I 103 25 := hr.2.2.2.2.1
  have h_by : ∀ j : Nat, nb (I 71 j) = nb (I 121 j) := hr.2.2.2.2.2.1
  have h_wy : WY I R := hr.2.2.2.2.2.2.1
  have h_th : ∀ j : Nat, j < 3 → I 93 j = I 135 j ∧ I 94 j = I 136 j := hr.2.2.2.2.2.2.2
  unfold pbs_way at p1
  unfold pks_way at p2
  have e5 : I3 70 = I2 70 := f2.1 70 (by omega)
  have e1 : I2 103 = I 103 := f1.1 103 (by omega) (by omega)
  have e9 : I2 121 = I 121 := f1.1 121 (by omega) (by omega)
  obtain ⟨p1, qb⟩ := p1
  obtain ⟨p2, qk⟩ := p2
  have fd3 : I3 70 5 = I3 103 25 := by
    have q := p1.2.2
    rw [e5, q]
    rcases p2.2 with ⟨b1, b2, b3⟩ | ⟨b1, b2⟩
    · rw [b3, e1, if_neg (by grind)]; exact h_fd
    · rw [b2.2.1, if_pos (by grind)]
  exact fd3

theorem relq_way_1 {v0 : Int32} {x y : Int32} {n : Nat} {I I2 I3 : px_I} {L L2 L3 : px_L} {R : px_R} (hj : jJ n I R) (hr : rel I L R) (f1 : frB I I2 L L2) {R2 : px_R} (fR : wZ v0 I R I2 R2) (p1 : pbs_way v0 I L x I2 L2) (f2 : frK I2 I3 L2 L3) (p2 : pks_way v0 I2 L2 y I3 L3) : (WY I3 R2) := by
  have h_da : I 32 10 = I 103 0 := hr.1
  have h_st : I 33 7 = I 103 1 := hr.2.1
  have h_si : I 33 8 = I 103 2 := hr.2.2.1
  have h_sr : srOk I := hr.2.2.2.1
  have h_fd : I 70 5 = I 103 25 := hr.2.2.2.2.1
  have h_by : ∀ j : Nat, nb (I 71 j) = nb (I 121 j) := hr.2.2.2.2.2.1
  have h_wy : WY I R := hr.2.2.2.2.2.2.1
  have h_th : ∀ j : Nat, j < 3 → I 93 j = I 135 j ∧ I 94 j = I 136 j := hr.2.2.2.2.2.2.2
  unfold pbs_way at p1
  unfold pks_way at p2
  have e5 : I3 70 = I2 70 := f2.1 70 (by omega)
  have e1 : I2 103 = I 103 := f1.1 103 (by omega) (by omega)
  have e9 : I2 121 = I 121 := f1.1 121 (by omega) (by omega)
  obtain ⟨p1, qb⟩ := p1
  obtain ⟨p2, qk⟩ := p2
  have fd3 : I3 70 5 = I3 103 25 := by
    have q := p1.2.2
    rw [e5, q]
    rcases p2.2 with ⟨b1, b2, b3⟩ | ⟨b1, b2⟩
    · rw [b3, e1, if_neg (by grind)]; exact h_fd
    · rw [b2.2.1, if_pos (by grind)]
  obtain ⟨z1, z2⟩ := zBy (I := I) (J := I2) (by rw [e1]; exact h_fd) (by rw [e9]; exact h_by)
  refine h_wy.way f1.1 (fun b hb => f2.1 b hb) z1 z2 fR qb qk.2 (fun k hk => ?_)
  rcases p2.2 with ⟨b1, b2, b3⟩ | ⟨b1, b2⟩
  · rw [b3]
  · exact b2.1 103 (47 + k) (by omega) (by omega)

theorem rel.way {v0 : Int32} {x y : Int32} {n : Nat} {I I2 I3 : px_I} {L L2 L3 : px_L} {R : px_R} (hj : jJ n I R) (hr : rel I L R) (f1 : frB I I2 L L2) {R2 : px_R} (fR : wZ v0 I R I2 R2) (p1 : pbs_way v0 I L x I2 L2) (f2 : frK I2 I3 L2 L3) (p2 : pks_way v0 I2 L2 y I3 L3) : rel I3 L3 R2 := by
  have hq0 := relq_way hj hr f1 fR p1 f2 p2
  have hq1 := relq_way_1 hj hr f1 fR p1 f2 p2
  have f_32_10 : I3 32 10 = I 32 10 := by rw [f2.1 32 (by omega), eb_way_32_10 (pbs_way.old p1)]
  have f_103_0 : I3 103 0 = I 103 0 := by rw [ek_way_103_0 (pks_way.old p2), f1.1 103 (by omega) (by omega)]
  have f_33_7 : I3 33 7 = I 33 7 := by rw [f2.1 33 (by omega), eb_way_33_7 (pbs_way.old p1)]
  have f_103_1 : I3 103 1 = I 103 1 := by rw [ek_way_103_1 (pks_way.old p2), f1.1 103 (by omega) (by omega)]
  have f_33_8 : I3 33 8 = I 33 8 := by rw [f2.1 33 (by omega), eb_way_33_8 (pbs_way.old p1)]
  have f_103_2 : I3 103 2 = I 103 2 := by rw [ek_way_103_2 (pks_way.old p2), f1.1 103 (by omega) (by omega)]
  have f_34_r : I3 34 = I 34 := by rw [f2.1 34 (by omega), eb_way_34_r (pbs_way.old p1)]
  have f_35_r : I3 35 = I 35 := by rw [f2.1 35 (by omega), eb_way_35_r (pbs_way.old p1)]
  have f_36_r : I3 36 = I 36 := by rw [f2.1 36 (by omega), eb_way_36_r (pbs_way.old p1)]
  have f_37_r : I3 37 = I 37 := by rw [f2.1 37 (by omega), eb_way_37_r (pbs_way.old p1)]
  have f_38_r : I3 38 = I 38 := by rw [f2.1 38 (by omega), eb_way_38_r (pbs_way.old p1)]
  have f_39_r : I3 39 = I 39 := by rw [f2.1 39 (by omega), eb_way_39_r (pbs_way.old p1)]
  have f_104_r : I3 104 = I 104 := by rw [ek_way_104_r (pks_way.old p2), f1.1 104 (by omega) (by omega)]
  have f_105_r : I3 105 = I 105 := by rw [ek_way_105_r (pks_way.old p2), f1.1 105 (by omega) (by omega)]
  have f_106_r : I3 106 = I 106 := by rw [ek_way_106_r (pks_way.old p2), f1.1 106 (by omega) (by omega)]
  have f_107_r : I3 107 = I 107 := by rw [ek_way_107_r (pks_way.old p2), f1.1 107 (by omega) (by omega)]
  have f_108_r : I3 108 = I 108 := by rw [ek_way_108_r (pks_way.old p2), f1.1 108 (by omega) (by omega)]
  have f_109_r : I3 109 = I 109 := by rw [ek_way_109_r (pks_way.old p2), f1.1 109 (by omega) (by omega)]
  have f_71_r : I3 71 = I 71 := by rw [f2.1 71 (by omega), eb_way_71_r (pbs_way.old p1)]
  have f_121_r : I3 121 = I 121 := by rw [ek_way_121_r (pks_way.old p2), f1.1 121 (by omega) (by omega)]
  have f_93_r : I3 93 = I 93 := by rw [f2.1 93 (by omega), eb_way_93_r (pbs_way.old p1)]
  have f_94_r : I3 94 = I 94 := by rw [f2.1 94 (by omega), eb_way_94_r (pbs_way.old p1)]
  have f_135_r : I3 135 = I 135 := by rw [ek_way_135_r (pks_way.old p2), f1.1 135 (by omega) (by omega)]
  have f_136_r : I3 136 = I 136 := by rw [ek_way_136_r (pks_way.old p2), f1.1 136 (by omega) (by omega)]
  exact ⟨(by rw [f_32_10, f_103_0]; exact hr.1), (by rw [f_33_7, f_103_1]; exact hr.2.1), (by rw [f_33_8, f_103_2]; exact hr.2.2.1), (srOk.eq f_33_7 f_33_8 f_34_r f_35_r f_36_r f_37_r f_38_r f_39_r f_104_r f_105_r f_106_r f_107_r f_108_r f_109_r hr.2.2.2.1), hq0, (by rw [f_71_r, f_121_r]; exact hr.2.2.2.2.2.1), hq1, (by rw [f_93_r, f_94_r, f_135_r, f_136_r]; exact hr.2.2.2.2.2.2.2)⟩

theorem rel.fault {v0 : Int32} {x y : Int32} {n : Nat} {I I2 I3 : px_I} {L L2 L3 : px_L} {R : px_R} (hj : jJ n I R) (hr : rel I L R) (f1 : frB I I2 L L2) {R2 : px_R} (fR : kR R I2 R2) (p1 : pb_fault v0 I L x I2 L2) (f2 : frK I2 I3 L2 L3) (p2 : pk_fault v0 I2 L2 y I3 L3) : rel I3 L3 R2 := by
  have f_32_10 : I3 32 10 = I 32 10 := by rw [f2.1 32 (by omega), eb_fault_32_10 p1]
  have f_103_0 : I3 103 0 = I 103 0 := by rw [ek_fault_103_0 p2, f1.1 103 (by omega) (by omega)]
  have f_33_7 : I3 33 7 = I 33 7 := by rw [f2.1 33 (by omega), eb_fault_33_7 p1]
  have f_103_1 : I3 103 1 = I 103 1 := by rw [ek_fault_103_1 p2, f1.1 103 (by omega) (by omega)]
  have f_33_8 : I3 33 8 = I 33 8 := by rw [f2.1 33 (by omega), eb_fault_33_8 p1]
  have f_103_2 : I3 103 2 = I 103 2 := by rw [ek_fault_103_2 p2, f1.1 103 (by omega) (by omega)]
  have f_34_r : I3 34 = I 34 := by rw [f2.1 34 (by omega), eb_fault_34_r p1]
  have f_35_r : I3 35 = I 35 := by rw [f2.1 35 (by omega), eb_fault_35_r p1]
  have f_36_r : I3 36 = I 36 := by rw [f2.1 36 (by omega), eb_fault_36_r p1]
  have f_37_r : I3 37 = I 37 := by rw [f2.1 37 (by omega), eb_fault_37_r p1]
  have f_38_r : I3 38 = I 38 := by rw [f2.1 38 (by omega), eb_fault_38_r p1]
  have f_39_r : I3 39 = I 39 := by rw [f2.1 39 (by omega), eb_fault_39_r p1]
  have f_104_r : I3 104 = I 104 := by rw [ek_fault_104_r p2, f1.1 104 (by omega) (by omega)]
  have f_105_r : I3 105 = I 105 := by rw [ek_fault_105_r p2, f1.1 105 (by omega) (by omega)]
  have f_106_r : I3 106 = I 106 := by rw [ek_fault_106_r p2, f1.1 106 (by omega) (by omega)]
  have f_107_r : I3 107 = I 107 := by rw [ek_fault_107_r p2, f1.1 107 (by omega) (by omega)]
  have f_108_r : I3 108 = I 108 := by rw [ek_fault_108_r p2, f1.1 108 (by omega) (by omega)]
  have f_109_r : I3 109 = I 109 := by rw [ek_fault_109_r p2, f1.1 109 (by omega) (by omega)]
  have f_70_5 : I3 70 5 = I 70 5 := by rw [f2.1 70 (by omega), eb_fault_70_5 p1]
  have f_103_25 : I3 103 25 = I 103 25 := by rw [ek_fault_103_25 p2, f1.1 103 (by omega) (by omega)]
  have f_71_r : I3 71 = I 71 := by rw [f2.1 71 (by omega), eb_fault_71_r p1]
  have f_121_r : I3 121 = I 121 := by rw [ek_fault_121_r p2, f1.1 121 (by omega) (by omega)]
  have f_90_r : I3 90 = I 90 := by rw [f2.1 90 (by omega), eb_fault_90_r p1]
  have f_91_r : I3 91 = I 91 := by rw [f2.1 91 (by omega), eb_fault_91_r p1]
  have f_86_3 : I3 86 3 = I 86 3 := by rw [f2.1 86 (by omega), eb_fault_86_3 p1]
  have f_86_4 : I3 86 4 = I 86 4 := by rw [f2.1 86 (by omega), eb_fault_86_4 p1]
  have f_86_5 : I3 86 5 = I 86 5 := by rw [f2.1 86 (by omega), eb_fault_86_5 p1]
  have f_86_6 : I3 86 6 = I 86 6 := by rw [f2.1 86 (by omega), eb_fault_86_6 p1]
  have f_86_7 : I3 86 7 = I 86 7 := by rw [f2.1 86 (by omega), eb_fault_86_7 p1]
  have f_9999_r : ∀ b, ((77 ≤ b ∧ b ≤ 79) ∨ 147 ≤ b) → I3 b = I b := fun b hb => by rw [f2.1 b (by omega), eb_fault_9999_r p1 b hb]
  have f_129_r : I3 129 = I 129 := by rw [ek_fault_129_r p2, f1.1 129 (by omega) (by omega)]
  have f_130_r : I3 130 = I 130 := by rw [ek_fault_130_r p2, f1.1 130 (by omega) (by omega)]
  have f_131_r : I3 131 = I 131 := by rw [ek_fault_131_r p2, f1.1 131 (by omega) (by omega)]
  have f_103_47 : I3 103 47 = I 103 47 := by rw [ek_fault_103_47 p2, f1.1 103 (by omega) (by omega)]
  have f_103_48 : I3 103 48 = I 103 48 := by rw [ek_fault_103_48 p2, f1.1 103 (by omega) (by omega)]
  have f_103_49 : I3 103 49 = I 103 49 := by rw [ek_fault_103_49 p2, f1.1 103 (by omega) (by omega)]
  have f_103_50 : I3 103 50 = I 103 50 := by rw [ek_fault_103_50 p2, f1.1 103 (by omega) (by omega)]
  have f_103_51 : I3 103 51 = I 103 51 := by rw [ek_fault_103_51 p2, f1.1 103 (by omega) (by omega)]
  have f_93_r : I3 93 = I 93 := by rw [f2.1 93 (by omega), eb_fault_93_r p1]
  have f_94_r : I3 94 = I 94 := by rw [f2.1 94 (by omega), eb_fault_94_r p1]
  have f_135_r : I3 135 = I 135 := by rw [ek_fault_135_r p2, f1.1 135 (by omega) (by omega)]
  have f_136_r : I3 136 = I 136 := by rw [ek_fault_136_r p2, f1.1 136 (by omega) (by omega)]
  exact ⟨(by rw [f_32_10, f_103_0]; exact hr.1), (by rw [f_33_7, f_103_1]; exact hr.2.1), (by rw [f_33_8, f_103_2]; exact hr.2.2.1), (srOk.eq f_33_7 f_33_8 f_34_r f_35_r f_36_r f_37_r f_38_r f_39_r f_104_r f_105_r f_106_r f_107_r f_108_r f_109_r hr.2.2.2.1), (by rw [f_70_5, f_103_25]; exact hr.2.2.2.2.1), (by rw [f_71_r, f_121_r]; exact hr.2.2.2.2.2.1), (wy_eq f_90_r f_91_r f_86_3 f_86_4 f_86_5 f_86_6 f_86_7 f_9999_r f_129_r f_130_r f_131_r f_103_47 f_103_48 f_103_49 f_103_50 f_103_51 fR hr.2.2.2.2.2.2.1), (by rw [f_93_r, f_94_r, f_135_r, f_136_r]; exact hr.2.2.2.2.2.2.2)⟩

theorem relq_tools {v0 v1 v2 v3 v4 : Int32} {x y : Int32} {n : Nat} {I I2 I3 : px_I} {L L2 L3 : px_L} {R : px_R} (hj : jJ n I R) (hr : rel I L R) (f1 : frB I I2 L L2) {R2 : px_R} (fR : kR R I2 R2) (p1 : pbs_tools v0 v1 v2 v3 v4 I L x I2 L2) (f2 : frK I2 I3 L2 L3) (p2 : pks_tools v0 v1 v2 v3 v4 I2 L2 y I3 L3) : (WY I3 R2) := by
  have h_da : I 32 10 = I 103 0 := hr.1
  have h_st : I 33 7 = I 103 1 := hr.2.1
  have h_si : I 33 8 = I 103 2 := hr.2.2.1
  have h_sr : srOk I := hr.2.2.2.1
  have h_fd : I 70 5 = I 103 25 := hr.2.2.2.2.1
  have h_by : ∀ j : Nat, nb (I 71 j) = nb (I 121 j) := hr.2.2.2.2.2.1
  have h_wy : WY I R := hr.2.2.2.2.2.2.1
  have h_th : ∀ j : Nat, j < 3 → I 93 j = I 135 j ∧ I 94 j = I 136 j := hr.2.2.2.2.2.2.2
  unfold pbs_tools at p1
  unfold pks_tools at p2
  unfold pk_tools at p2
  rcases p1.2 with ⟨a1, a2, a3, a4⟩ | ⟨a1, a2, a3⟩
  · rcases p2.2 with ⟨b1, b2, b3⟩ | ⟨b1, b2, b3⟩
    · exact h_wy.tools a1 a3 a4 (fun b hb => f2.1 b hb) b3 fR
    · exact absurd a1 b1
  · rcases p2.2 with ⟨b1, b2, b3⟩ | ⟨b1, b2, b3⟩
    · exact absurd b1 a1
    · exact h_wy.tools0 (by rw [b3, a3]) fR

theorem rel.tools {v0 v1 v2 v3 v4 : Int32} {x y : Int32} {n : Nat} {I I2 I3 : px_I} {L L2 L3 : px_L} {R : px_R} (hj : jJ n I R) (hr : rel I L R) (f1 : frB I I2 L L2) {R2 : px_R} (fR : kR R I2 R2) (p1 : pbs_tools v0 v1 v2 v3 v4 I L x I2 L2) (f2 : frK I2 I3 L2 L3) (p2 : pks_tools v0 v1 v2 v3 v4 I2 L2 y I3 L3) : rel I3 L3 R2 := by
  have hq0 := relq_tools hj hr f1 fR p1 f2 p2
  have f_32_10 : I3 32 10 = I 32 10 := by rw [f2.1 32 (by omega), eb_tools_32_10 (pbs_tools.old p1)]
  have f_103_0 : I3 103 0 = I 103 0 := by rw [ek_tools_103_0 (pks_tools.old p2), f1.1 103 (by omega) (by omega)]
  have f_33_7 : I3 33 7 = I 33 7 := by rw [f2.1 33 (by omega), eb_tools_33_7 (pbs_tools.old p1)]
  have f_103_1 : I3 103 1 = I 103 1 := by rw [ek_tools_103_1 (pks_tools.old p2), f1.1 103 (by omega) (by omega)]
  have f_33_8 : I3 33 8 = I 33 8 := by rw [f2.1 33 (by omega), eb_tools_33_8 (pbs_tools.old p1)]
  have f_103_2 : I3 103 2 = I 103 2 := by rw [ek_tools_103_2 (pks_tools.old p2), f1.1 103 (by omega) (by omega)]
  have f_34_r : I3 34 = I 34 := by rw [f2.1 34 (by omega), eb_tools_34_r (pbs_tools.old p1)]
  have f_35_r : I3 35 = I 35 := by rw [f2.1 35 (by omega), eb_tools_35_r (pbs_tools.old p1)]
  have f_36_r : I3 36 = I 36 := by rw [f2.1 36 (by omega), eb_tools_36_r (pbs_tools.old p1)]
  have f_37_r : I3 37 = I 37 := by rw [f2.1 37 (by omega), eb_tools_37_r (pbs_tools.old p1)]
  have f_38_r : I3 38 = I 38 := by rw [f2.1 38 (by omega), eb_tools_38_r (pbs_tools.old p1)]
  have f_39_r : I3 39 = I 39 := by rw [f2.1 39 (by omega), eb_tools_39_r (pbs_tools.old p1)]
  have f_104_r : I3 104 = I 104 := by rw [ek_tools_104_r (pks_tools.old p2), f1.1 104 (by omega) (by omega)]
  have f_105_r : I3 105 = I 105 := by rw [ek_tools_105_r (pks_tools.old p2), f1.1 105 (by omega) (by omega)]
  have f_106_r : I3 106 = I 106 := by rw [ek_tools_106_r (pks_tools.old p2), f1.1 106 (by omega) (by omega)]
  have f_107_r : I3 107 = I 107 := by rw [ek_tools_107_r (pks_tools.old p2), f1.1 107 (by omega) (by omega)]
  have f_108_r : I3 108 = I 108 := by rw [ek_tools_108_r (pks_tools.old p2), f1.1 108 (by omega) (by omega)]
  have f_109_r : I3 109 = I 109 := by rw [ek_tools_109_r (pks_tools.old p2), f1.1 109 (by omega) (by omega)]
  have f_70_5 : I3 70 5 = I 70 5 := by rw [f2.1 70 (by omega), eb_tools_70_5 (pbs_tools.old p1)]
  have f_103_25 : I3 103 25 = I 103 25 := by rw [ek_tools_103_25 (pks_tools.old p2), f1.1 103 (by omega) (by omega)]
  have f_71_r : I3 71 = I 71 := by rw [f2.1 71 (by omega), eb_tools_71_r (pbs_tools.old p1)]
  have f_121_r : I3 121 = I 121 := by rw [ek_tools_121_r (pks_tools.old p2), f1.1 121 (by omega) (by omega)]
  have f_93_r : I3 93 = I 93 := by rw [f2.1 93 (by omega), eb_tools_93_r (pbs_tools.old p1)]
  have f_94_r : I3 94 = I 94 := by rw [f2.1 94 (by omega), eb_tools_94_r (pbs_tools.old p1)]
  have f_135_r : I3 135 = I 135 := by rw [ek_tools_135_r (pks_tools.old p2), f1.1 135 (by omega) (by omega)]
  have f_136_r : I3 136 = I 136 := by rw [ek_tools_136_r (pks_tools.old p2), f1.1 136 (by omega) (by omega)]
  exact ⟨(by rw [f_32_10, f_103_0]; exact hr.1), (by rw [f_33_7, f_103_1]; exact hr.2.1), (by rw [f_33_8, f_103_2]; exact hr.2.2.1), (srOk.eq f_33_7 f_33_8 f_34_r f_35_r f_36_r f_37_r f_38_r f_39_r f_104_r f_105_r f_106_r f_107_r f_108_r f_109_r hr.2.2.2.1), (by rw [f_70_5, f_103_25]; exact hr.2.2.2.2.1), (by rw [f_71_r, f_121_r]; exact hr.2.2.2.2.2.1), hq0, (by rw [f_93_r, f_94_r, f_135_r, f_136_r]; exact hr.2.2.2.2.2.2.2)⟩

theorem relq_run {v0 v1 v2 : Int32} {x y : Int32} {n : Nat} {I I2 I3 : px_I} {L L2 L3 : px_L} {R : px_R} (hj : jJ n I R) (hr : rel I L R) (f1 : frB I I2 L L2) {R2 : px_R} (fR : kR R I2 R2) (p1 : pbs_run R v0 v1 v2 I L x I2 L2) (f2 : frK I2 I3 L2 L3) (p2 : pks_run (Zc I R) v0 v1 v2 I2 L2 y I3 L3) : (WY I3 R2) := by
  have h_da : I 32 10 = I 103 0 := hr.1
  have h_st : I 33 7 = I 103 1 := hr.2.1
  have h_si : I 33 8 = I 103 2 := hr.2.2.1
  have h_sr : srOk I := hr.2.2.2.1
  have h_fd : I 70 5 = I 103 25 := hr.2.2.2.2.1
  have h_by : ∀ j : Nat, nb (I 71 j) = nb (I 121 j) := hr.2.2.2.2.2.1
  have h_wy : WY I R := hr.2.2.2.2.2.2.1
  have h_th : ∀ j : Nat, j < 3 → I 93 j = I 135 j ∧ I 94 j = I 136 j := hr.2.2.2.2.2.2.2
  unfold pbs_run at p1
  unfold pks_run at p2
  exact WY.ask2 h_wy.Z p1.2.1 p1.1.1 f1 f2 p2.1.1 fR

theorem rel.run {v0 v1 v2 : Int32} {x y : Int32} {n : Nat} {I I2 I3 : px_I} {L L2 L3 : px_L} {R : px_R} (hj : jJ n I R) (hr : rel I L R) (f1 : frB I I2 L L2) {R2 : px_R} (fR : kR R I2 R2) (p1 : pbs_run R v0 v1 v2 I L x I2 L2) (f2 : frK I2 I3 L2 L3) (p2 : pks_run (Zc I R) v0 v1 v2 I2 L2 y I3 L3) : rel I3 L3 R2 := by
  have hq0 := relq_run hj hr f1 fR p1 f2 p2
  have f_32_10 : I3 32 10 = I 32 10 := by rw [f2.1 32 (by omega), eb_run_32_10 (pbs_run.old p1)]
  have f_103_0 : I3 103 0 = I 103 0 := by rw [ek_run_103_0 (pks_run.old p2), f1.1 103 (by omega) (by omega)]
  have f_33_7 : I3 33 7 = I 33 7 := by rw [f2.1 33 (by omega), eb_run_33_7 (pbs_run.old p1)]
  have f_103_1 : I3 103 1 = I 103 1 := by rw [ek_run_103_1 (pks_run.old p2), f1.1 103 (by omega) (by omega)]
  have f_33_8 : I3 33 8 = I 33 8 := by rw [f2.1 33 (by omega), eb_run_33_8 (pbs_run.old p1)]
  have f_103_2 : I3 103 2 = I 103 2 := by rw [ek_run_103_2 (pks_run.old p2), f1.1 103 (by omega) (by omega)]
  have f_34_r : I3 34 = I 34 := by rw [f2.1 34 (by omega), eb_run_34_r (pbs_run.old p1)]
  have f_35_r : I3 35 = I 35 := by rw [f2.1 35 (by omega), eb_run_35_r (pbs_run.old p1)]
  have f_36_r : I3 36 = I 36 := by rw [f2.1 36 (by omega), eb_run_36_r (pbs_run.old p1)]
  have f_37_r : I3 37 = I 37 := by rw [f2.1 37 (by omega), eb_run_37_r (pbs_run.old p1)]
  have f_38_r : I3 38 = I 38 := by rw [f2.1 38 (by omega), eb_run_38_r (pbs_run.old p1)]
  have f_39_r : I3 39 = I 39 := by rw [f2.1 39 (by omega), eb_run_39_r (pbs_run.old p1)]
  have f_104_r : I3 104 = I 104 := by rw [ek_run_104_r (pks_run.old p2), f1.1 104 (by omega) (by omega)]
  have f_105_r : I3 105 = I 105 := by rw [ek_run_105_r (pks_run.old p2), f1.1 105 (by omega) (by omega)]
  have f_106_r : I3 106 = I 106 := by rw [ek_run_106_r (pks_run.old p2), f1.1 106 (by omega) (by omega)]
  have f_107_r : I3 107 = I 107 := by rw [ek_run_107_r (pks_run.old p2), f1.1 107 (by omega) (by omega)]
  have f_108_r : I3 108 = I 108 := by rw [ek_run_108_r (pks_run.old p2), f1.1 108 (by omega) (by omega)]
  have f_109_r : I3 109 = I 109 := by rw [ek_run_109_r (pks_run.old p2), f1.1 109 (by omega) (by omega)]
  have f_70_5 : I3 70 5 = I 70 5 := by rw [f2.1 70 (by omega), eb_run_70_5 (pbs_run.old p1)]
  have f_103_25 : I3 103 25 = I 103 25 := by rw [ek_run_103_25 (pks_run.old p2), f1.1 103 (by omega) (by omega)]
  have f_71_r : I3 71 = I 71 := by rw [f2.1 71 (by omega), eb_run_71_r (pbs_run.old p1)]
  have f_121_r : I3 121 = I 121 := by rw [ek_run_121_r (pks_run.old p2), f1.1 121 (by omega) (by omega)]
  have f_93_r : I3 93 = I 93 := by rw [f2.1 93 (by omega), eb_run_93_r (pbs_run.old p1)]
  have f_94_r : I3 94 = I 94 := by rw [f2.1 94 (by omega), eb_run_94_r (pbs_run.old p1)]
  have f_135_r : I3 135 = I 135 := by rw [ek_run_135_r (pks_run.old p2), f1.1 135 (by omega) (by omega)]
  have f_136_r : I3 136 = I 136 := by rw [ek_run_136_r (pks_run.old p2), f1.1 136 (by omega) (by omega)]
  exact ⟨(by rw [f_32_10, f_103_0]; exact hr.1), (by rw [f_33_7, f_103_1]; exact hr.2.1), (by rw [f_33_8, f_103_2]; exact hr.2.2.1), (srOk.eq f_33_7 f_33_8 f_34_r f_35_r f_36_r f_37_r f_38_r f_39_r f_104_r f_105_r f_106_r f_107_r f_108_r f_109_r hr.2.2.2.1), (by rw [f_70_5, f_103_25]; exact hr.2.2.2.2.1), (by rw [f_71_r, f_121_r]; exact hr.2.2.2.2.2.1), hq0, (by rw [f_93_r, f_94_r, f_135_r, f_136_r]; exact hr.2.2.2.2.2.2.2)⟩

theorem relq_meeting {v0 v1 v2 v3 v4 v5 : Int32} {x y : Int32} {n : Nat} {I I2 I3 : px_I} {L L2 L3 : px_L} {R : px_R} (hj : jJ n I R) (hr : rel I L R) (f1 : frB I I2 L L2) {R2 : px_R} (fR : kR R I2 R2) (p1 : pbs_meeting R v0 v1 v2 v3 v4 v5 I L x I2 L2) (f2 : frK I2 I3 L2 L3) (p2 : pks_meeting v0 v1 v2 v3 v4 v5 I2 L2 y I3 L3) : (WY I3 R2) := by
  have h_da : I 32 10 = I 103 0 := hr.1
  have h_st : I 33 7 = I 103 1 := hr.2.1
  have h_si : I 33 8 = I 103 2 := hr.2.2.1
  have h_sr : srOk I := hr.2.2.2.1
  have h_fd : I 70 5 = I 103 25 := hr.2.2.2.2.1
  have h_by : ∀ j : Nat, nb (I 71 j) = nb (I 121 j) := hr.2.2.2.2.2.1
  have h_wy : WY I R := hr.2.2.2.2.2.2.1
  have h_th : ∀ j : Nat, j < 3 → I 93 j = I 135 j ∧ I 94 j = I 136 j := hr.2.2.2.2.2.2.2
  unfold pbs_meeting at p1
  unfold pks_meeting at p2
  unfold pk_meeting at p2
  exact WY.ask2 h_wy.Z p1.2 p1.1.1 f1 f2 p2.1 fR

theorem rel.meeting {v0 v1 v2 v3 v4 v5 : Int32} {x y : Int32} {n : Nat} {I I2 I3 : px_I} {L L2 L3 : px_L} {R : px_R} (hj : jJ n I R) (hr : rel I L R) (f1 : frB I I2 L L2) {R2 : px_R} (fR : kR R I2 R2) (p1 : pbs_meeting R v0 v1 v2 v3 v4 v5 I L x I2 L2) (f2 : frK I2 I3 L2 L3) (p2 : pks_meeting v0 v1 v2 v3 v4 v5 I2 L2 y I3 L3) : rel I3 L3 R2 := by
  have hq0 := relq_meeting hj hr f1 fR p1 f2 p2
  have f_32_10 : I3 32 10 = I 32 10 := by rw [f2.1 32 (by omega), eb_meeting_32_10 (pbs_meeting.old p1)]
  have f_103_0 : I3 103 0 = I 103 0 := by rw [ek_meeting_103_0 (pks_meeting.old p2), f1.1 103 (by omega) (by omega)]
  have f_33_7 : I3 33 7 = I 33 7 := by rw [f2.1 33 (by omega), eb_meeting_33_7 (pbs_meeting.old p1)]
  have f_103_1 : I3 103 1 = I 103 1 := by rw [ek_meeting_103_1 (pks_meeting.old p2), f1.1 103 (by omega) (by omega)]
  have f_33_8 : I3 33 8 = I 33 8 := by rw [f2.1 33 (by omega), eb_meeting_33_8 (pbs_meeting.old p1)]
  have f_103_2 : I3 103 2 = I 103 2 := by rw [ek_meeting_103_2 (pks_meeting.old p2), f1.1 103 (by omega) (by omega)]
  have f_34_r : I3 34 = I 34 := by rw [f2.1 34 (by omega), eb_meeting_34_r (pbs_meeting.old p1)]
  have f_35_r : I3 35 = I 35 := by rw [f2.1 35 (by omega), eb_meeting_35_r (pbs_meeting.old p1)]
  have f_36_r : I3 36 = I 36 := by rw [f2.1 36 (by omega), eb_meeting_36_r (pbs_meeting.old p1)]
  have f_37_r : I3 37 = I 37 := by rw [f2.1 37 (by omega), eb_meeting_37_r (pbs_meeting.old p1)]
  have f_38_r : I3 38 = I 38 := by rw [f2.1 38 (by omega), eb_meeting_38_r (pbs_meeting.old p1)]
  have f_39_r : I3 39 = I 39 := by rw [f2.1 39 (by omega), eb_meeting_39_r (pbs_meeting.old p1)]
  have f_104_r : I3 104 = I 104 := by rw [ek_meeting_104_r (pks_meeting.old p2), f1.1 104 (by omega) (by omega)]
  have f_105_r : I3 105 = I 105 := by rw [ek_meeting_105_r (pks_meeting.old p2), f1.1 105 (by omega) (by omega)]
  have f_106_r : I3 106 = I 106 := by rw [ek_meeting_106_r (pks_meeting.old p2), f1.1 106 (by omega) (by omega)]
  have f_107_r : I3 107 = I 107 := by rw [ek_meeting_107_r (pks_meeting.old p2), f1.1 107 (by omega) (by omega)]
  have f_108_r : I3 108 = I 108 := by rw [ek_meeting_108_r (pks_meeting.old p2), f1.1 108 (by omega) (by omega)]
  have f_109_r : I3 109 = I 109 := by rw [ek_meeting_109_r (pks_meeting.old p2), f1.1 109 (by omega) (by omega)]
  have f_70_5 : I3 70 5 = I 70 5 := by rw [f2.1 70 (by omega), eb_meeting_70_5 (pbs_meeting.old p1)]
  have f_103_25 : I3 103 25 = I 103 25 := by rw [ek_meeting_103_25 (pks_meeting.old p2), f1.1 103 (by omega) (by omega)]
  have f_71_r : I3 71 = I 71 := by rw [f2.1 71 (by omega), eb_meeting_71_r (pbs_meeting.old p1)]
  have f_121_r : I3 121 = I 121 := by rw [ek_meeting_121_r (pks_meeting.old p2), f1.1 121 (by omega) (by omega)]
  have f_93_r : I3 93 = I 93 := by rw [f2.1 93 (by omega), eb_meeting_93_r (pbs_meeting.old p1)]
  have f_94_r : I3 94 = I 94 := by rw [f2.1 94 (by omega), eb_meeting_94_r (pbs_meeting.old p1)]
  have f_135_r : I3 135 = I 135 := by rw [ek_meeting_135_r (pks_meeting.old p2), f1.1 135 (by omega) (by omega)]
  have f_136_r : I3 136 = I 136 := by rw [ek_meeting_136_r (pks_meeting.old p2), f1.1 136 (by omega) (by omega)]
  exact ⟨(by rw [f_32_10, f_103_0]; exact hr.1), (by rw [f_33_7, f_103_1]; exact hr.2.1), (by rw [f_33_8, f_103_2]; exact hr.2.2.1), (srOk.eq f_33_7 f_33_8 f_34_r f_35_r f_36_r f_37_r f_38_r f_39_r f_104_r f_105_r f_106_r f_107_r f_108_r f_109_r hr.2.2.2.1), (by rw [f_70_5, f_103_25]; exact hr.2.2.2.2.1), (by rw [f_71_r, f_121_r]; exact hr.2.2.2.2.2.1), hq0, (by rw [f_93_r, f_94_r, f_135_r, f_136_r]; exact hr.2.2.2.2.2.2.2)⟩

theorem relq_there {v0 v1 v2 : Int32} {x y : Int32} {n : Nat} {I I2 I3 : px_I} {L L2 L3 : px_L} {R : px_R} (hj : jJ n I R) (hr : rel I L R) (f1 : frB I I2 L L2) {R2 : px_R} (fR : kR R I2 R2) (p1 : pb_there v0 v1 v2 I L x I2 L2) (f2 : frK I2 I3 L2 L3) (p2 : pk_there v0 v1 v2 I2 L2 y I3 L3) : (∀ j : Nat, j < 3 → I3 93 j = I3 135 j ∧ I3 94 j = I3 136 j) := by
  have h_da : I 32 10 = I 103 0 := hr.1
  have h_st : I 33 7 = I 103 1 := hr.2.1
  have h_si : I 33 8 = I 103 2 := hr.2.2.1
  have h_sr : srOk I := hr.2.2.2.1
  have h_fd : I 70 5 = I 103 25 := hr.2.2.2.2.1
  have h_by : ∀ j : Nat, nb (I 71 j) = nb (I 121 j) := hr.2.2.2.2.2.1
  have h_wy : WY I R := hr.2.2.2.2.2.2.1
  have h_th : ∀ j : Nat, j < 3 → I 93 j = I 135 j ∧ I 94 j = I 136 j := hr.2.2.2.2.2.2.2
  unfold pb_there at p1
  unfold pk_there at p2
  rcases p1.2 with ⟨a1, a2, a3⟩ | ⟨a1, a2, a3⟩
  · rcases p2.2 with ⟨b1, b2, b3⟩ | ⟨b1, b2, b3⟩
    · intro j hj3
      have h := h_th j hj3
      by_cases e : j = v0.toNatClampNeg
      · refine ⟨?_, ?_⟩
        · rw [f2.1 93 (by omega), b3, px_u_ne (show (135 : Nat) ≠ 136 by decide), e, px_u_at, a3, px_u_ne (show (93 : Nat) ≠ 94 by decide), px_u_at]
        · rw [f2.1 94 (by omega), b3, e, px_u_at, a3, px_u_at]
      · refine ⟨?_, ?_⟩
        · rw [f2.1 93 (by omega), b3, px_u_ne (show (135 : Nat) ≠ 136 by decide), px_u_at_ne e, a3, px_u_ne (show (93 : Nat) ≠ 94 by decide), px_u_at_ne e, px_u_ne (show (135 : Nat) ≠ 94 by decide), px_u_ne (show (135 : Nat) ≠ 93 by decide)]
          exact h.1
        · rw [f2.1 94 (by omega), b3, px_u_at_ne e, px_u_ne (show (136 : Nat) ≠ 135 by decide), a3, px_u_at_ne e, px_u_ne (show (94 : Nat) ≠ 93 by decide), px_u_ne (show (136 : Nat) ≠ 94 by decide), px_u_ne (show (136 : Nat) ≠ 93 by decide)]
          exact h.2
    · exact absurd ⟨a1.1, ⟨a1.2.1, by grind⟩, a1.2.2⟩ b1
  · rcases p2.2 with ⟨b1, b2, b3⟩ | ⟨b1, b2, b3⟩
    · exact absurd ⟨b1.1, b1.2.1.1, b1.2.2⟩ a1
    · intro j hj3
      rw [b3, a3]
      exact h_th j hj3

theorem rel.there {v0 v1 v2 : Int32} {x y : Int32} {n : Nat} {I I2 I3 : px_I} {L L2 L3 : px_L} {R : px_R} (hj : jJ n I R) (hr : rel I L R) (f1 : frB I I2 L L2) {R2 : px_R} (fR : kR R I2 R2) (p1 : pb_there v0 v1 v2 I L x I2 L2) (f2 : frK I2 I3 L2 L3) (p2 : pk_there v0 v1 v2 I2 L2 y I3 L3) : rel I3 L3 R2 := by
  have hq0 := relq_there hj hr f1 fR p1 f2 p2
  have f_32_10 : I3 32 10 = I 32 10 := by rw [f2.1 32 (by omega), eb_there_32_10 p1]
  have f_103_0 : I3 103 0 = I 103 0 := by rw [ek_there_103_0 p2, f1.1 103 (by omega) (by omega)]
  have f_33_7 : I3 33 7 = I 33 7 := by rw [f2.1 33 (by omega), eb_there_33_7 p1]
  have f_103_1 : I3 103 1 = I 103 1 := by rw [ek_there_103_1 p2, f1.1 103 (by omega) (by omega)]
  have f_33_8 : I3 33 8 = I 33 8 := by rw [f2.1 33 (by omega), eb_there_33_8 p1]
  have f_103_2 : I3 103 2 = I 103 2 := by rw [ek_there_103_2 p2, f1.1 103 (by omega) (by omega)]
  have f_34_r : I3 34 = I 34 := by rw [f2.1 34 (by omega), eb_there_34_r p1]
  have f_35_r : I3 35 = I 35 := by rw [f2.1 35 (by omega), eb_there_35_r p1]
  have f_36_r : I3 36 = I 36 := by rw [f2.1 36 (by omega), eb_there_36_r p1]
  have f_37_r : I3 37 = I 37 := by rw [f2.1 37 (by omega), eb_there_37_r p1]
  have f_38_r : I3 38 = I 38 := by rw [f2.1 38 (by omega), eb_there_38_r p1]
  have f_39_r : I3 39 = I 39 := by rw [f2.1 39 (by omega), eb_there_39_r p1]
  have f_104_r : I3 104 = I 104 := by rw [ek_there_104_r p2, f1.1 104 (by omega) (by omega)]
  have f_105_r : I3 105 = I 105 := by rw [ek_there_105_r p2, f1.1 105 (by omega) (by omega)]
  have f_106_r : I3 106 = I 106 := by rw [ek_there_106_r p2, f1.1 106 (by omega) (by omega)]
  have f_107_r : I3 107 = I 107 := by rw [ek_there_107_r p2, f1.1 107 (by omega) (by omega)]
  have f_108_r : I3 108 = I 108 := by rw [ek_there_108_r p2, f1.1 108 (by omega) (by omega)]
  have f_109_r : I3 109 = I 109 := by rw [ek_there_109_r p2, f1.1 109 (by omega) (by omega)]
  have f_70_5 : I3 70 5 = I 70 5 := by rw [f2.1 70 (by omega), eb_there_70_5 p1]
  have f_103_25 : I3 103 25 = I 103 25 := by rw [ek_there_103_25 p2, f1.1 103 (by omega) (by omega)]
  have f_71_r : I3 71 = I 71 := by rw [f2.1 71 (by omega), eb_there_71_r p1]
  have f_121_r : I3 121 = I 121 := by rw [ek_there_121_r p2, f1.1 121 (by omega) (by omega)]
  have f_90_r : I3 90 = I 90 := by rw [f2.1 90 (by omega), eb_there_90_r p1]
  have f_91_r : I3 91 = I 91 := by rw [f2.1 91 (by omega), eb_there_91_r p1]
  have f_86_3 : I3 86 3 = I 86 3 := by rw [f2.1 86 (by omega), eb_there_86_3 p1]
  have f_86_4 : I3 86 4 = I 86 4 := by rw [f2.1 86 (by omega), eb_there_86_4 p1]
  have f_86_5 : I3 86 5 = I 86 5 := by rw [f2.1 86 (by omega), eb_there_86_5 p1]
  have f_86_6 : I3 86 6 = I 86 6 := by rw [f2.1 86 (by omega), eb_there_86_6 p1]
  have f_86_7 : I3 86 7 = I 86 7 := by rw [f2.1 86 (by omega), eb_there_86_7 p1]
  have f_9999_r : ∀ b, ((77 ≤ b ∧ b ≤ 79) ∨ 147 ≤ b) → I3 b = I b := fun b hb => by rw [f2.1 b (by omega), eb_there_9999_r p1 b hb]
  have f_129_r : I3 129 = I 129 := by rw [ek_there_129_r p2, f1.1 129 (by omega) (by omega)]
  have f_130_r : I3 130 = I 130 := by rw [ek_there_130_r p2, f1.1 130 (by omega) (by omega)]
  have f_131_r : I3 131 = I 131 := by rw [ek_there_131_r p2, f1.1 131 (by omega) (by omega)]
  have f_103_47 : I3 103 47 = I 103 47 := by rw [ek_there_103_47 p2, f1.1 103 (by omega) (by omega)]
  have f_103_48 : I3 103 48 = I 103 48 := by rw [ek_there_103_48 p2, f1.1 103 (by omega) (by omega)]
  have f_103_49 : I3 103 49 = I 103 49 := by rw [ek_there_103_49 p2, f1.1 103 (by omega) (by omega)]
  have f_103_50 : I3 103 50 = I 103 50 := by rw [ek_there_103_50 p2, f1.1 103 (by omega) (by omega)]
  have f_103_51 : I3 103 51 = I 103 51 := by rw [ek_there_103_51 p2, f1.1 103 (by omega) (by omega)]
  exact ⟨(by rw [f_32_10, f_103_0]; exact hr.1), (by rw [f_33_7, f_103_1]; exact hr.2.1), (by rw [f_33_8, f_103_2]; exact hr.2.2.1), (srOk.eq f_33_7 f_33_8 f_34_r f_35_r f_36_r f_37_r f_38_r f_39_r f_104_r f_105_r f_106_r f_107_r f_108_r f_109_r hr.2.2.2.1), (by rw [f_70_5, f_103_25]; exact hr.2.2.2.2.1), (by rw [f_71_r, f_121_r]; exact hr.2.2.2.2.2.1), (wy_eq f_90_r f_91_r f_86_3 f_86_4 f_86_5 f_86_6 f_86_7 f_9999_r f_129_r f_130_r f_131_r f_103_47 f_103_48 f_103_49 f_103_50 f_103_51 fR hr.2.2.2.2.2.2.1), hq0⟩

theorem relq_fits {v0 v1 v2 v3 : Int32} {x y : Int32} {n : Nat} {I I2 I3 : px_I} {L L2 L3 : px_L} {R : px_R} (hj : jJ n I R) (hr : rel I L R) (f1 : frB I I2 L L2) {R2 : px_R} (fR : kR R I2 R2) (p1 : pbs_fits R v0 v1 v2 v3 I L x I2 L2) (f2 : frK I2 I3 L2 L3) (p2 : pks_fits v0 v1 v2 v3 I2 L2 y I3 L3) : (WY I3 R2) := by
  have h_da : I 32 10 = I 103 0 := hr.1
  have h_st : I 33 7 = I 103 1 := hr.2.1
  have h_si : I 33 8 = I 103 2 := hr.2.2.1
  have h_sr : srOk I := hr.2.2.2.1
  have h_fd : I 70 5 = I 103 25 := hr.2.2.2.2.1
  have h_by : ∀ j : Nat, nb (I 71 j) = nb (I 121 j) := hr.2.2.2.2.2.1
  have h_wy : WY I R := hr.2.2.2.2.2.2.1
  have h_th : ∀ j : Nat, j < 3 → I 93 j = I 135 j ∧ I 94 j = I 136 j := hr.2.2.2.2.2.2.2
  unfold pbs_fits at p1
  unfold pks_fits at p2
  unfold pk_fits at p2
  exact WY.ask2 h_wy.Z p1.2 p1.1.1 f1 f2 p2.1 fR

theorem rel.fits {v0 v1 v2 v3 : Int32} {x y : Int32} {n : Nat} {I I2 I3 : px_I} {L L2 L3 : px_L} {R : px_R} (hj : jJ n I R) (hr : rel I L R) (f1 : frB I I2 L L2) {R2 : px_R} (fR : kR R I2 R2) (p1 : pbs_fits R v0 v1 v2 v3 I L x I2 L2) (f2 : frK I2 I3 L2 L3) (p2 : pks_fits v0 v1 v2 v3 I2 L2 y I3 L3) : rel I3 L3 R2 := by
  have hq0 := relq_fits hj hr f1 fR p1 f2 p2
  have f_32_10 : I3 32 10 = I 32 10 := by rw [f2.1 32 (by omega), eb_fits_32_10 (pbs_fits.old p1)]
  have f_103_0 : I3 103 0 = I 103 0 := by rw [ek_fits_103_0 (pks_fits.old p2), f1.1 103 (by omega) (by omega)]
  have f_33_7 : I3 33 7 = I 33 7 := by rw [f2.1 33 (by omega), eb_fits_33_7 (pbs_fits.old p1)]
  have f_103_1 : I3 103 1 = I 103 1 := by rw [ek_fits_103_1 (pks_fits.old p2), f1.1 103 (by omega) (by omega)]
  have f_33_8 : I3 33 8 = I 33 8 := by rw [f2.1 33 (by omega), eb_fits_33_8 (pbs_fits.old p1)]
  have f_103_2 : I3 103 2 = I 103 2 := by rw [ek_fits_103_2 (pks_fits.old p2), f1.1 103 (by omega) (by omega)]
  have f_34_r : I3 34 = I 34 := by rw [f2.1 34 (by omega), eb_fits_34_r (pbs_fits.old p1)]
  have f_35_r : I3 35 = I 35 := by rw [f2.1 35 (by omega), eb_fits_35_r (pbs_fits.old p1)]
  have f_36_r : I3 36 = I 36 := by rw [f2.1 36 (by omega), eb_fits_36_r (pbs_fits.old p1)]
  have f_37_r : I3 37 = I 37 := by rw [f2.1 37 (by omega), eb_fits_37_r (pbs_fits.old p1)]
  have f_38_r : I3 38 = I 38 := by rw [f2.1 38 (by omega), eb_fits_38_r (pbs_fits.old p1)]
  have f_39_r : I3 39 = I 39 := by rw [f2.1 39 (by omega), eb_fits_39_r (pbs_fits.old p1)]
  have f_104_r : I3 104 = I 104 := by rw [ek_fits_104_r (pks_fits.old p2), f1.1 104 (by omega) (by omega)]
  have f_105_r : I3 105 = I 105 := by rw [ek_fits_105_r (pks_fits.old p2), f1.1 105 (by omega) (by omega)]
  have f_106_r : I3 106 = I 106 := by rw [ek_fits_106_r (pks_fits.old p2), f1.1 106 (by omega) (by omega)]
  have f_107_r : I3 107 = I 107 := by rw [ek_fits_107_r (pks_fits.old p2), f1.1 107 (by omega) (by omega)]
  have f_108_r : I3 108 = I 108 := by rw [ek_fits_108_r (pks_fits.old p2), f1.1 108 (by omega) (by omega)]
  have f_109_r : I3 109 = I 109 := by rw [ek_fits_109_r (pks_fits.old p2), f1.1 109 (by omega) (by omega)]
  have f_70_5 : I3 70 5 = I 70 5 := by rw [f2.1 70 (by omega), eb_fits_70_5 (pbs_fits.old p1)]
  have f_103_25 : I3 103 25 = I 103 25 := by rw [ek_fits_103_25 (pks_fits.old p2), f1.1 103 (by omega) (by omega)]
  have f_71_r : I3 71 = I 71 := by rw [f2.1 71 (by omega), eb_fits_71_r (pbs_fits.old p1)]
  have f_121_r : I3 121 = I 121 := by rw [ek_fits_121_r (pks_fits.old p2), f1.1 121 (by omega) (by omega)]
  have f_93_r : I3 93 = I 93 := by rw [f2.1 93 (by omega), eb_fits_93_r (pbs_fits.old p1)]
  have f_94_r : I3 94 = I 94 := by rw [f2.1 94 (by omega), eb_fits_94_r (pbs_fits.old p1)]
  have f_135_r : I3 135 = I 135 := by rw [ek_fits_135_r (pks_fits.old p2), f1.1 135 (by omega) (by omega)]
  have f_136_r : I3 136 = I 136 := by rw [ek_fits_136_r (pks_fits.old p2), f1.1 136 (by omega) (by omega)]
  exact ⟨(by rw [f_32_10, f_103_0]; exact hr.1), (by rw [f_33_7, f_103_1]; exact hr.2.1), (by rw [f_33_8, f_103_2]; exact hr.2.2.1), (srOk.eq f_33_7 f_33_8 f_34_r f_35_r f_36_r f_37_r f_38_r f_39_r f_104_r f_105_r f_106_r f_107_r f_108_r f_109_r hr.2.2.2.1), (by rw [f_70_5, f_103_25]; exact hr.2.2.2.2.1), (by rw [f_71_r, f_121_r]; exact hr.2.2.2.2.2.1), hq0, (by rw [f_93_r, f_94_r, f_135_r, f_136_r]; exact hr.2.2.2.2.2.2.2)⟩

theorem relq_ways {v0 v1 v2 v3 v4 : Int32} {x y : Int32} {n : Nat} {I I2 I3 : px_I} {L L2 L3 : px_L} {R : px_R} (hj : jJ n I R) (hr : rel I L R) (f1 : frB I I2 L L2) {R2 : px_R} (fR : kR R I2 R2) (p1 : pbs_ways R v0 v1 v2 v3 v4 I L x I2 L2) (f2 : frK I2 I3 L2 L3) (p2 : pks_ways (Zc I R) v0 v1 v2 v3 v4 I2 L2 y I3 L3) : (WY I3 R2) := by
  have h_da : I 32 10 = I 103 0 := hr.1
  have h_st : I 33 7 = I 103 1 := hr.2.1
  have h_si : I 33 8 = I 103 2 := hr.2.2.1
  have h_sr : srOk I := hr.2.2.2.1
  have h_fd : I 70 5 = I 103 25 := hr.2.2.2.2.1
  have h_by : ∀ j : Nat, nb (I 71 j) = nb (I 121 j) := hr.2.2.2.2.2.1
  have h_wy : WY I R := hr.2.2.2.2.2.2.1
  have h_th : ∀ j : Nat, j < 3 → I 93 j = I 135 j ∧ I 94 j = I 136 j := hr.2.2.2.2.2.2.2
  unfold pbs_ways at p1
  unfold pks_ways at p2
  exact WY.ask2 h_wy.Z p1.2.1 p1.1.1 f1 f2 p2.1.1 fR

theorem rele.ways {v0 v1 v2 v3 v4 : Int32} {x y : Int32} {n : Nat} {I I2 I3 : px_I} {L L2 L3 : px_L} {R : px_R} (hj : jJ n I R) (hr : rel I L R) (f1 : frB I I2 L L2) (p1 : pbs_ways R v0 v1 v2 v3 v4 I L x I2 L2) (f2 : frK I2 I3 L2 L3) (p2 : pks_ways (Zc I R) v0 v1 v2 v3 v4 I2 L2 y I3 L3) : x = y := by
  have h_da : I 32 10 = I 103 0 := hr.1
  have h_st : I 33 7 = I 103 1 := hr.2.1
  have h_si : I 33 8 = I 103 2 := hr.2.2.1
  have h_sr : srOk I := hr.2.2.2.1
  have h_fd : I 70 5 = I 103 25 := hr.2.2.2.2.1
  have h_by : ∀ j : Nat, nb (I 71 j) = nb (I 121 j) := hr.2.2.2.2.2.1
  have h_wy : WY I R := hr.2.2.2.2.2.2.1
  have h_th : ∀ j : Nat, j < 3 → I 93 j = I 135 j ∧ I 94 j = I 136 j := hr.2.2.2.2.2.2.2
  unfold pbs_ways at p1
  unfold pks_ways at p2
  have cr : ∀ b, 103 ≤ b → b < 147 → I2 b = I b := f1.1
  have hrow : ∀ i : Nat, i < (I 33 8).toNatClampNeg → I 34 i = I2 104 i ∧ I 35 i = I2 105 i ∧ I 36 i = I2 106 i ∧ I 37 i = I2 107 i ∧ I 38 i = I2 108 i ∧ I 39 i = I2 109 i := by
    rw [cr 104 (by omega) (by omega), cr 105 (by omega) (by omega), cr 106 (by omega) (by omega), cr 107 (by omega) (by omega), cr 108 (by omega) (by omega), cr 109 (by omega) (by omega)]
    exact h_sr.1
  have h7 : I 33 7 = I2 103 1 := by rw [cr 103 (by omega) (by omega)]; exact h_st
  have h8 : I 33 8 = I2 103 2 := by rw [cr 103 (by omega) (by omega)]; exact h_si
  have hG : ∀ a k w, cGd I a k w ↔ mGd I2 a k w := fun a k w => cmG hrow h7 h8 a k w
  have p1 := p1.2
  have p2 := p2.2
  have e0 : I 32 10 = I2 103 0 := by rw [cr 103 (by omega) (by omega)]; exact h_da
  have eT : ∀ k, k < 5 → cTl I k = tR I2 k := fun k hk => by
    rw [h_wy.Z.2.2.2.2 k hk]
    show I 103 (47 + k) = I2 103 (47 + k)
    rw [cr 103 (by omega) (by omega)]
  have eG : ∀ f t x h, gC I x f t (I 32 10) h = gR I2 x f t (I2 103 0) h := fun f t x h => by
    unfold gC gR
    rw [e0]
    exact gP_c (hG _ _ _) (by rw [cmD hrow h7 h8])
  have e3 : ∀ k : Nat, k < 3 → I 93 k = I2 135 k := fun k hk => by rw [cr 135 (by omega) (by omega)]; exact (h_th k hk).1
  have e4 : ∀ k : Nat, k < 3 → I 94 k = I2 136 k := fun k hk => by rw [cr 136 (by omega) (by omega)]; exact (h_th k hk).2
  rw [p1.2, p2]
  unfold cWs kWs
  have s7 : 1 ≤ I 33 7 ∧ I 33 7 ≤ 24 := hj.s.1
  rw [← h7]
  by_cases hm : ((0 ≤ v0 ∧ v0 ≤ 15) ∧ (0 ≤ v2 ∧ v2 ≤ 15) ∧ (0 ≤ v4 ∧ v4 ≤ 2)) ∧ (0 ≤ v1 ∧ v1 < I 33 7) ∧ (0 ≤ v3 ∧ v3 < I 33 7)
  · rw [jjN_t hm, jjN_t ⟨hm.1.1, hm.1.2.1, by grind, by grind, hm.1.2.2⟩]
    exact ways_eq h_wy.Z f1 h7 hj.s h_sr.2 hm.1.1 hm.1.2.1 hm.2.1 hm.2.2 e0 (eG _ _) eT e3 e4
  · rw [jjN_f hm, jjN_f (fun z => hm ⟨⟨z.1, z.2.1, z.2.2.2.2⟩, by grind, by grind⟩)]

theorem rel.ways {v0 v1 v2 v3 v4 : Int32} {x y : Int32} {n : Nat} {I I2 I3 : px_I} {L L2 L3 : px_L} {R : px_R} (hj : jJ n I R) (hr : rel I L R) (f1 : frB I I2 L L2) {R2 : px_R} (fR : kR R I2 R2) (p1 : pbs_ways R v0 v1 v2 v3 v4 I L x I2 L2) (f2 : frK I2 I3 L2 L3) (p2 : pks_ways (Zc I R) v0 v1 v2 v3 v4 I2 L2 y I3 L3) : x = y ∧ rel I3 L3 R2 := by
  have hq0 := relq_ways hj hr f1 fR p1 f2 p2
  have f_32_10 : I3 32 10 = I 32 10 := by rw [f2.1 32 (by omega), eb_ways_32_10 (pbs_ways.old p1)]
  have f_103_0 : I3 103 0 = I 103 0 := by rw [ek_ways_103_0 (pks_ways.old p2), f1.1 103 (by omega) (by omega)]
  have f_33_7 : I3 33 7 = I 33 7 := by rw [f2.1 33 (by omega), eb_ways_33_7 (pbs_ways.old p1)]
  have f_103_1 : I3 103 1 = I 103 1 := by rw [ek_ways_103_1 (pks_ways.old p2), f1.1 103 (by omega) (by omega)]
  have f_33_8 : I3 33 8 = I 33 8 := by rw [f2.1 33 (by omega), eb_ways_33_8 (pbs_ways.old p1)]
  have f_103_2 : I3 103 2 = I 103 2 := by rw [ek_ways_103_2 (pks_ways.old p2), f1.1 103 (by omega) (by omega)]
  have f_34_r : I3 34 = I 34 := by rw [f2.1 34 (by omega), eb_ways_34_r (pbs_ways.old p1)]
  have f_35_r : I3 35 = I 35 := by rw [f2.1 35 (by omega), eb_ways_35_r (pbs_ways.old p1)]
  have f_36_r : I3 36 = I 36 := by rw [f2.1 36 (by omega), eb_ways_36_r (pbs_ways.old p1)]
  have f_37_r : I3 37 = I 37 := by rw [f2.1 37 (by omega), eb_ways_37_r (pbs_ways.old p1)]
  have f_38_r : I3 38 = I 38 := by rw [f2.1 38 (by omega), eb_ways_38_r (pbs_ways.old p1)]
  have f_39_r : I3 39 = I 39 := by rw [f2.1 39 (by omega), eb_ways_39_r (pbs_ways.old p1)]
  have f_104_r : I3 104 = I 104 := by rw [ek_ways_104_r (pks_ways.old p2), f1.1 104 (by omega) (by omega)]
  have f_105_r : I3 105 = I 105 := by rw [ek_ways_105_r (pks_ways.old p2), f1.1 105 (by omega) (by omega)]
  have f_106_r : I3 106 = I 106 := by rw [ek_ways_106_r (pks_ways.old p2), f1.1 106 (by omega) (by omega)]
  have f_107_r : I3 107 = I 107 := by rw [ek_ways_107_r (pks_ways.old p2), f1.1 107 (by omega) (by omega)]
  have f_108_r : I3 108 = I 108 := by rw [ek_ways_108_r (pks_ways.old p2), f1.1 108 (by omega) (by omega)]
  have f_109_r : I3 109 = I 109 := by rw [ek_ways_109_r (pks_ways.old p2), f1.1 109 (by omega) (by omega)]
  have f_70_5 : I3 70 5 = I 70 5 := by rw [f2.1 70 (by omega), eb_ways_70_5 (pbs_ways.old p1)]
  have f_103_25 : I3 103 25 = I 103 25 := by rw [ek_ways_103_25 (pks_ways.old p2), f1.1 103 (by omega) (by omega)]
  have f_71_r : I3 71 = I 71 := by rw [f2.1 71 (by omega), eb_ways_71_r (pbs_ways.old p1)]
  have f_121_r : I3 121 = I 121 := by rw [ek_ways_121_r (pks_ways.old p2), f1.1 121 (by omega) (by omega)]
  have f_93_r : I3 93 = I 93 := by rw [f2.1 93 (by omega), eb_ways_93_r (pbs_ways.old p1)]
  have f_94_r : I3 94 = I 94 := by rw [f2.1 94 (by omega), eb_ways_94_r (pbs_ways.old p1)]
  have f_135_r : I3 135 = I 135 := by rw [ek_ways_135_r (pks_ways.old p2), f1.1 135 (by omega) (by omega)]
  have f_136_r : I3 136 = I 136 := by rw [ek_ways_136_r (pks_ways.old p2), f1.1 136 (by omega) (by omega)]
  exact ⟨rele.ways hj hr f1 p1 f2 p2, ⟨(by rw [f_32_10, f_103_0]; exact hr.1), (by rw [f_33_7, f_103_1]; exact hr.2.1), (by rw [f_33_8, f_103_2]; exact hr.2.2.1), (srOk.eq f_33_7 f_33_8 f_34_r f_35_r f_36_r f_37_r f_38_r f_39_r f_104_r f_105_r f_106_r f_107_r f_108_r f_109_r hr.2.2.2.1), (by rw [f_70_5, f_103_25]; exact hr.2.2.2.2.1), (by rw [f_71_r, f_121_r]; exact hr.2.2.2.2.2.1), hq0, (by rw [f_93_r, f_94_r, f_135_r, f_136_r]; exact hr.2.2.2.2.2.2.2)⟩⟩

theorem rel.seek {v0 v1 v2 v3 v4 v5 : Int32} {x y : Int32} {n : Nat} {I I2 I3 : px_I} {L L2 L3 : px_L} {R : px_R} (hj : jJ n I R) (hr : rel I L R) (f1 : frB I I2 L L2) {R2 : px_R} (fR : kR R I2 R2) (p1 : pb_seek v0 v1 v2 v3 v4 v5 I L x I2 L2) (f2 : frK I2 I3 L2 L3) (p2 : pk_seek v0 v1 v2 v3 v4 v5 I2 L2 y I3 L3) : rel I3 L3 R2 := by
  have f_32_10 : I3 32 10 = I 32 10 := by rw [f2.1 32 (by omega), eb_seek_32_10 p1]
  have f_103_0 : I3 103 0 = I 103 0 := by rw [ek_seek_103_0 p2, f1.1 103 (by omega) (by omega)]
  have f_33_7 : I3 33 7 = I 33 7 := by rw [f2.1 33 (by omega), eb_seek_33_7 p1]
  have f_103_1 : I3 103 1 = I 103 1 := by rw [ek_seek_103_1 p2, f1.1 103 (by omega) (by omega)]
  have f_33_8 : I3 33 8 = I 33 8 := by rw [f2.1 33 (by omega), eb_seek_33_8 p1]
  have f_103_2 : I3 103 2 = I 103 2 := by rw [ek_seek_103_2 p2, f1.1 103 (by omega) (by omega)]
  have f_34_r : I3 34 = I 34 := by rw [f2.1 34 (by omega), eb_seek_34_r p1]
  have f_35_r : I3 35 = I 35 := by rw [f2.1 35 (by omega), eb_seek_35_r p1]
  have f_36_r : I3 36 = I 36 := by rw [f2.1 36 (by omega), eb_seek_36_r p1]
  have f_37_r : I3 37 = I 37 := by rw [f2.1 37 (by omega), eb_seek_37_r p1]
  have f_38_r : I3 38 = I 38 := by rw [f2.1 38 (by omega), eb_seek_38_r p1]
  have f_39_r : I3 39 = I 39 := by rw [f2.1 39 (by omega), eb_seek_39_r p1]
  have f_104_r : I3 104 = I 104 := by rw [ek_seek_104_r p2, f1.1 104 (by omega) (by omega)]
  have f_105_r : I3 105 = I 105 := by rw [ek_seek_105_r p2, f1.1 105 (by omega) (by omega)]
  have f_106_r : I3 106 = I 106 := by rw [ek_seek_106_r p2, f1.1 106 (by omega) (by omega)]
  have f_107_r : I3 107 = I 107 := by rw [ek_seek_107_r p2, f1.1 107 (by omega) (by omega)]
  have f_108_r : I3 108 = I 108 := by rw [ek_seek_108_r p2, f1.1 108 (by omega) (by omega)]
  have f_109_r : I3 109 = I 109 := by rw [ek_seek_109_r p2, f1.1 109 (by omega) (by omega)]
  have f_70_5 : I3 70 5 = I 70 5 := by rw [f2.1 70 (by omega), eb_seek_70_5 p1]
  have f_103_25 : I3 103 25 = I 103 25 := by rw [ek_seek_103_25 p2, f1.1 103 (by omega) (by omega)]
  have f_71_r : I3 71 = I 71 := by rw [f2.1 71 (by omega), eb_seek_71_r p1]
  have f_121_r : I3 121 = I 121 := by rw [ek_seek_121_r p2, f1.1 121 (by omega) (by omega)]
  have f_90_r : I3 90 = I 90 := by rw [f2.1 90 (by omega), eb_seek_90_r p1]
  have f_91_r : I3 91 = I 91 := by rw [f2.1 91 (by omega), eb_seek_91_r p1]
  have f_86_3 : I3 86 3 = I 86 3 := by rw [f2.1 86 (by omega), eb_seek_86_3 p1]
  have f_86_4 : I3 86 4 = I 86 4 := by rw [f2.1 86 (by omega), eb_seek_86_4 p1]
  have f_86_5 : I3 86 5 = I 86 5 := by rw [f2.1 86 (by omega), eb_seek_86_5 p1]
  have f_86_6 : I3 86 6 = I 86 6 := by rw [f2.1 86 (by omega), eb_seek_86_6 p1]
  have f_86_7 : I3 86 7 = I 86 7 := by rw [f2.1 86 (by omega), eb_seek_86_7 p1]
  have f_9999_r : ∀ b, ((77 ≤ b ∧ b ≤ 79) ∨ 147 ≤ b) → I3 b = I b := fun b hb => by rw [f2.1 b (by omega), eb_seek_9999_r p1 b hb]
  have f_129_r : I3 129 = I 129 := by rw [ek_seek_129_r p2, f1.1 129 (by omega) (by omega)]
  have f_130_r : I3 130 = I 130 := by rw [ek_seek_130_r p2, f1.1 130 (by omega) (by omega)]
  have f_131_r : I3 131 = I 131 := by rw [ek_seek_131_r p2, f1.1 131 (by omega) (by omega)]
  have f_103_47 : I3 103 47 = I 103 47 := by rw [ek_seek_103_47 p2, f1.1 103 (by omega) (by omega)]
  have f_103_48 : I3 103 48 = I 103 48 := by rw [ek_seek_103_48 p2, f1.1 103 (by omega) (by omega)]
  have f_103_49 : I3 103 49 = I 103 49 := by rw [ek_seek_103_49 p2, f1.1 103 (by omega) (by omega)]
  have f_103_50 : I3 103 50 = I 103 50 := by rw [ek_seek_103_50 p2, f1.1 103 (by omega) (by omega)]
  have f_103_51 : I3 103 51 = I 103 51 := by rw [ek_seek_103_51 p2, f1.1 103 (by omega) (by omega)]
  have f_93_r : I3 93 = I 93 := by rw [f2.1 93 (by omega), eb_seek_93_r p1]
  have f_94_r : I3 94 = I 94 := by rw [f2.1 94 (by omega), eb_seek_94_r p1]
  have f_135_r : I3 135 = I 135 := by rw [ek_seek_135_r p2, f1.1 135 (by omega) (by omega)]
  have f_136_r : I3 136 = I 136 := by rw [ek_seek_136_r p2, f1.1 136 (by omega) (by omega)]
  exact ⟨(by rw [f_32_10, f_103_0]; exact hr.1), (by rw [f_33_7, f_103_1]; exact hr.2.1), (by rw [f_33_8, f_103_2]; exact hr.2.2.1), (srOk.eq f_33_7 f_33_8 f_34_r f_35_r f_36_r f_37_r f_38_r f_39_r f_104_r f_105_r f_106_r f_107_r f_108_r f_109_r hr.2.2.2.1), (by rw [f_70_5, f_103_25]; exact hr.2.2.2.2.1), (by rw [f_71_r, f_121_r]; exact hr.2.2.2.2.2.1), (wy_eq f_90_r f_91_r f_86_3 f_86_4 f_86_5 f_86_6 f_86_7 f_9999_r f_129_r f_130_r f_131_r f_103_47 f_103_48 f_103_49 f_103_50 f_103_51 fR hr.2.2.2.2.2.2.1), (by rw [f_93_r, f_94_r, f_135_r, f_136_r]; exact hr.2.2.2.2.2.2.2)⟩

theorem rel.chance {n : Nat} {I I2 I3 : px_I} {L L2 L3 : px_L} {R : px_R} (hj : jJ n I R) (hr : rel I L R) (f1 : frB I I2 L L2) {R2 : px_R} (fR : kR R I2 R2) (p1 : I2 = I ∧ cSL L L2) (f2 : frK I2 I3 L2 L3) (p2 : I3 = I2 ∧ mNL L2 L3) : rel I3 L3 R2 := by
  have f_32_10 : I3 32 10 = I 32 10 := by rw [f2.1 32 (by omega), p1.1]
  have f_103_0 : I3 103 0 = I 103 0 := by rw [p2.1, f1.1 103 (by omega) (by omega)]
  have f_33_7 : I3 33 7 = I 33 7 := by rw [f2.1 33 (by omega), p1.1]
  have f_103_1 : I3 103 1 = I 103 1 := by rw [p2.1, f1.1 103 (by omega) (by omega)]
  have f_33_8 : I3 33 8 = I 33 8 := by rw [f2.1 33 (by omega), p1.1]
  have f_103_2 : I3 103 2 = I 103 2 := by rw [p2.1, f1.1 103 (by omega) (by omega)]
  have f_34_r : I3 34 = I 34 := by rw [f2.1 34 (by omega), p1.1]
  have f_35_r : I3 35 = I 35 := by rw [f2.1 35 (by omega), p1.1]
  have f_36_r : I3 36 = I 36 := by rw [f2.1 36 (by omega), p1.1]
  have f_37_r : I3 37 = I 37 := by rw [f2.1 37 (by omega), p1.1]
  have f_38_r : I3 38 = I 38 := by rw [f2.1 38 (by omega), p1.1]
  have f_39_r : I3 39 = I 39 := by rw [f2.1 39 (by omega), p1.1]
  have f_104_r : I3 104 = I 104 := by rw [p2.1, f1.1 104 (by omega) (by omega)]
  have f_105_r : I3 105 = I 105 := by rw [p2.1, f1.1 105 (by omega) (by omega)]
  have f_106_r : I3 106 = I 106 := by rw [p2.1, f1.1 106 (by omega) (by omega)]
  have f_107_r : I3 107 = I 107 := by rw [p2.1, f1.1 107 (by omega) (by omega)]
  have f_108_r : I3 108 = I 108 := by rw [p2.1, f1.1 108 (by omega) (by omega)]
  have f_109_r : I3 109 = I 109 := by rw [p2.1, f1.1 109 (by omega) (by omega)]
  have f_70_5 : I3 70 5 = I 70 5 := by rw [f2.1 70 (by omega), p1.1]
  have f_103_25 : I3 103 25 = I 103 25 := by rw [p2.1, f1.1 103 (by omega) (by omega)]
  have f_71_r : I3 71 = I 71 := by rw [f2.1 71 (by omega), p1.1]
  have f_121_r : I3 121 = I 121 := by rw [p2.1, f1.1 121 (by omega) (by omega)]
  have f_90_r : I3 90 = I 90 := by rw [f2.1 90 (by omega), p1.1]
  have f_91_r : I3 91 = I 91 := by rw [f2.1 91 (by omega), p1.1]
  have f_86_3 : I3 86 3 = I 86 3 := by rw [f2.1 86 (by omega), p1.1]
  have f_86_4 : I3 86 4 = I 86 4 := by rw [f2.1 86 (by omega), p1.1]
  have f_86_5 : I3 86 5 = I 86 5 := by rw [f2.1 86 (by omega), p1.1]
  have f_86_6 : I3 86 6 = I 86 6 := by rw [f2.1 86 (by omega), p1.1]
  have f_86_7 : I3 86 7 = I 86 7 := by rw [f2.1 86 (by omega), p1.1]
  have f_9999_r : ∀ b, ((77 ≤ b ∧ b ≤ 79) ∨ 147 ≤ b) → I3 b = I b := fun b hb => by rw [f2.1 b (by omega), p1.1]
  have f_129_r : I3 129 = I 129 := by rw [p2.1, f1.1 129 (by omega) (by omega)]
  have f_130_r : I3 130 = I 130 := by rw [p2.1, f1.1 130 (by omega) (by omega)]
  have f_131_r : I3 131 = I 131 := by rw [p2.1, f1.1 131 (by omega) (by omega)]
  have f_103_47 : I3 103 47 = I 103 47 := by rw [p2.1, f1.1 103 (by omega) (by omega)]
  have f_103_48 : I3 103 48 = I 103 48 := by rw [p2.1, f1.1 103 (by omega) (by omega)]
  have f_103_49 : I3 103 49 = I 103 49 := by rw [p2.1, f1.1 103 (by omega) (by omega)]
  have f_103_50 : I3 103 50 = I 103 50 := by rw [p2.1, f1.1 103 (by omega) (by omega)]
  have f_103_51 : I3 103 51 = I 103 51 := by rw [p2.1, f1.1 103 (by omega) (by omega)]
  have f_93_r : I3 93 = I 93 := by rw [f2.1 93 (by omega), p1.1]
  have f_94_r : I3 94 = I 94 := by rw [f2.1 94 (by omega), p1.1]
  have f_135_r : I3 135 = I 135 := by rw [p2.1, f1.1 135 (by omega) (by omega)]
  have f_136_r : I3 136 = I 136 := by rw [p2.1, f1.1 136 (by omega) (by omega)]
  exact ⟨(by rw [f_32_10, f_103_0]; exact hr.1), (by rw [f_33_7, f_103_1]; exact hr.2.1), (by rw [f_33_8, f_103_2]; exact hr.2.2.1), (srOk.eq f_33_7 f_33_8 f_34_r f_35_r f_36_r f_37_r f_38_r f_39_r f_104_r f_105_r f_106_r f_107_r f_108_r f_109_r hr.2.2.2.1), (by rw [f_70_5, f_103_25]; exact hr.2.2.2.2.1), (by rw [f_71_r, f_121_r]; exact hr.2.2.2.2.2.1), (wy_eq f_90_r f_91_r f_86_3 f_86_4 f_86_5 f_86_6 f_86_7 f_9999_r f_129_r f_130_r f_131_r f_103_47 f_103_48 f_103_49 f_103_50 f_103_51 fR hr.2.2.2.2.2.2.1), (by rw [f_93_r, f_94_r, f_135_r, f_136_r]; exact hr.2.2.2.2.2.2.2)⟩

theorem rel.detour {v0 v1 v2 : Int32} {x y : Int32} {n : Nat} {I I2 I3 : px_I} {L L2 L3 : px_L} {R : px_R} (hj : jJ n I R) (hr : rel I L R) (f1 : frB I I2 L L2) {R2 : px_R} (fR : kR R I2 R2) (p1 : pb_detour v0 v1 v2 I L x I2 L2) (f2 : frK I2 I3 L2 L3) (p2 : pk_detour v0 v1 v2 I2 L2 y I3 L3) : rel I3 L3 R2 := by
  have f_32_10 : I3 32 10 = I 32 10 := by rw [f2.1 32 (by omega), eb_detour_32_10 p1]
  have f_103_0 : I3 103 0 = I 103 0 := by rw [ek_detour_103_0 p2, f1.1 103 (by omega) (by omega)]
  have f_33_7 : I3 33 7 = I 33 7 := by rw [f2.1 33 (by omega), eb_detour_33_7 p1]
  have f_103_1 : I3 103 1 = I 103 1 := by rw [ek_detour_103_1 p2, f1.1 103 (by omega) (by omega)]
  have f_33_8 : I3 33 8 = I 33 8 := by rw [f2.1 33 (by omega), eb_detour_33_8 p1]
  have f_103_2 : I3 103 2 = I 103 2 := by rw [ek_detour_103_2 p2, f1.1 103 (by omega) (by omega)]
  have f_34_r : I3 34 = I 34 := by rw [f2.1 34 (by omega), eb_detour_34_r p1]
  have f_35_r : I3 35 = I 35 := by rw [f2.1 35 (by omega), eb_detour_35_r p1]
  have f_36_r : I3 36 = I 36 := by rw [f2.1 36 (by omega), eb_detour_36_r p1]
  have f_37_r : I3 37 = I 37 := by rw [f2.1 37 (by omega), eb_detour_37_r p1]
  have f_38_r : I3 38 = I 38 := by rw [f2.1 38 (by omega), eb_detour_38_r p1]
  have f_39_r : I3 39 = I 39 := by rw [f2.1 39 (by omega), eb_detour_39_r p1]
  have f_104_r : I3 104 = I 104 := by rw [ek_detour_104_r p2, f1.1 104 (by omega) (by omega)]
  have f_105_r : I3 105 = I 105 := by rw [ek_detour_105_r p2, f1.1 105 (by omega) (by omega)]
  have f_106_r : I3 106 = I 106 := by rw [ek_detour_106_r p2, f1.1 106 (by omega) (by omega)]
  have f_107_r : I3 107 = I 107 := by rw [ek_detour_107_r p2, f1.1 107 (by omega) (by omega)]
  have f_108_r : I3 108 = I 108 := by rw [ek_detour_108_r p2, f1.1 108 (by omega) (by omega)]
  have f_109_r : I3 109 = I 109 := by rw [ek_detour_109_r p2, f1.1 109 (by omega) (by omega)]
  have f_70_5 : I3 70 5 = I 70 5 := by rw [f2.1 70 (by omega), eb_detour_70_5 p1]
  have f_103_25 : I3 103 25 = I 103 25 := by rw [ek_detour_103_25 p2, f1.1 103 (by omega) (by omega)]
  have f_71_r : I3 71 = I 71 := by rw [f2.1 71 (by omega), eb_detour_71_r p1]
  have f_121_r : I3 121 = I 121 := by rw [ek_detour_121_r p2, f1.1 121 (by omega) (by omega)]
  have f_90_r : I3 90 = I 90 := by rw [f2.1 90 (by omega), eb_detour_90_r p1]
  have f_91_r : I3 91 = I 91 := by rw [f2.1 91 (by omega), eb_detour_91_r p1]
  have f_86_3 : I3 86 3 = I 86 3 := by rw [f2.1 86 (by omega), eb_detour_86_3 p1]
  have f_86_4 : I3 86 4 = I 86 4 := by rw [f2.1 86 (by omega), eb_detour_86_4 p1]
  have f_86_5 : I3 86 5 = I 86 5 := by rw [f2.1 86 (by omega), eb_detour_86_5 p1]
  have f_86_6 : I3 86 6 = I 86 6 := by rw [f2.1 86 (by omega), eb_detour_86_6 p1]
  have f_86_7 : I3 86 7 = I 86 7 := by rw [f2.1 86 (by omega), eb_detour_86_7 p1]
  have f_9999_r : ∀ b, ((77 ≤ b ∧ b ≤ 79) ∨ 147 ≤ b) → I3 b = I b := fun b hb => by rw [f2.1 b (by omega), eb_detour_9999_r p1 b hb]
  have f_129_r : I3 129 = I 129 := by rw [ek_detour_129_r p2, f1.1 129 (by omega) (by omega)]
  have f_130_r : I3 130 = I 130 := by rw [ek_detour_130_r p2, f1.1 130 (by omega) (by omega)]
  have f_131_r : I3 131 = I 131 := by rw [ek_detour_131_r p2, f1.1 131 (by omega) (by omega)]
  have f_103_47 : I3 103 47 = I 103 47 := by rw [ek_detour_103_47 p2, f1.1 103 (by omega) (by omega)]
  have f_103_48 : I3 103 48 = I 103 48 := by rw [ek_detour_103_48 p2, f1.1 103 (by omega) (by omega)]
  have f_103_49 : I3 103 49 = I 103 49 := by rw [ek_detour_103_49 p2, f1.1 103 (by omega) (by omega)]
  have f_103_50 : I3 103 50 = I 103 50 := by rw [ek_detour_103_50 p2, f1.1 103 (by omega) (by omega)]
  have f_103_51 : I3 103 51 = I 103 51 := by rw [ek_detour_103_51 p2, f1.1 103 (by omega) (by omega)]
  have f_93_r : I3 93 = I 93 := by rw [f2.1 93 (by omega), eb_detour_93_r p1]
  have f_94_r : I3 94 = I 94 := by rw [f2.1 94 (by omega), eb_detour_94_r p1]
  have f_135_r : I3 135 = I 135 := by rw [ek_detour_135_r p2, f1.1 135 (by omega) (by omega)]
  have f_136_r : I3 136 = I 136 := by rw [ek_detour_136_r p2, f1.1 136 (by omega) (by omega)]
  exact ⟨(by rw [f_32_10, f_103_0]; exact hr.1), (by rw [f_33_7, f_103_1]; exact hr.2.1), (by rw [f_33_8, f_103_2]; exact hr.2.2.1), (srOk.eq f_33_7 f_33_8 f_34_r f_35_r f_36_r f_37_r f_38_r f_39_r f_104_r f_105_r f_106_r f_107_r f_108_r f_109_r hr.2.2.2.1), (by rw [f_70_5, f_103_25]; exact hr.2.2.2.2.1), (by rw [f_71_r, f_121_r]; exact hr.2.2.2.2.2.1), (wy_eq f_90_r f_91_r f_86_3 f_86_4 f_86_5 f_86_6 f_86_7 f_9999_r f_129_r f_130_r f_131_r f_103_47 f_103_48 f_103_49 f_103_50 f_103_51 fR hr.2.2.2.2.2.2.1), (by rw [f_93_r, f_94_r, f_135_r, f_136_r]; exact hr.2.2.2.2.2.2.2)⟩

theorem rel.table {v0 v1 : Int32} {x y : Int32} {n : Nat} {I I2 I3 : px_I} {L L2 L3 : px_L} {R : px_R} (hj : jJ n I R) (hr : rel I L R) (f1 : frB I I2 L L2) {R2 : px_R} (fR : kR R I2 R2) (p1 : pb_table v0 v1 I L x I2 L2) (f2 : frK I2 I3 L2 L3) (p2 : pk_table v0 v1 I2 L2 y I3 L3) : rel I3 L3 R2 := by
  have f_32_10 : I3 32 10 = I 32 10 := by rw [f2.1 32 (by omega), eb_table_32_10 p1]
  have f_103_0 : I3 103 0 = I 103 0 := by rw [ek_table_103_0 p2, f1.1 103 (by omega) (by omega)]
  have f_33_7 : I3 33 7 = I 33 7 := by rw [f2.1 33 (by omega), eb_table_33_7 p1]
  have f_103_1 : I3 103 1 = I 103 1 := by rw [ek_table_103_1 p2, f1.1 103 (by omega) (by omega)]
  have f_33_8 : I3 33 8 = I 33 8 := by rw [f2.1 33 (by omega), eb_table_33_8 p1]
  have f_103_2 : I3 103 2 = I 103 2 := by rw [ek_table_103_2 p2, f1.1 103 (by omega) (by omega)]
  have f_34_r : I3 34 = I 34 := by rw [f2.1 34 (by omega), eb_table_34_r p1]
  have f_35_r : I3 35 = I 35 := by rw [f2.1 35 (by omega), eb_table_35_r p1]
  have f_36_r : I3 36 = I 36 := by rw [f2.1 36 (by omega), eb_table_36_r p1]
  have f_37_r : I3 37 = I 37 := by rw [f2.1 37 (by omega), eb_table_37_r p1]
  have f_38_r : I3 38 = I 38 := by rw [f2.1 38 (by omega), eb_table_38_r p1]
  have f_39_r : I3 39 = I 39 := by rw [f2.1 39 (by omega), eb_table_39_r p1]
  have f_104_r : I3 104 = I 104 := by rw [ek_table_104_r p2, f1.1 104 (by omega) (by omega)]
  have f_105_r : I3 105 = I 105 := by rw [ek_table_105_r p2, f1.1 105 (by omega) (by omega)]
  have f_106_r : I3 106 = I 106 := by rw [ek_table_106_r p2, f1.1 106 (by omega) (by omega)]
  have f_107_r : I3 107 = I 107 := by rw [ek_table_107_r p2, f1.1 107 (by omega) (by omega)]
  have f_108_r : I3 108 = I 108 := by rw [ek_table_108_r p2, f1.1 108 (by omega) (by omega)]
  have f_109_r : I3 109 = I 109 := by rw [ek_table_109_r p2, f1.1 109 (by omega) (by omega)]
  have f_70_5 : I3 70 5 = I 70 5 := by rw [f2.1 70 (by omega), eb_table_70_5 p1]
  have f_103_25 : I3 103 25 = I 103 25 := by rw [ek_table_103_25 p2, f1.1 103 (by omega) (by omega)]
  have f_71_r : I3 71 = I 71 := by rw [f2.1 71 (by omega), eb_table_71_r p1]
  have f_121_r : I3 121 = I 121 := by rw [ek_table_121_r p2, f1.1 121 (by omega) (by omega)]
  have f_90_r : I3 90 = I 90 := by rw [f2.1 90 (by omega), eb_table_90_r p1]
  have f_91_r : I3 91 = I 91 := by rw [f2.1 91 (by omega), eb_table_91_r p1]
  have f_86_3 : I3 86 3 = I 86 3 := by rw [f2.1 86 (by omega), eb_table_86_3 p1]
  have f_86_4 : I3 86 4 = I 86 4 := by rw [f2.1 86 (by omega), eb_table_86_4 p1]
  have f_86_5 : I3 86 5 = I 86 5 := by rw [f2.1 86 (by omega), eb_table_86_5 p1]
  have f_86_6 : I3 86 6 = I 86 6 := by rw [f2.1 86 (by omega), eb_table_86_6 p1]
  have f_86_7 : I3 86 7 = I 86 7 := by rw [f2.1 86 (by omega), eb_table_86_7 p1]
  have f_9999_r : ∀ b, ((77 ≤ b ∧ b ≤ 79) ∨ 147 ≤ b) → I3 b = I b := fun b hb => by rw [f2.1 b (by omega), eb_table_9999_r p1 b hb]
  have f_129_r : I3 129 = I 129 := by rw [ek_table_129_r p2, f1.1 129 (by omega) (by omega)]
  have f_130_r : I3 130 = I 130 := by rw [ek_table_130_r p2, f1.1 130 (by omega) (by omega)]
  have f_131_r : I3 131 = I 131 := by rw [ek_table_131_r p2, f1.1 131 (by omega) (by omega)]
  have f_103_47 : I3 103 47 = I 103 47 := by rw [ek_table_103_47 p2, f1.1 103 (by omega) (by omega)]
  have f_103_48 : I3 103 48 = I 103 48 := by rw [ek_table_103_48 p2, f1.1 103 (by omega) (by omega)]
  have f_103_49 : I3 103 49 = I 103 49 := by rw [ek_table_103_49 p2, f1.1 103 (by omega) (by omega)]
  have f_103_50 : I3 103 50 = I 103 50 := by rw [ek_table_103_50 p2, f1.1 103 (by omega) (by omega)]
  have f_103_51 : I3 103 51 = I 103 51 := by rw [ek_table_103_51 p2, f1.1 103 (by omega) (by omega)]
  have f_93_r : I3 93 = I 93 := by rw [f2.1 93 (by omega), eb_table_93_r p1]
  have f_94_r : I3 94 = I 94 := by rw [f2.1 94 (by omega), eb_table_94_r p1]
  have f_135_r : I3 135 = I 135 := by rw [ek_table_135_r p2, f1.1 135 (by omega) (by omega)]
  have f_136_r : I3 136 = I 136 := by rw [ek_table_136_r p2, f1.1 136 (by omega) (by omega)]
  exact ⟨(by rw [f_32_10, f_103_0]; exact hr.1), (by rw [f_33_7, f_103_1]; exact hr.2.1), (by rw [f_33_8, f_103_2]; exact hr.2.2.1), (srOk.eq f_33_7 f_33_8 f_34_r f_35_r f_36_r f_37_r f_38_r f_39_r f_104_r f_105_r f_106_r f_107_r f_108_r f_109_r hr.2.2.2.1), (by rw [f_70_5, f_103_25]; exact hr.2.2.2.2.1), (by rw [f_71_r, f_121_r]; exact hr.2.2.2.2.2.1), (wy_eq f_90_r f_91_r f_86_3 f_86_4 f_86_5 f_86_6 f_86_7 f_9999_r f_129_r f_130_r f_131_r f_103_47 f_103_48 f_103_49 f_103_50 f_103_51 fR hr.2.2.2.2.2.2.1), (by rw [f_93_r, f_94_r, f_135_r, f_136_r]; exact hr.2.2.2.2.2.2.2)⟩

theorem rel.repair {v0 v1 v2 : Int32} {x y : Int32} {n : Nat} {I I2 I3 : px_I} {L L2 L3 : px_L} {R : px_R} (hj : jJ n I R) (hr : rel I L R) (f1 : frB I I2 L L2) {R2 : px_R} (fR : kR R I2 R2) (p1 : pb_repair v0 v1 v2 I L x I2 L2) (f2 : frK I2 I3 L2 L3) (p2 : pk_repair v0 v1 v2 I2 L2 y I3 L3) : rel I3 L3 R2 := by
  have f_32_10 : I3 32 10 = I 32 10 := by rw [f2.1 32 (by omega), eb_repair_32_10 p1]
  have f_103_0 : I3 103 0 = I 103 0 := by rw [ek_repair_103_0 p2, f1.1 103 (by omega) (by omega)]
  have f_33_7 : I3 33 7 = I 33 7 := by rw [f2.1 33 (by omega), eb_repair_33_7 p1]
  have f_103_1 : I3 103 1 = I 103 1 := by rw [ek_repair_103_1 p2, f1.1 103 (by omega) (by omega)]
  have f_33_8 : I3 33 8 = I 33 8 := by rw [f2.1 33 (by omega), eb_repair_33_8 p1]
  have f_103_2 : I3 103 2 = I 103 2 := by rw [ek_repair_103_2 p2, f1.1 103 (by omega) (by omega)]
  have f_34_r : I3 34 = I 34 := by rw [f2.1 34 (by omega), eb_repair_34_r p1]
  have f_35_r : I3 35 = I 35 := by rw [f2.1 35 (by omega), eb_repair_35_r p1]
  have f_36_r : I3 36 = I 36 := by rw [f2.1 36 (by omega), eb_repair_36_r p1]
  have f_37_r : I3 37 = I 37 := by rw [f2.1 37 (by omega), eb_repair_37_r p1]
  have f_38_r : I3 38 = I 38 := by rw [f2.1 38 (by omega), eb_repair_38_r p1]
  have f_39_r : I3 39 = I 39 := by rw [f2.1 39 (by omega), eb_repair_39_r p1]
  have f_104_r : I3 104 = I 104 := by rw [ek_repair_104_r p2, f1.1 104 (by omega) (by omega)]
  have f_105_r : I3 105 = I 105 := by rw [ek_repair_105_r p2, f1.1 105 (by omega) (by omega)]
  have f_106_r : I3 106 = I 106 := by rw [ek_repair_106_r p2, f1.1 106 (by omega) (by omega)]
  have f_107_r : I3 107 = I 107 := by rw [ek_repair_107_r p2, f1.1 107 (by omega) (by omega)]
  have f_108_r : I3 108 = I 108 := by rw [ek_repair_108_r p2, f1.1 108 (by omega) (by omega)]
  have f_109_r : I3 109 = I 109 := by rw [ek_repair_109_r p2, f1.1 109 (by omega) (by omega)]
  have f_70_5 : I3 70 5 = I 70 5 := by rw [f2.1 70 (by omega), eb_repair_70_5 p1]
  have f_103_25 : I3 103 25 = I 103 25 := by rw [ek_repair_103_25 p2, f1.1 103 (by omega) (by omega)]
  have f_71_r : I3 71 = I 71 := by rw [f2.1 71 (by omega), eb_repair_71_r p1]
  have f_121_r : I3 121 = I 121 := by rw [ek_repair_121_r p2, f1.1 121 (by omega) (by omega)]
  have f_90_r : I3 90 = I 90 := by rw [f2.1 90 (by omega), eb_repair_90_r p1]
  have f_91_r : I3 91 = I 91 := by rw [f2.1 91 (by omega), eb_repair_91_r p1]
  have f_86_3 : I3 86 3 = I 86 3 := by rw [f2.1 86 (by omega), eb_repair_86_3 p1]
  have f_86_4 : I3 86 4 = I 86 4 := by rw [f2.1 86 (by omega), eb_repair_86_4 p1]
  have f_86_5 : I3 86 5 = I 86 5 := by rw [f2.1 86 (by omega), eb_repair_86_5 p1]
  have f_86_6 : I3 86 6 = I 86 6 := by rw [f2.1 86 (by omega), eb_repair_86_6 p1]
  have f_86_7 : I3 86 7 = I 86 7 := by rw [f2.1 86 (by omega), eb_repair_86_7 p1]
  have f_9999_r : ∀ b, ((77 ≤ b ∧ b ≤ 79) ∨ 147 ≤ b) → I3 b = I b := fun b hb => by rw [f2.1 b (by omega), eb_repair_9999_r p1 b hb]
  have f_129_r : I3 129 = I 129 := by rw [ek_repair_129_r p2, f1.1 129 (by omega) (by omega)]
  have f_130_r : I3 130 = I 130 := by rw [ek_repair_130_r p2, f1.1 130 (by omega) (by omega)]
  have f_131_r : I3 131 = I 131 := by rw [ek_repair_131_r p2, f1.1 131 (by omega) (by omega)]
  have f_103_47 : I3 103 47 = I 103 47 := by rw [ek_repair_103_47 p2, f1.1 103 (by omega) (by omega)]
  have f_103_48 : I3 103 48 = I 103 48 := by rw [ek_repair_103_48 p2, f1.1 103 (by omega) (by omega)]
  have f_103_49 : I3 103 49 = I 103 49 := by rw [ek_repair_103_49 p2, f1.1 103 (by omega) (by omega)]
  have f_103_50 : I3 103 50 = I 103 50 := by rw [ek_repair_103_50 p2, f1.1 103 (by omega) (by omega)]
  have f_103_51 : I3 103 51 = I 103 51 := by rw [ek_repair_103_51 p2, f1.1 103 (by omega) (by omega)]
  have f_93_r : I3 93 = I 93 := by rw [f2.1 93 (by omega), eb_repair_93_r p1]
  have f_94_r : I3 94 = I 94 := by rw [f2.1 94 (by omega), eb_repair_94_r p1]
  have f_135_r : I3 135 = I 135 := by rw [ek_repair_135_r p2, f1.1 135 (by omega) (by omega)]
  have f_136_r : I3 136 = I 136 := by rw [ek_repair_136_r p2, f1.1 136 (by omega) (by omega)]
  exact ⟨(by rw [f_32_10, f_103_0]; exact hr.1), (by rw [f_33_7, f_103_1]; exact hr.2.1), (by rw [f_33_8, f_103_2]; exact hr.2.2.1), (srOk.eq f_33_7 f_33_8 f_34_r f_35_r f_36_r f_37_r f_38_r f_39_r f_104_r f_105_r f_106_r f_107_r f_108_r f_109_r hr.2.2.2.1), (by rw [f_70_5, f_103_25]; exact hr.2.2.2.2.1), (by rw [f_71_r, f_121_r]; exact hr.2.2.2.2.2.1), (wy_eq f_90_r f_91_r f_86_3 f_86_4 f_86_5 f_86_6 f_86_7 f_9999_r f_129_r f_130_r f_131_r f_103_47 f_103_48 f_103_49 f_103_50 f_103_51 fR hr.2.2.2.2.2.2.1), (by rw [f_93_r, f_94_r, f_135_r, f_136_r]; exact hr.2.2.2.2.2.2.2)⟩

theorem rel.lime {v0 : Int32} {x y : Int32} {n : Nat} {I I2 I3 : px_I} {L L2 L3 : px_L} {R : px_R} (hj : jJ n I R) (hr : rel I L R) (f1 : frB I I2 L L2) {R2 : px_R} (fR : kR R I2 R2) (p1 : pb_lime v0 I L x I2 L2) (f2 : frK I2 I3 L2 L3) (p2 : pk_lime v0 I2 L2 y I3 L3) : rel I3 L3 R2 := by
  have f_32_10 : I3 32 10 = I 32 10 := by rw [f2.1 32 (by omega), eb_lime_32_10 p1]
  have f_103_0 : I3 103 0 = I 103 0 := by rw [ek_lime_103_0 p2, f1.1 103 (by omega) (by omega)]
  have f_33_7 : I3 33 7 = I 33 7 := by rw [f2.1 33 (by omega), eb_lime_33_7 p1]
  have f_103_1 : I3 103 1 = I 103 1 := by rw [ek_lime_103_1 p2, f1.1 103 (by omega) (by omega)]
  have f_33_8 : I3 33 8 = I 33 8 := by rw [f2.1 33 (by omega), eb_lime_33_8 p1]
  have f_103_2 : I3 103 2 = I 103 2 := by rw [ek_lime_103_2 p2, f1.1 103 (by omega) (by omega)]
  have f_34_r : I3 34 = I 34 := by rw [f2.1 34 (by omega), eb_lime_34_r p1]
  have f_35_r : I3 35 = I 35 := by rw [f2.1 35 (by omega), eb_lime_35_r p1]
  have f_36_r : I3 36 = I 36 := by rw [f2.1 36 (by omega), eb_lime_36_r p1]
  have f_37_r : I3 37 = I 37 := by rw [f2.1 37 (by omega), eb_lime_37_r p1]
  have f_38_r : I3 38 = I 38 := by rw [f2.1 38 (by omega), eb_lime_38_r p1]
  have f_39_r : I3 39 = I 39 := by rw [f2.1 39 (by omega), eb_lime_39_r p1]
  have f_104_r : I3 104 = I 104 := by rw [ek_lime_104_r p2, f1.1 104 (by omega) (by omega)]
  have f_105_r : I3 105 = I 105 := by rw [ek_lime_105_r p2, f1.1 105 (by omega) (by omega)]
  have f_106_r : I3 106 = I 106 := by rw [ek_lime_106_r p2, f1.1 106 (by omega) (by omega)]
  have f_107_r : I3 107 = I 107 := by rw [ek_lime_107_r p2, f1.1 107 (by omega) (by omega)]
  have f_108_r : I3 108 = I 108 := by rw [ek_lime_108_r p2, f1.1 108 (by omega) (by omega)]
  have f_109_r : I3 109 = I 109 := by rw [ek_lime_109_r p2, f1.1 109 (by omega) (by omega)]
  have f_70_5 : I3 70 5 = I 70 5 := by rw [f2.1 70 (by omega), eb_lime_70_5 p1]
  have f_103_25 : I3 103 25 = I 103 25 := by rw [ek_lime_103_25 p2, f1.1 103 (by omega) (by omega)]
  have f_71_r : I3 71 = I 71 := by rw [f2.1 71 (by omega), eb_lime_71_r p1]
  have f_121_r : I3 121 = I 121 := by rw [ek_lime_121_r p2, f1.1 121 (by omega) (by omega)]
  have f_90_r : I3 90 = I 90 := by rw [f2.1 90 (by omega), eb_lime_90_r p1]
  have f_91_r : I3 91 = I 91 := by rw [f2.1 91 (by omega), eb_lime_91_r p1]
  have f_86_3 : I3 86 3 = I 86 3 := by rw [f2.1 86 (by omega), eb_lime_86_3 p1]
  have f_86_4 : I3 86 4 = I 86 4 := by rw [f2.1 86 (by omega), eb_lime_86_4 p1]
  have f_86_5 : I3 86 5 = I 86 5 := by rw [f2.1 86 (by omega), eb_lime_86_5 p1]
  have f_86_6 : I3 86 6 = I 86 6 := by rw [f2.1 86 (by omega), eb_lime_86_6 p1]
  have f_86_7 : I3 86 7 = I 86 7 := by rw [f2.1 86 (by omega), eb_lime_86_7 p1]
  have f_9999_r : ∀ b, ((77 ≤ b ∧ b ≤ 79) ∨ 147 ≤ b) → I3 b = I b := fun b hb => by rw [f2.1 b (by omega), eb_lime_9999_r p1 b hb]
  have f_129_r : I3 129 = I 129 := by rw [ek_lime_129_r p2, f1.1 129 (by omega) (by omega)]
  have f_130_r : I3 130 = I 130 := by rw [ek_lime_130_r p2, f1.1 130 (by omega) (by omega)]
  have f_131_r : I3 131 = I 131 := by rw [ek_lime_131_r p2, f1.1 131 (by omega) (by omega)]
  have f_103_47 : I3 103 47 = I 103 47 := by rw [ek_lime_103_47 p2, f1.1 103 (by omega) (by omega)]
  have f_103_48 : I3 103 48 = I 103 48 := by rw [ek_lime_103_48 p2, f1.1 103 (by omega) (by omega)]
  have f_103_49 : I3 103 49 = I 103 49 := by rw [ek_lime_103_49 p2, f1.1 103 (by omega) (by omega)]
  have f_103_50 : I3 103 50 = I 103 50 := by rw [ek_lime_103_50 p2, f1.1 103 (by omega) (by omega)]
  have f_103_51 : I3 103 51 = I 103 51 := by rw [ek_lime_103_51 p2, f1.1 103 (by omega) (by omega)]
  have f_93_r : I3 93 = I 93 := by rw [f2.1 93 (by omega), eb_lime_93_r p1]
  have f_94_r : I3 94 = I 94 := by rw [f2.1 94 (by omega), eb_lime_94_r p1]
  have f_135_r : I3 135 = I 135 := by rw [ek_lime_135_r p2, f1.1 135 (by omega) (by omega)]
  have f_136_r : I3 136 = I 136 := by rw [ek_lime_136_r p2, f1.1 136 (by omega) (by omega)]
  exact ⟨(by rw [f_32_10, f_103_0]; exact hr.1), (by rw [f_33_7, f_103_1]; exact hr.2.1), (by rw [f_33_8, f_103_2]; exact hr.2.2.1), (srOk.eq f_33_7 f_33_8 f_34_r f_35_r f_36_r f_37_r f_38_r f_39_r f_104_r f_105_r f_106_r f_107_r f_108_r f_109_r hr.2.2.2.1), (by rw [f_70_5, f_103_25]; exact hr.2.2.2.2.1), (by rw [f_71_r, f_121_r]; exact hr.2.2.2.2.2.1), (wy_eq f_90_r f_91_r f_86_3 f_86_4 f_86_5 f_86_6 f_86_7 f_9999_r f_129_r f_130_r f_131_r f_103_47 f_103_48 f_103_49 f_103_50 f_103_51 fR hr.2.2.2.2.2.2.1), (by rw [f_93_r, f_94_r, f_135_r, f_136_r]; exact hr.2.2.2.2.2.2.2)⟩

theorem rel.flow {v0 v1 v2 v3 : Int32} {x y : Int32} {n : Nat} {I I2 I3 : px_I} {L L2 L3 : px_L} {R : px_R} (hj : jJ n I R) (hr : rel I L R) (f1 : frB I I2 L L2) {R2 : px_R} (fR : kR R I2 R2) (p1 : pb_flow v0 v1 v2 v3 I L x I2 L2) (f2 : frK I2 I3 L2 L3) (p2 : pk_flow v0 v1 v2 v3 I2 L2 y I3 L3) : rel I3 L3 R2 := by
  have f_32_10 : I3 32 10 = I 32 10 := by rw [f2.1 32 (by omega), eb_flow_32_10 p1]
  have f_103_0 : I3 103 0 = I 103 0 := by rw [ek_flow_103_0 p2, f1.1 103 (by omega) (by omega)]
  have f_33_7 : I3 33 7 = I 33 7 := by rw [f2.1 33 (by omega), eb_flow_33_7 p1]
  have f_103_1 : I3 103 1 = I 103 1 := by rw [ek_flow_103_1 p2, f1.1 103 (by omega) (by omega)]
  have f_33_8 : I3 33 8 = I 33 8 := by rw [f2.1 33 (by omega), eb_flow_33_8 p1]
  have f_103_2 : I3 103 2 = I 103 2 := by rw [ek_flow_103_2 p2, f1.1 103 (by omega) (by omega)]
  have f_34_r : I3 34 = I 34 := by rw [f2.1 34 (by omega), eb_flow_34_r p1]
  have f_35_r : I3 35 = I 35 := by rw [f2.1 35 (by omega), eb_flow_35_r p1]
  have f_36_r : I3 36 = I 36 := by rw [f2.1 36 (by omega), eb_flow_36_r p1]
  have f_37_r : I3 37 = I 37 := by rw [f2.1 37 (by omega), eb_flow_37_r p1]
  have f_38_r : I3 38 = I 38 := by rw [f2.1 38 (by omega), eb_flow_38_r p1]
  have f_39_r : I3 39 = I 39 := by rw [f2.1 39 (by omega), eb_flow_39_r p1]
  have f_104_r : I3 104 = I 104 := by rw [ek_flow_104_r p2, f1.1 104 (by omega) (by omega)]
  have f_105_r : I3 105 = I 105 := by rw [ek_flow_105_r p2, f1.1 105 (by omega) (by omega)]
  have f_106_r : I3 106 = I 106 := by rw [ek_flow_106_r p2, f1.1 106 (by omega) (by omega)]
  have f_107_r : I3 107 = I 107 := by rw [ek_flow_107_r p2, f1.1 107 (by omega) (by omega)]
  have f_108_r : I3 108 = I 108 := by rw [ek_flow_108_r p2, f1.1 108 (by omega) (by omega)]
  have f_109_r : I3 109 = I 109 := by rw [ek_flow_109_r p2, f1.1 109 (by omega) (by omega)]
  have f_70_5 : I3 70 5 = I 70 5 := by rw [f2.1 70 (by omega), eb_flow_70_5 p1]
  have f_103_25 : I3 103 25 = I 103 25 := by rw [ek_flow_103_25 p2, f1.1 103 (by omega) (by omega)]
  have f_71_r : I3 71 = I 71 := by rw [f2.1 71 (by omega), eb_flow_71_r p1]
  have f_121_r : I3 121 = I 121 := by rw [ek_flow_121_r p2, f1.1 121 (by omega) (by omega)]
  have f_90_r : I3 90 = I 90 := by rw [f2.1 90 (by omega), eb_flow_90_r p1]
  have f_91_r : I3 91 = I 91 := by rw [f2.1 91 (by omega), eb_flow_91_r p1]
  have f_86_3 : I3 86 3 = I 86 3 := by rw [f2.1 86 (by omega), eb_flow_86_3 p1]
  have f_86_4 : I3 86 4 = I 86 4 := by rw [f2.1 86 (by omega), eb_flow_86_4 p1]
  have f_86_5 : I3 86 5 = I 86 5 := by rw [f2.1 86 (by omega), eb_flow_86_5 p1]
  have f_86_6 : I3 86 6 = I 86 6 := by rw [f2.1 86 (by omega), eb_flow_86_6 p1]
  have f_86_7 : I3 86 7 = I 86 7 := by rw [f2.1 86 (by omega), eb_flow_86_7 p1]
  have f_9999_r : ∀ b, ((77 ≤ b ∧ b ≤ 79) ∨ 147 ≤ b) → I3 b = I b := fun b hb => by rw [f2.1 b (by omega), eb_flow_9999_r p1 b hb]
  have f_129_r : I3 129 = I 129 := by rw [ek_flow_129_r p2, f1.1 129 (by omega) (by omega)]
  have f_130_r : I3 130 = I 130 := by rw [ek_flow_130_r p2, f1.1 130 (by omega) (by omega)]
  have f_131_r : I3 131 = I 131 := by rw [ek_flow_131_r p2, f1.1 131 (by omega) (by omega)]
  have f_103_47 : I3 103 47 = I 103 47 := by rw [ek_flow_103_47 p2, f1.1 103 (by omega) (by omega)]
  have f_103_48 : I3 103 48 = I 103 48 := by rw [ek_flow_103_48 p2, f1.1 103 (by omega) (by omega)]
  have f_103_49 : I3 103 49 = I 103 49 := by rw [ek_flow_103_49 p2, f1.1 103 (by omega) (by omega)]
  have f_103_50 : I3 103 50 = I 103 50 := by rw [ek_flow_103_50 p2, f1.1 103 (by omega) (by omega)]
  have f_103_51 : I3 103 51 = I 103 51 := by rw [ek_flow_103_51 p2, f1.1 103 (by omega) (by omega)]
  have f_93_r : I3 93 = I 93 := by rw [f2.1 93 (by omega), eb_flow_93_r p1]
  have f_94_r : I3 94 = I 94 := by rw [f2.1 94 (by omega), eb_flow_94_r p1]
  have f_135_r : I3 135 = I 135 := by rw [ek_flow_135_r p2, f1.1 135 (by omega) (by omega)]
  have f_136_r : I3 136 = I 136 := by rw [ek_flow_136_r p2, f1.1 136 (by omega) (by omega)]
  exact ⟨(by rw [f_32_10, f_103_0]; exact hr.1), (by rw [f_33_7, f_103_1]; exact hr.2.1), (by rw [f_33_8, f_103_2]; exact hr.2.2.1), (srOk.eq f_33_7 f_33_8 f_34_r f_35_r f_36_r f_37_r f_38_r f_39_r f_104_r f_105_r f_106_r f_107_r f_108_r f_109_r hr.2.2.2.1), (by rw [f_70_5, f_103_25]; exact hr.2.2.2.2.1), (by rw [f_71_r, f_121_r]; exact hr.2.2.2.2.2.1), (wy_eq f_90_r f_91_r f_86_3 f_86_4 f_86_5 f_86_6 f_86_7 f_9999_r f_129_r f_130_r f_131_r f_103_47 f_103_48 f_103_49 f_103_50 f_103_51 fR hr.2.2.2.2.2.2.1), (by rw [f_93_r, f_94_r, f_135_r, f_136_r]; exact hr.2.2.2.2.2.2.2)⟩

theorem rel.narrow {v0 v1 v2 : Int32} {x y : Int32} {n : Nat} {I I2 I3 : px_I} {L L2 L3 : px_L} {R : px_R} (hj : jJ n I R) (hr : rel I L R) (f1 : frB I I2 L L2) {R2 : px_R} (fR : kR R I2 R2) (p1 : pb_narrow v0 v1 v2 I L x I2 L2) (f2 : frK I2 I3 L2 L3) (p2 : pk_narrow v0 v1 v2 I2 L2 y I3 L3) : rel I3 L3 R2 := by
  have f_32_10 : I3 32 10 = I 32 10 := by rw [f2.1 32 (by omega), eb_narrow_32_10 p1]
  have f_103_0 : I3 103 0 = I 103 0 := by rw [ek_narrow_103_0 p2, f1.1 103 (by omega) (by omega)]
  have f_33_7 : I3 33 7 = I 33 7 := by rw [f2.1 33 (by omega), eb_narrow_33_7 p1]
  have f_103_1 : I3 103 1 = I 103 1 := by rw [ek_narrow_103_1 p2, f1.1 103 (by omega) (by omega)]
  have f_33_8 : I3 33 8 = I 33 8 := by rw [f2.1 33 (by omega), eb_narrow_33_8 p1]
  have f_103_2 : I3 103 2 = I 103 2 := by rw [ek_narrow_103_2 p2, f1.1 103 (by omega) (by omega)]
  have f_34_r : I3 34 = I 34 := by rw [f2.1 34 (by omega), eb_narrow_34_r p1]
  have f_35_r : I3 35 = I 35 := by rw [f2.1 35 (by omega), eb_narrow_35_r p1]
  have f_36_r : I3 36 = I 36 := by rw [f2.1 36 (by omega), eb_narrow_36_r p1]
  have f_37_r : I3 37 = I 37 := by rw [f2.1 37 (by omega), eb_narrow_37_r p1]
  have f_38_r : I3 38 = I 38 := by rw [f2.1 38 (by omega), eb_narrow_38_r p1]
  have f_39_r : I3 39 = I 39 := by rw [f2.1 39 (by omega), eb_narrow_39_r p1]
  have f_104_r : I3 104 = I 104 := by rw [ek_narrow_104_r p2, f1.1 104 (by omega) (by omega)]
  have f_105_r : I3 105 = I 105 := by rw [ek_narrow_105_r p2, f1.1 105 (by omega) (by omega)]
  have f_106_r : I3 106 = I 106 := by rw [ek_narrow_106_r p2, f1.1 106 (by omega) (by omega)]
  have f_107_r : I3 107 = I 107 := by rw [ek_narrow_107_r p2, f1.1 107 (by omega) (by omega)]
  have f_108_r : I3 108 = I 108 := by rw [ek_narrow_108_r p2, f1.1 108 (by omega) (by omega)]
  have f_109_r : I3 109 = I 109 := by rw [ek_narrow_109_r p2, f1.1 109 (by omega) (by omega)]
  have f_70_5 : I3 70 5 = I 70 5 := by rw [f2.1 70 (by omega), eb_narrow_70_5 p1]
  have f_103_25 : I3 103 25 = I 103 25 := by rw [ek_narrow_103_25 p2, f1.1 103 (by omega) (by omega)]
  have f_71_r : I3 71 = I 71 := by rw [f2.1 71 (by omega), eb_narrow_71_r p1]
  have f_121_r : I3 121 = I 121 := by rw [ek_narrow_121_r p2, f1.1 121 (by omega) (by omega)]
  have f_90_r : I3 90 = I 90 := by rw [f2.1 90 (by omega), eb_narrow_90_r p1]
  have f_91_r : I3 91 = I 91 := by rw [f2.1 91 (by omega), eb_narrow_91_r p1]
  have f_86_3 : I3 86 3 = I 86 3 := by rw [f2.1 86 (by omega), eb_narrow_86_3 p1]
  have f_86_4 : I3 86 4 = I 86 4 := by rw [f2.1 86 (by omega), eb_narrow_86_4 p1]
  have f_86_5 : I3 86 5 = I 86 5 := by rw [f2.1 86 (by omega), eb_narrow_86_5 p1]
  have f_86_6 : I3 86 6 = I 86 6 := by rw [f2.1 86 (by omega), eb_narrow_86_6 p1]
  have f_86_7 : I3 86 7 = I 86 7 := by rw [f2.1 86 (by omega), eb_narrow_86_7 p1]
  have f_9999_r : ∀ b, ((77 ≤ b ∧ b ≤ 79) ∨ 147 ≤ b) → I3 b = I b := fun b hb => by rw [f2.1 b (by omega), eb_narrow_9999_r p1 b hb]
  have f_129_r : I3 129 = I 129 := by rw [ek_narrow_129_r p2, f1.1 129 (by omega) (by omega)]
  have f_130_r : I3 130 = I 130 := by rw [ek_narrow_130_r p2, f1.1 130 (by omega) (by omega)]
  have f_131_r : I3 131 = I 131 := by rw [ek_narrow_131_r p2, f1.1 131 (by omega) (by omega)]
  have f_103_47 : I3 103 47 = I 103 47 := by rw [ek_narrow_103_47 p2, f1.1 103 (by omega) (by omega)]
  have f_103_48 : I3 103 48 = I 103 48 := by rw [ek_narrow_103_48 p2, f1.1 103 (by omega) (by omega)]
  have f_103_49 : I3 103 49 = I 103 49 := by rw [ek_narrow_103_49 p2, f1.1 103 (by omega) (by omega)]
  have f_103_50 : I3 103 50 = I 103 50 := by rw [ek_narrow_103_50 p2, f1.1 103 (by omega) (by omega)]
  have f_103_51 : I3 103 51 = I 103 51 := by rw [ek_narrow_103_51 p2, f1.1 103 (by omega) (by omega)]
  have f_93_r : I3 93 = I 93 := by rw [f2.1 93 (by omega), eb_narrow_93_r p1]
  have f_94_r : I3 94 = I 94 := by rw [f2.1 94 (by omega), eb_narrow_94_r p1]
  have f_135_r : I3 135 = I 135 := by rw [ek_narrow_135_r p2, f1.1 135 (by omega) (by omega)]
  have f_136_r : I3 136 = I 136 := by rw [ek_narrow_136_r p2, f1.1 136 (by omega) (by omega)]
  exact ⟨(by rw [f_32_10, f_103_0]; exact hr.1), (by rw [f_33_7, f_103_1]; exact hr.2.1), (by rw [f_33_8, f_103_2]; exact hr.2.2.1), (srOk.eq f_33_7 f_33_8 f_34_r f_35_r f_36_r f_37_r f_38_r f_39_r f_104_r f_105_r f_106_r f_107_r f_108_r f_109_r hr.2.2.2.1), (by rw [f_70_5, f_103_25]; exact hr.2.2.2.2.1), (by rw [f_71_r, f_121_r]; exact hr.2.2.2.2.2.1), (wy_eq f_90_r f_91_r f_86_3 f_86_4 f_86_5 f_86_6 f_86_7 f_9999_r f_129_r f_130_r f_131_r f_103_47 f_103_48 f_103_49 f_103_50 f_103_51 fR hr.2.2.2.2.2.2.1), (by rw [f_93_r, f_94_r, f_135_r, f_136_r]; exact hr.2.2.2.2.2.2.2)⟩

theorem rel.about {v0 : Int32} {x y : Int32} {n : Nat} {I I2 I3 : px_I} {L L2 L3 : px_L} {R : px_R} (hj : jJ n I R) (hr : rel I L R) (f1 : frB I I2 L L2) {R2 : px_R} (fR : kR R I2 R2) (p1 : pb_about v0 I L x I2 L2) (f2 : frK I2 I3 L2 L3) (p2 : pk_about v0 I2 L2 y I3 L3) : rel I3 L3 R2 := by
  have f_32_10 : I3 32 10 = I 32 10 := by rw [f2.1 32 (by omega), eb_about_32_10 p1]
  have f_103_0 : I3 103 0 = I 103 0 := by rw [ek_about_103_0 p2, f1.1 103 (by omega) (by omega)]
  have f_33_7 : I3 33 7 = I 33 7 := by rw [f2.1 33 (by omega), eb_about_33_7 p1]
  have f_103_1 : I3 103 1 = I 103 1 := by rw [ek_about_103_1 p2, f1.1 103 (by omega) (by omega)]
  have f_33_8 : I3 33 8 = I 33 8 := by rw [f2.1 33 (by omega), eb_about_33_8 p1]
  have f_103_2 : I3 103 2 = I 103 2 := by rw [ek_about_103_2 p2, f1.1 103 (by omega) (by omega)]
  have f_34_r : I3 34 = I 34 := by rw [f2.1 34 (by omega), eb_about_34_r p1]
  have f_35_r : I3 35 = I 35 := by rw [f2.1 35 (by omega), eb_about_35_r p1]
  have f_36_r : I3 36 = I 36 := by rw [f2.1 36 (by omega), eb_about_36_r p1]
  have f_37_r : I3 37 = I 37 := by rw [f2.1 37 (by omega), eb_about_37_r p1]
  have f_38_r : I3 38 = I 38 := by rw [f2.1 38 (by omega), eb_about_38_r p1]
  have f_39_r : I3 39 = I 39 := by rw [f2.1 39 (by omega), eb_about_39_r p1]
  have f_104_r : I3 104 = I 104 := by rw [ek_about_104_r p2, f1.1 104 (by omega) (by omega)]
  have f_105_r : I3 105 = I 105 := by rw [ek_about_105_r p2, f1.1 105 (by omega) (by omega)]
  have f_106_r : I3 106 = I 106 := by rw [ek_about_106_r p2, f1.1 106 (by omega) (by omega)]
  have f_107_r : I3 107 = I 107 := by rw [ek_about_107_r p2, f1.1 107 (by omega) (by omega)]
  have f_108_r : I3 108 = I 108 := by rw [ek_about_108_r p2, f1.1 108 (by omega) (by omega)]
  have f_109_r : I3 109 = I 109 := by rw [ek_about_109_r p2, f1.1 109 (by omega) (by omega)]
  have f_70_5 : I3 70 5 = I 70 5 := by rw [f2.1 70 (by omega), eb_about_70_5 p1]
  have f_103_25 : I3 103 25 = I 103 25 := by rw [ek_about_103_25 p2, f1.1 103 (by omega) (by omega)]
  have f_71_r : I3 71 = I 71 := by rw [f2.1 71 (by omega), eb_about_71_r p1]
  have f_121_r : I3 121 = I 121 := by rw [ek_about_121_r p2, f1.1 121 (by omega) (by omega)]
  have f_90_r : I3 90 = I 90 := by rw [f2.1 90 (by omega), eb_about_90_r p1]
  have f_91_r : I3 91 = I 91 := by rw [f2.1 91 (by omega), eb_about_91_r p1]
  have f_86_3 : I3 86 3 = I 86 3 := by rw [f2.1 86 (by omega), eb_about_86_3 p1]
  have f_86_4 : I3 86 4 = I 86 4 := by rw [f2.1 86 (by omega), eb_about_86_4 p1]
  have f_86_5 : I3 86 5 = I 86 5 := by rw [f2.1 86 (by omega), eb_about_86_5 p1]
  have f_86_6 : I3 86 6 = I 86 6 := by rw [f2.1 86 (by omega), eb_about_86_6 p1]
  have f_86_7 : I3 86 7 = I 86 7 := by rw [f2.1 86 (by omega), eb_about_86_7 p1]
  have f_9999_r : ∀ b, ((77 ≤ b ∧ b ≤ 79) ∨ 147 ≤ b) → I3 b = I b := fun b hb => by rw [f2.1 b (by omega), eb_about_9999_r p1 b hb]
  have f_129_r : I3 129 = I 129 := by rw [ek_about_129_r p2, f1.1 129 (by omega) (by omega)]
  have f_130_r : I3 130 = I 130 := by rw [ek_about_130_r p2, f1.1 130 (by omega) (by omega)]
  have f_131_r : I3 131 = I 131 := by rw [ek_about_131_r p2, f1.1 131 (by omega) (by omega)]
  have f_103_47 : I3 103 47 = I 103 47 := by rw [ek_about_103_47 p2, f1.1 103 (by omega) (by omega)]
  have f_103_48 : I3 103 48 = I 103 48 := by rw [ek_about_103_48 p2, f1.1 103 (by omega) (by omega)]
  have f_103_49 : I3 103 49 = I 103 49 := by rw [ek_about_103_49 p2, f1.1 103 (by omega) (by omega)]
  have f_103_50 : I3 103 50 = I 103 50 := by rw [ek_about_103_50 p2, f1.1 103 (by omega) (by omega)]
  have f_103_51 : I3 103 51 = I 103 51 := by rw [ek_about_103_51 p2, f1.1 103 (by omega) (by omega)]
  have f_93_r : I3 93 = I 93 := by rw [f2.1 93 (by omega), eb_about_93_r p1]
  have f_94_r : I3 94 = I 94 := by rw [f2.1 94 (by omega), eb_about_94_r p1]
  have f_135_r : I3 135 = I 135 := by rw [ek_about_135_r p2, f1.1 135 (by omega) (by omega)]
  have f_136_r : I3 136 = I 136 := by rw [ek_about_136_r p2, f1.1 136 (by omega) (by omega)]
  exact ⟨(by rw [f_32_10, f_103_0]; exact hr.1), (by rw [f_33_7, f_103_1]; exact hr.2.1), (by rw [f_33_8, f_103_2]; exact hr.2.2.1), (srOk.eq f_33_7 f_33_8 f_34_r f_35_r f_36_r f_37_r f_38_r f_39_r f_104_r f_105_r f_106_r f_107_r f_108_r f_109_r hr.2.2.2.1), (by rw [f_70_5, f_103_25]; exact hr.2.2.2.2.1), (by rw [f_71_r, f_121_r]; exact hr.2.2.2.2.2.1), (wy_eq f_90_r f_91_r f_86_3 f_86_4 f_86_5 f_86_6 f_86_7 f_9999_r f_129_r f_130_r f_131_r f_103_47 f_103_48 f_103_49 f_103_50 f_103_51 fR hr.2.2.2.2.2.2.1), (by rw [f_93_r, f_94_r, f_135_r, f_136_r]; exact hr.2.2.2.2.2.2.2)⟩
