theorem q_X12_in_0 : px_bk 12 6 cX12_in 0 [(.lload_n 0, (0, 0, 0, 0, 0), 0, 0), (.lload_n 2, (0, 0, 0, 0, 0), 0, 0), (.lcmp, (0, 0, 0, 0, 0), 0, 0)] = some 3 ∧ px_t1 cX12_in 3 .lt 17 = true := by decide +kernel
theorem q_X12_in_17 : px_bk 12 6 cX12_in 17 [(.iconst 0, (0, 0, 0, 0, 0), 0, 0)] = some 18 ∧ px_tr cX12_in 18 .ireturn = true := by decide +kernel
theorem q_X12_in_6 : px_bk 12 6 cX12_in 6 [(.lload_n 0, (0, 0, 0, 0, 0), 0, 0), (.lload 4, (0, 0, 0, 0, 0), 0, 0), (.lcmp, (0, 0, 0, 0, 0), 0, 0)] = some 10 ∧ px_t1 cX12_in 10 .gt 17 = true := by decide +kernel
theorem q_X12_in_13 : px_bk 12 6 cX12_in 13 [(.iconst 1, (0, 0, 0, 0, 0), 1, 0), (.goto 4, (0, 0, 0, 0, 0), 0, 0)] = some 18 ∧ px_tr cX12_in 18 .ireturn = true := by decide +kernel
theorem q_X12_days_0 : px_bk 12 2 cX12_days 0 [(.iload_n 1, (0, 0, 0, 0, 0), 0, 0), (.i2l, (0, 0, 0, 0, 0), 0, 0), (.lconst 1, (0, 0, 0, 0, 0), 0, 1), (.ldc2_w 175, (0, 0, 0, 0, 0), 0, 1000)] = some 6 ∧ px_tS cX12_days 6 167 = true := by decide +kernel
theorem q_X12_days_9 : px_bk 12 2 cX12_days 9 [] = some 9 ∧ px_t1 cX12_days 9 .eq 24 = true := by decide +kernel
theorem q_X12_days_24 : px_bk 12 2 cX12_days 24 [(.iconst (-1), (0, 0, 0, 0, 0), -1, 0)] = some 25 ∧ px_tr cX12_days 25 .ireturn = true := by decide +kernel
theorem q_X12_days_12 : px_bk 12 2 cX12_days 12 [(.aload_n 0, (0, 0, 0, 0, 0), 0, 0), (.getfield 177, (12, 0, 0, 0, 0), 0, 0), (.iload_n 1, (0, 0, 0, 0, 0), 0, 0), (.iadd, (0, 0, 0, 0, 0), 0, 0), (.sipush 9999, (0, 0, 0, 0, 0), 9999, 0)] = some 21 ∧ px_t2 cX12_days 21 .le 26 = true := by decide +kernel
theorem q_X12_days_26 : px_bk 12 2 cX12_days 26 [(.aload_n 0, (0, 0, 0, 0, 0), 0, 0), (.dup, (0, 0, 0, 0, 0), 0, 0), (.getfield 177, (12, 0, 0, 0, 0), 0, 0), (.iload_n 1, (0, 0, 0, 0, 0), 0, 0), (.iadd, (0, 0, 0, 0, 0), 0, 0), (.putfield 177, (12, 0, 0, 0, 0), 0, 0), (.aload_n 0, (0, 0, 0, 0, 0), 0, 0), (.getfield 177, (12, 0, 0, 0, 0), 0, 0)] = some 40 ∧ px_tr cX12_days 40 .ireturn = true := by decide +kernel
set_option maxRecDepth 100000 in
theorem k_in {n : Nat} {I : px_I} {L : px_L} {R : px_R} (hg : px_G n R) (a b c : Int64) : px_KP M_X12_in [.long a, .long b, .long c] n I L R (fun r => (r = 1 ∧ b ≤ a ∧ a ≤ c) ∨ (r = 0 ∧ ¬ (b ≤ a ∧ a ≤ c))) := by
  refine px_of (plainFor_of_name np_RX12) (fun _ _ _ => trivial) rfl ?_
  refine px_llt rfl q_X12_in_0 hg rfl trivial (fun c3 => ?_) (fun c3 => ?_)
  · refine px_rzP rfl q_X12_in_17 rfl rfl rfl hg rfl trivial ⟨⟨rfl, rfl, rfl, rfl⟩, (by first | exact Or.inl rfl | exact Or.inr rfl | grind), ?_⟩
    grind
  · refine px_lgt rfl q_X12_in_6 hg rfl trivial (fun c10 => ?_) (fun c10 => ?_)
    · refine px_rzP rfl q_X12_in_17 rfl rfl rfl hg rfl trivial ⟨⟨rfl, rfl, rfl, rfl⟩, (by first | exact Or.inl rfl | exact Or.inr rfl | grind), ?_⟩
      grind
    · refine px_rzP rfl q_X12_in_13 rfl rfl rfl hg rfl trivial ⟨⟨rfl, rfl, rfl, rfl⟩, (by first | exact Or.inl rfl | exact Or.inr rfl | grind), ?_⟩
      grind

set_option maxRecDepth 100000 in
theorem k_days {n : Nat} {I : px_I} {L : px_L} {R : px_R} (hg : px_G n R) (x : Int32) : px_KS M_X12_days [.ref 103, .int x] n I L R (fun r I2 L2 => L2 = L ∧ ((1 ≤ x ∧ x ≤ 1000 ∧ I 103 0 + x ≤ 9999 ∧ r = I 103 0 + x ∧ I2 = px_u I 103 0 r) ∨ (¬ (1 ≤ x ∧ x ≤ 1000 ∧ I 103 0 + x ≤ 9999) ∧ r = -1 ∧ I2 = I))) := by
  refine px_of (plainFor_of_name np_RX12) (fun _ _ _ => trivial) rfl ?_
  refine px_cSP rfl q_X12_days_0 hg rfl trivial lk_12_167 nm_X12_in (k_in hg _ _ _) rfl rfl rfl ⟨rfl, rfl⟩ ?_
  intro x6 h6
  refine px_eq rfl q_X12_days_9 hg rfl trivial (fun c9 => ?_) (fun c9 => ?_)
  · refine px_riS rfl q_X12_days_24 rfl rfl rfl hg rfl trivial ⟨⟨rfl, rfl⟩, ?_⟩
    trace_state
    sorry
  · refine px_ile rfl q_X12_days_12 hg rfl trivial (fun c21 => ?_) (fun c21 => ?_)
    · refine px_riS rfl q_X12_days_26 rfl rfl rfl hg rfl trivial ⟨⟨rfl, rfl⟩, ?_⟩
      trace_state
      sorry
    · refine px_riS rfl q_X12_days_24 rfl rfl rfl hg rfl trivial ⟨⟨rfl, rfl⟩, ?_⟩
      trace_state
      sorry
