/-! the reference: runs of ways -/
def mRI (I I2 : px_I) : Prop := ∀ b j, b ≠ 133 → b ≠ 134 → ¬ (b = 103 ∧ j = 53) → I2 b j = I b j
theorem mRI.trans {I I1 I2 : px_I} (h : mRI I I1) (h2 : mRI I1 I2) : mRI I I2 := fun b j h3 h4 h5 => (h2 b j h3 h4 h5).trans (h b j h3 h4 h5)
theorem mRI.u3 {I I1 : px_I} (h : mRI I I1) (k : Nat) (v : Int32) : mRI I (px_u I1 133 k v) := fun b j h3 h4 h5 => by rw [px_u_ne h3]; exact h b j h3 h4 h5
theorem mRI.u4 {I I1 : px_I} (h : mRI I I1) (k : Nat) (v : Int32) : mRI I (px_u I1 134 k v) := fun b j h3 h4 h5 => by rw [px_u_ne h4]; exact h b j h3 h4 h5
theorem mRI.ur {I I1 : px_I} (h : mRI I I1) (v : Int32) : mRI I (px_u I1 103 53 v) := fun b j h3 h4 h5 => by rw [px_ur, ← h b j h3 h4 h5]; grind
theorem mRL.trans {L L1 L2 : px_L} (h : mRL L L1) (h2 : mRL L1 L2) : mRL L L2 := fun b h3 => (h2 b h3).trans (h b h3)
theorem mRL.u {L L1 : px_L} (h : mRL L L1) (k : Nat) (v : Int64) : mRL L (px_u L1 132 k v) := fun b h3 => by rw [px_u_ne h3]; exact h b h3

theorem q_X12_goesOn_0 : px_bk 12 8 cX12_goesOn 0 [(.aload_n 0, (0, 0, 0, 0, 0), 0, 0), (.getfield 121, (12, 52, 3, 132, 0), 0, 0), (.bipush 7, (0, 0, 0, 0, 0), 7, 0), (.laload, (0, 0, 0, 0, 0), 0, 0), (.l2i, (0, 0, 0, 0, 0), 0, 0)] = some 8 ∧ px_tS cX12_goesOn 8 375 = true := by decide +kernel
theorem q_X12_goesOn_11 : px_bk 12 8 cX12_goesOn 11 [(.istore_n 2, (0, 0, 0, 0, 0), 0, 0), (.aload_n 0, (0, 0, 0, 0, 0), 0, 0), (.getfield 121, (12, 52, 3, 132, 0), 0, 0), (.bipush 7, (0, 0, 0, 0, 0), 7, 0), (.laload, (0, 0, 0, 0, 0), 0, 0), (.l2i, (0, 0, 0, 0, 0), 0, 0), (.bipush 12, (0, 0, 0, 0, 0), 12, 0), (.iadd, (0, 0, 0, 0, 0), 0, 0)] = some 23 ∧ px_tS cX12_goesOn 23 375 = true := by decide +kernel
theorem q_X12_goesOn_26 : px_bk 12 8 cX12_goesOn 26 [(.istore_n 3, (0, 0, 0, 0, 0), 0, 0), (.iload_n 1, (0, 0, 0, 0, 0), 0, 0), (.i2l, (0, 0, 0, 0, 0), 0, 0), (.aload_n 0, (0, 0, 0, 0, 0), 0, 0), (.getfield 106, (12, 47, 0, 0, 0), 0, 0), (.i2l, (0, 0, 0, 0, 0), 0, 0), (.lmul, (0, 0, 0, 0, 0), 0, 0), (.ldc2_w 379, (0, 0, 0, 0, 0), 0, 10)] = some 38 ∧ px_tS cX12_goesOn 38 381 = true := by decide +kernel
theorem q_X12_goesOn_41 : px_bk 12 8 cX12_goesOn 41 [(.lstore 4, (0, 0, 0, 0, 0), 0, 0), (.iload_n 1, (0, 0, 0, 0, 0), 0, 0), (.i2l, (0, 0, 0, 0, 0), 0, 0), (.aload_n 0, (0, 0, 0, 0, 0), 0, 0), (.getfield 121, (12, 52, 3, 132, 0), 0, 0), (.bipush 6, (0, 0, 0, 0, 0), 6, 0), (.laload, (0, 0, 0, 0, 0), 0, 0), (.lmul, (0, 0, 0, 0, 0), 0, 0), (.ldc2_w 379, (0, 0, 0, 0, 0), 0, 10)] = some 56 ∧ px_tS cX12_goesOn 56 381 = true := by decide +kernel
theorem q_X12_goesOn_59 : px_bk 12 8 cX12_goesOn 59 [(.lstore 6, (0, 0, 0, 0, 0), 0, 0), (.aload_n 0, (0, 0, 0, 0, 0), 0, 0), (.getfield 121, (12, 52, 3, 132, 0), 0, 0), (.iconst 0, (0, 0, 0, 0, 0), 0, 0), (.dup2, (0, 0, 0, 0, 0), 0, 0), (.laload, (0, 0, 0, 0, 0), 0, 0), (.iload_n 1, (0, 0, 0, 0, 0), 0, 0), (.i2l, (0, 0, 0, 0, 0), 0, 0), (.iload_n 2, (0, 0, 0, 0, 0), 0, 0), (.i2l, (0, 0, 0, 0, 0), 0, 0), (.lmul, (0, 0, 0, 0, 0), 0, 0), (.ladd, (0, 0, 0, 0, 0), 0, 0), (.lastore, (0, 0, 0, 0, 0), 0, 0), (.aload_n 0, (0, 0, 0, 0, 0), 0, 0), (.getfield 121, (12, 52, 3, 132, 0), 0, 0), (.iconst 1, (0, 0, 0, 0, 0), 1, 0), (.dup2, (0, 0, 0, 0, 0), 0, 0), (.laload, (0, 0, 0, 0, 0), 0, 0), (.iload_n 1, (0, 0, 0, 0, 0), 0, 0), (.i2l, (0, 0, 0, 0, 0), 0, 0), (.iload_n 3, (0, 0, 0, 0, 0), 0, 0), (.i2l, (0, 0, 0, 0, 0), 0, 0), (.lmul, (0, 0, 0, 0, 0), 0, 0), (.ladd, (0, 0, 0, 0, 0), 0, 0), (.lastore, (0, 0, 0, 0, 0), 0, 0), (.aload_n 0, (0, 0, 0, 0, 0), 0, 0), (.getfield 121, (12, 52, 3, 132, 0), 0, 0), (.iconst 3, (0, 0, 0, 0, 0), 3, 0), (.dup2, (0, 0, 0, 0, 0), 0, 0), (.laload, (0, 0, 0, 0, 0), 0, 0), (.lload 4, (0, 0, 0, 0, 0), 0, 0), (.iload_n 2, (0, 0, 0, 0, 0), 0, 0)] = some 99 ∧ px_tS cX12_goesOn 99 385 = true := by decide +kernel
theorem q_X12_goesOn_102 : px_bk 12 8 cX12_goesOn 102 [(.i2l, (0, 0, 0, 0, 0), 0, 0), (.lmul, (0, 0, 0, 0, 0), 0, 0), (.lload 6, (0, 0, 0, 0, 0), 0, 0), (.iload_n 3, (0, 0, 0, 0, 0), 0, 0)] = some 107 ∧ px_tS cX12_goesOn 107 385 = true := by decide +kernel
theorem q_X12_goesOn_110 : px_bk 12 8 cX12_goesOn 110 [(.i2l, (0, 0, 0, 0, 0), 0, 0), (.lmul, (0, 0, 0, 0, 0), 0, 0), (.ladd, (0, 0, 0, 0, 0), 0, 0), (.ldc2_w 175, (0, 0, 0, 0, 0), 0, 1000)] = some 116 ∧ px_tS cX12_goesOn 116 381 = true := by decide +kernel
theorem q_X12_goesOn_119 : px_bk 12 8 cX12_goesOn 119 [(.ladd, (0, 0, 0, 0, 0), 0, 0), (.lastore, (0, 0, 0, 0, 0), 0, 0), (.aload_n 0, (0, 0, 0, 0, 0), 0, 0), (.getfield 121, (12, 52, 3, 132, 0), 0, 0), (.iconst 4, (0, 0, 0, 0, 0), 4, 0), (.dup2, (0, 0, 0, 0, 0), 0, 0), (.laload, (0, 0, 0, 0, 0), 0, 0), (.lload 4, (0, 0, 0, 0, 0), 0, 0), (.iload_n 3, (0, 0, 0, 0, 0), 0, 0)] = some 131 ∧ px_tS cX12_goesOn 131 385 = true := by decide +kernel
theorem q_X12_goesOn_134 : px_bk 12 8 cX12_goesOn 134 [(.i2l, (0, 0, 0, 0, 0), 0, 0), (.lmul, (0, 0, 0, 0, 0), 0, 0), (.lload 6, (0, 0, 0, 0, 0), 0, 0), (.iload_n 2, (0, 0, 0, 0, 0), 0, 0)] = some 139 ∧ px_tS cX12_goesOn 139 385 = true := by decide +kernel
theorem q_X12_goesOn_142 : px_bk 12 8 cX12_goesOn 142 [(.i2l, (0, 0, 0, 0, 0), 0, 0), (.lmul, (0, 0, 0, 0, 0), 0, 0), (.ladd, (0, 0, 0, 0, 0), 0, 0), (.ldc2_w 175, (0, 0, 0, 0, 0), 0, 1000)] = some 148 ∧ px_tS cX12_goesOn 148 381 = true := by decide +kernel
theorem q_X12_goesOn_151 : px_bk 12 8 cX12_goesOn 151 [(.ladd, (0, 0, 0, 0, 0), 0, 0), (.lastore, (0, 0, 0, 0, 0), 0, 0), (.aload_n 0, (0, 0, 0, 0, 0), 0, 0), (.getfield 121, (12, 52, 3, 132, 0), 0, 0), (.iconst 5, (0, 0, 0, 0, 0), 5, 0), (.dup2, (0, 0, 0, 0, 0), 0, 0), (.laload, (0, 0, 0, 0, 0), 0, 0), (.iload_n 1, (0, 0, 0, 0, 0), 0, 0), (.i2l, (0, 0, 0, 0, 0), 0, 0), (.aload_n 0, (0, 0, 0, 0, 0), 0, 0), (.getfield 109, (12, 48, 0, 0, 0), 0, 0), (.i2l, (0, 0, 0, 0, 0), 0, 0), (.lmul, (0, 0, 0, 0, 0), 0, 0), (.ldc2_w 379, (0, 0, 0, 0, 0), 0, 10)] = some 171 ∧ px_tS cX12_goesOn 171 381 = true := by decide +kernel
theorem q_X12_goesOn_174 : px_bk 12 8 cX12_goesOn 174 [(.ladd, (0, 0, 0, 0, 0), 0, 0), (.lastore, (0, 0, 0, 0, 0), 0, 0)] = some 176 ∧ px_tr cX12_goesOn 176 .return_ = true := by decide +kernel
set_option maxRecDepth 100000 in
theorem k_goesOn {n : Nat} {I : px_I} {L : px_L} {R : px_R} (hg : px_G n R) (x : Int32) : px_KV M_X12_goesOn [.ref 103, .int x] n I L R (fun I2 L2 => I2 = I ∧ mRL L L2) := by
  refine px_of (plainFor_of_name np_RX12) (fun _ _ _ => trivial) rfl ?_
  refine px_cSP rfl q_X12_goesOn_0 hg rfl ⟨trivial, (by decide)⟩ lk_12_375 nm_X12_along (k_along hg _) rfl rfl rfl ⟨rfl, rfl⟩ ?_
  intro x8 h8
  refine px_cSP rfl q_X12_goesOn_11 hg rfl ⟨trivial, (by decide)⟩ lk_12_375 nm_X12_along (k_along hg _) rfl rfl rfl ⟨rfl, rfl⟩ ?_
  intro x23 h23
  refine px_cSQ rfl q_X12_goesOn_26 hg rfl trivial lk_12_381 nm_X12_up (k_up hg _ _ (by decide)) rfl rfl rfl ⟨rfl, rfl⟩ ?_
  intro x38 h38
  refine px_cSQ rfl q_X12_goesOn_41 hg rfl ⟨trivial, (by decide)⟩ lk_12_381 nm_X12_up (k_up hg _ _ (by decide)) rfl rfl rfl ⟨rfl, rfl⟩ ?_
  intro x56 h56
  refine px_cSP rfl q_X12_goesOn_59 hg rfl ⟨⟨⟨⟨⟨trivial, (by decide)⟩, (by decide)⟩, (by decide)⟩, (by decide)⟩, (by decide)⟩ lk_12_385 nm_X12_size (k_size hg _) rfl rfl rfl ⟨rfl, rfl⟩ ?_
  intro x99 h99
  refine px_cSP rfl q_X12_goesOn_102 hg rfl trivial lk_12_385 nm_X12_size (k_size hg _) rfl rfl rfl ⟨rfl, rfl⟩ ?_
  intro x107 h107
  refine px_cSQ rfl q_X12_goesOn_110 hg rfl trivial lk_12_381 nm_X12_up (k_up hg _ _ (by decide)) rfl rfl rfl ⟨rfl, rfl⟩ ?_
  intro x116 h116
  refine px_cSP rfl q_X12_goesOn_119 hg rfl ⟨⟨trivial, (by decide)⟩, (by decide)⟩ lk_12_385 nm_X12_size (k_size hg _) rfl rfl rfl ⟨rfl, rfl⟩ ?_
  intro x131 h131
  refine px_cSP rfl q_X12_goesOn_134 hg rfl trivial lk_12_385 nm_X12_size (k_size hg _) rfl rfl rfl ⟨rfl, rfl⟩ ?_
  intro x139 h139
  refine px_cSQ rfl q_X12_goesOn_142 hg rfl trivial lk_12_381 nm_X12_up (k_up hg _ _ (by decide)) rfl rfl rfl ⟨rfl, rfl⟩ ?_
  intro x148 h148
  refine px_cSQ rfl q_X12_goesOn_151 hg rfl ⟨⟨trivial, (by decide)⟩, (by decide)⟩ lk_12_381 nm_X12_up (k_up hg _ _ (by decide)) rfl rfl rfl ⟨rfl, rfl⟩ ?_
  intro x171 h171
  refine px_rvW rfl q_X12_goesOn_174 rfl rfl rfl hg rfl ⟨trivial, (by decide)⟩ ⟨⟨rfl, rfl⟩, ?_⟩
  exact ⟨rfl, mRL.u (mRL.u (mRL.u (mRL.u (mRL.u (fun _ _ => rfl) _ _) _ _) _ _) _ _) _ _⟩

theorem q_X12_does_0 : px_bk 12 3 cX12_does 0 [(.iload_n 1, (0, 0, 0, 0, 0), 0, 0)] = some 1 := by decide +kernel
theorem q_X12_does_1S : decode cX12_does 1 = .ok (.tableswitch 266 1 6 #[39, 47, 86, 100, 114, 225], 39) := by decide +kernel
theorem q_X12_does_40 : px_bk 12 3 cX12_does 40 [(.aload_n 0, (0, 0, 0, 0, 0), 0, 0), (.iload_n 2, (0, 0, 0, 0, 0), 0, 0)] = some 42 ∧ px_tv cX12_does 42 387 = true := by decide +kernel
theorem q_X12_does_45 : px_bk 12 3 cX12_does 45 [(.goto 222, (0, 0, 0, 0, 0), 0, 0)] = some 267 ∧ px_tr cX12_does 267 .return_ = true := by decide +kernel
theorem q_X12_does_48 : px_bk 12 3 cX12_does 48 [(.aload_n 0, (0, 0, 0, 0, 0), 0, 0), (.getfield 121, (12, 52, 3, 132, 0), 0, 0), (.bipush 7, (0, 0, 0, 0, 0), 7, 0), (.aload_n 0, (0, 0, 0, 0, 0), 0, 0), (.getfield 121, (12, 52, 3, 132, 0), 0, 0), (.bipush 7, (0, 0, 0, 0, 0), 7, 0), (.laload, (0, 0, 0, 0, 0), 0, 0), (.iload_n 2, (0, 0, 0, 0, 0), 0, 0), (.i2l, (0, 0, 0, 0, 0), 0, 0), (.ladd, (0, 0, 0, 0, 0), 0, 0), (.ldc2_w 390, (0, 0, 0, 0, 0), 0, 16), (.lrem, (0, 0, 0, 0, 0), 0, 0), (.lastore, (0, 0, 0, 0, 0), 0, 0), (.aload_n 0, (0, 0, 0, 0, 0), 0, 0), (.getfield 121, (12, 52, 3, 132, 0), 0, 0), (.bipush 6, (0, 0, 0, 0, 0), 6, 0), (.dup2, (0, 0, 0, 0, 0), 0, 0), (.laload, (0, 0, 0, 0, 0), 0, 0), (.aload_n 0, (0, 0, 0, 0, 0), 0, 0), (.getfield 112, (12, 49, 0, 0, 0), 0, 0), (.i2l, (0, 0, 0, 0, 0), 0, 0), (.ladd, (0, 0, 0, 0, 0), 0, 0), (.lastore, (0, 0, 0, 0, 0), 0, 0), (.goto 183, (0, 0, 0, 0, 0), 0, 0)] = some 267 ∧ px_tr cX12_does 267 .return_ = true := by decide +kernel
theorem q_X12_does_87 : px_bk 12 3 cX12_does 87 [(.aload_n 0, (0, 0, 0, 0, 0), 0, 0), (.getfield 121, (12, 52, 3, 132, 0), 0, 0), (.iconst 2, (0, 0, 0, 0, 0), 2, 0), (.dup2, (0, 0, 0, 0, 0), 0, 0), (.laload, (0, 0, 0, 0, 0), 0, 0), (.iload_n 2, (0, 0, 0, 0, 0), 0, 0), (.i2l, (0, 0, 0, 0, 0), 0, 0), (.ladd, (0, 0, 0, 0, 0), 0, 0), (.lastore, (0, 0, 0, 0, 0), 0, 0), (.goto 169, (0, 0, 0, 0, 0), 0, 0)] = some 267 ∧ px_tr cX12_does 267 .return_ = true := by decide +kernel
theorem q_X12_does_101 : px_bk 12 3 cX12_does 101 [(.aload_n 0, (0, 0, 0, 0, 0), 0, 0), (.getfield 121, (12, 52, 3, 132, 0), 0, 0), (.iconst 2, (0, 0, 0, 0, 0), 2, 0), (.dup2, (0, 0, 0, 0, 0), 0, 0), (.laload, (0, 0, 0, 0, 0), 0, 0), (.iload_n 2, (0, 0, 0, 0, 0), 0, 0), (.i2l, (0, 0, 0, 0, 0), 0, 0), (.lsub, (0, 0, 0, 0, 0), 0, 0), (.lastore, (0, 0, 0, 0, 0), 0, 0), (.goto 155, (0, 0, 0, 0, 0), 0, 0)] = some 267 ∧ px_tr cX12_does 267 .return_ = true := by decide +kernel
theorem q_X12_does_115 : px_bk 12 3 cX12_does 115 [(.aload_n 0, (0, 0, 0, 0, 0), 0, 0), (.getfield 121, (12, 52, 3, 132, 0), 0, 0), (.iconst 3, (0, 0, 0, 0, 0), 3, 0), (.aload_n 0, (0, 0, 0, 0, 0), 0, 0), (.getfield 121, (12, 52, 3, 132, 0), 0, 0), (.iconst 3, (0, 0, 0, 0, 0), 3, 0), (.laload, (0, 0, 0, 0, 0), 0, 0), (.aload_n 0, (0, 0, 0, 0, 0), 0, 0), (.getfield 115, (12, 50, 0, 0, 0), 0, 0), (.i2l, (0, 0, 0, 0, 0), 0, 0), (.lcmp, (0, 0, 0, 0, 0), 0, 0)] = some 132 ∧ px_t1 cX12_does 132 .le 143 = true := by decide +kernel
theorem q_X12_does_143 : px_bk 12 3 cX12_does 143 [(.aload_n 0, (0, 0, 0, 0, 0), 0, 0), (.getfield 121, (12, 52, 3, 132, 0), 0, 0), (.iconst 3, (0, 0, 0, 0, 0), 3, 0), (.laload, (0, 0, 0, 0, 0), 0, 0), (.lastore, (0, 0, 0, 0, 0), 0, 0), (.aload_n 0, (0, 0, 0, 0, 0), 0, 0), (.getfield 121, (12, 52, 3, 132, 0), 0, 0), (.iconst 4, (0, 0, 0, 0, 0), 4, 0), (.aload_n 0, (0, 0, 0, 0, 0), 0, 0), (.getfield 121, (12, 52, 3, 132, 0), 0, 0), (.iconst 4, (0, 0, 0, 0, 0), 4, 0), (.laload, (0, 0, 0, 0, 0), 0, 0), (.aload_n 0, (0, 0, 0, 0, 0), 0, 0), (.getfield 115, (12, 50, 0, 0, 0), 0, 0), (.i2l, (0, 0, 0, 0, 0), 0, 0), (.lcmp, (0, 0, 0, 0, 0), 0, 0)] = some 167 ∧ px_t1 cX12_does 167 .le 178 = true := by decide +kernel
theorem q_X12_does_178 : px_bk 12 3 cX12_does 178 [(.aload_n 0, (0, 0, 0, 0, 0), 0, 0), (.getfield 121, (12, 52, 3, 132, 0), 0, 0), (.iconst 4, (0, 0, 0, 0, 0), 4, 0), (.laload, (0, 0, 0, 0, 0), 0, 0), (.lastore, (0, 0, 0, 0, 0), 0, 0), (.aload_n 0, (0, 0, 0, 0, 0), 0, 0), (.getfield 121, (12, 52, 3, 132, 0), 0, 0), (.bipush 6, (0, 0, 0, 0, 0), 6, 0), (.aload_n 0, (0, 0, 0, 0, 0), 0, 0), (.getfield 121, (12, 52, 3, 132, 0), 0, 0), (.bipush 6, (0, 0, 0, 0, 0), 6, 0), (.laload, (0, 0, 0, 0, 0), 0, 0), (.aload_n 0, (0, 0, 0, 0, 0), 0, 0), (.getfield 112, (12, 49, 0, 0, 0), 0, 0), (.i2l, (0, 0, 0, 0, 0), 0, 0), (.lcmp, (0, 0, 0, 0, 0), 0, 0)] = some 204 ∧ px_t1 cX12_does 204 .le 215 = true := by decide +kernel
theorem q_X12_does_215 : px_bk 12 3 cX12_does 215 [(.aload_n 0, (0, 0, 0, 0, 0), 0, 0), (.getfield 121, (12, 52, 3, 132, 0), 0, 0), (.bipush 6, (0, 0, 0, 0, 0), 6, 0), (.laload, (0, 0, 0, 0, 0), 0, 0), (.lastore, (0, 0, 0, 0, 0), 0, 0), (.goto 44, (0, 0, 0, 0, 0), 0, 0)] = some 267 ∧ px_tr cX12_does 267 .return_ = true := by decide +kernel
theorem q_X12_does_207 : px_bk 12 3 cX12_does 207 [(.aload_n 0, (0, 0, 0, 0, 0), 0, 0), (.getfield 112, (12, 49, 0, 0, 0), 0, 0), (.i2l, (0, 0, 0, 0, 0), 0, 0), (.goto 10, (0, 0, 0, 0, 0), 0, 0), (.lastore, (0, 0, 0, 0, 0), 0, 0), (.goto 44, (0, 0, 0, 0, 0), 0, 0)] = some 267 ∧ px_tr cX12_does 267 .return_ = true := by decide +kernel
theorem q_X12_does_170 : px_bk 12 3 cX12_does 170 [(.aload_n 0, (0, 0, 0, 0, 0), 0, 0), (.getfield 115, (12, 50, 0, 0, 0), 0, 0), (.i2l, (0, 0, 0, 0, 0), 0, 0), (.goto 9, (0, 0, 0, 0, 0), 0, 0), (.lastore, (0, 0, 0, 0, 0), 0, 0), (.aload_n 0, (0, 0, 0, 0, 0), 0, 0), (.getfield 121, (12, 52, 3, 132, 0), 0, 0), (.bipush 6, (0, 0, 0, 0, 0), 6, 0), (.aload_n 0, (0, 0, 0, 0, 0), 0, 0), (.getfield 121, (12, 52, 3, 132, 0), 0, 0), (.bipush 6, (0, 0, 0, 0, 0), 6, 0), (.laload, (0, 0, 0, 0, 0), 0, 0), (.aload_n 0, (0, 0, 0, 0, 0), 0, 0), (.getfield 112, (12, 49, 0, 0, 0), 0, 0), (.i2l, (0, 0, 0, 0, 0), 0, 0), (.lcmp, (0, 0, 0, 0, 0), 0, 0)] = some 204 ∧ px_t1 cX12_does 204 .le 215 = true := by decide +kernel
theorem q_X12_does_135 : px_bk 12 3 cX12_does 135 [(.aload_n 0, (0, 0, 0, 0, 0), 0, 0), (.getfield 115, (12, 50, 0, 0, 0), 0, 0), (.i2l, (0, 0, 0, 0, 0), 0, 0), (.goto 9, (0, 0, 0, 0, 0), 0, 0), (.lastore, (0, 0, 0, 0, 0), 0, 0), (.aload_n 0, (0, 0, 0, 0, 0), 0, 0), (.getfield 121, (12, 52, 3, 132, 0), 0, 0), (.iconst 4, (0, 0, 0, 0, 0), 4, 0), (.aload_n 0, (0, 0, 0, 0, 0), 0, 0), (.getfield 121, (12, 52, 3, 132, 0), 0, 0), (.iconst 4, (0, 0, 0, 0, 0), 4, 0), (.laload, (0, 0, 0, 0, 0), 0, 0), (.aload_n 0, (0, 0, 0, 0, 0), 0, 0), (.getfield 115, (12, 50, 0, 0, 0), 0, 0), (.i2l, (0, 0, 0, 0, 0), 0, 0), (.lcmp, (0, 0, 0, 0, 0), 0, 0)] = some 167 ∧ px_t1 cX12_does 167 .le 178 = true := by decide +kernel
theorem q_X12_does_226 : px_bk 12 3 cX12_does 226 [(.aload_n 0, (0, 0, 0, 0, 0), 0, 0), (.getfield 121, (12, 52, 3, 132, 0), 0, 0), (.bipush 6, (0, 0, 0, 0, 0), 6, 0), (.aload_n 0, (0, 0, 0, 0, 0), 0, 0), (.getfield 121, (12, 52, 3, 132, 0), 0, 0), (.bipush 6, (0, 0, 0, 0, 0), 6, 0), (.laload, (0, 0, 0, 0, 0), 0, 0), (.aload_n 0, (0, 0, 0, 0, 0), 0, 0), (.getfield 118, (12, 51, 0, 0, 0), 0, 0), (.i2l, (0, 0, 0, 0, 0), 0, 0), (.lcmp, (0, 0, 0, 0, 0), 0, 0)] = some 245 ∧ px_t1 cX12_does 245 .le 256 = true := by decide +kernel
theorem q_X12_does_256 : px_bk 12 3 cX12_does 256 [(.aload_n 0, (0, 0, 0, 0, 0), 0, 0), (.getfield 121, (12, 52, 3, 132, 0), 0, 0), (.bipush 6, (0, 0, 0, 0, 0), 6, 0), (.laload, (0, 0, 0, 0, 0), 0, 0), (.lastore, (0, 0, 0, 0, 0), 0, 0), (.goto 3, (0, 0, 0, 0, 0), 0, 0)] = some 267 ∧ px_tr cX12_does 267 .return_ = true := by decide +kernel
theorem q_X12_does_248 : px_bk 12 3 cX12_does 248 [(.aload_n 0, (0, 0, 0, 0, 0), 0, 0), (.getfield 118, (12, 51, 0, 0, 0), 0, 0), (.i2l, (0, 0, 0, 0, 0), 0, 0), (.goto 10, (0, 0, 0, 0, 0), 0, 0), (.lastore, (0, 0, 0, 0, 0), 0, 0), (.goto 3, (0, 0, 0, 0, 0), 0, 0)] = some 267 ∧ px_tr cX12_does 267 .return_ = true := by decide +kernel
theorem q_X12_does_267 : px_bk 12 3 cX12_does 267 [] = some 267 ∧ px_tr cX12_does 267 .return_ = true := by decide +kernel
set_option maxRecDepth 100000 in
theorem k_does {n : Nat} {I : px_I} {L : px_L} {R : px_R} (hg : px_G n R) (o v : Int32) : px_KV M_X12_does [.ref 103, .int o, .int v] n I L R (fun I2 L2 => I2 = I ∧ mRL L L2) := by
  refine px_of (plainFor_of_name np_RX12) (fun _ _ _ => trivial) rfl ?_
  refine px_b rfl q_X12_does_0 hg rfl trivial ?_
  by_cases s1_1 : o = 1
  · refine px_swI (tgt := 40) (off := 39) q_X12_does_1S s1_1 (by decide) (by decide) (by decide) (by decide) ?_
    refine px_cVW (ci := 12) rfl q_X12_does_40 hg rfl trivial lk_12_387 nm_X12_goesOn (k_goesOn hg _) rfl rfl (px_lit hg rfl) rfl rfl rfl ⟨rfl, rfl⟩ ?_
    intro I42 L42 h42
    refine px_rvW rfl q_X12_does_45 rfl rfl rfl hg rfl trivial ⟨⟨rfl, rfl⟩, ?_⟩
    first | exact ⟨rfl, fun _ _ => rfl⟩ | exact ⟨rfl, mRL.u (fun _ _ => rfl) _ _⟩ | exact ⟨rfl, mRL.u (mRL.u (fun _ _ => rfl) _ _) _ _⟩ | exact ⟨rfl, mRL.u (mRL.u (mRL.u (fun _ _ => rfl) _ _) _ _) _ _⟩ | assumption
  by_cases s1_2 : o = 2
  · refine px_swI (tgt := 48) (off := 47) q_X12_does_1S s1_2 (by decide) (by decide) (by decide) (by decide) ?_
    refine px_rvW rfl q_X12_does_48 rfl rfl rfl hg rfl ⟨⟨⟨⟨⟨trivial, (by decide)⟩, (by decide)⟩, (by decide)⟩, (by decide)⟩, (by decide)⟩ ⟨⟨rfl, rfl⟩, ?_⟩
    first | exact ⟨rfl, fun _ _ => rfl⟩ | exact ⟨rfl, mRL.u (fun _ _ => rfl) _ _⟩ | exact ⟨rfl, mRL.u (mRL.u (fun _ _ => rfl) _ _) _ _⟩ | exact ⟨rfl, mRL.u (mRL.u (mRL.u (fun _ _ => rfl) _ _) _ _) _ _⟩ | assumption
  by_cases s1_3 : o = 3
  · refine px_swI (tgt := 87) (off := 86) q_X12_does_1S s1_3 (by decide) (by decide) (by decide) (by decide) ?_
    refine px_rvW rfl q_X12_does_87 rfl rfl rfl hg rfl ⟨⟨trivial, (by decide)⟩, (by decide)⟩ ⟨⟨rfl, rfl⟩, ?_⟩
    first | exact ⟨rfl, fun _ _ => rfl⟩ | exact ⟨rfl, mRL.u (fun _ _ => rfl) _ _⟩ | exact ⟨rfl, mRL.u (mRL.u (fun _ _ => rfl) _ _) _ _⟩ | exact ⟨rfl, mRL.u (mRL.u (mRL.u (fun _ _ => rfl) _ _) _ _) _ _⟩ | assumption
  by_cases s1_4 : o = 4
  · refine px_swI (tgt := 101) (off := 100) q_X12_does_1S s1_4 (by decide) (by decide) (by decide) (by decide) ?_
    refine px_rvW rfl q_X12_does_101 rfl rfl rfl hg rfl ⟨⟨trivial, (by decide)⟩, (by decide)⟩ ⟨⟨rfl, rfl⟩, ?_⟩
    first | exact ⟨rfl, fun _ _ => rfl⟩ | exact ⟨rfl, mRL.u (fun _ _ => rfl) _ _⟩ | exact ⟨rfl, mRL.u (mRL.u (fun _ _ => rfl) _ _) _ _⟩ | exact ⟨rfl, mRL.u (mRL.u (mRL.u (fun _ _ => rfl) _ _) _ _) _ _⟩ | assumption
  by_cases s1_5 : o = 5
  · refine px_swI (tgt := 115) (off := 114) q_X12_does_1S s1_5 (by decide) (by decide) (by decide) (by decide) ?_
    refine px_lle rfl q_X12_does_115 hg rfl ⟨trivial, (by decide)⟩ (fun c132 => ?_) (fun c132 => ?_)
    · refine px_lle rfl q_X12_does_143 hg rfl ⟨⟨⟨trivial, (by decide)⟩, (by decide)⟩, (by decide)⟩ (fun c167 => ?_) (fun c167 => ?_)
      · refine px_lle rfl q_X12_does_178 hg rfl ⟨⟨⟨trivial, (by decide)⟩, (by decide)⟩, (by decide)⟩ (fun c204 => ?_) (fun c204 => ?_)
        · refine px_rvW rfl q_X12_does_215 rfl rfl rfl hg rfl ⟨⟨trivial, (by decide)⟩, (by decide)⟩ ⟨⟨rfl, rfl⟩, ?_⟩
          first | exact ⟨rfl, fun _ _ => rfl⟩ | exact ⟨rfl, mRL.u (fun _ _ => rfl) _ _⟩ | exact ⟨rfl, mRL.u (mRL.u (fun _ _ => rfl) _ _) _ _⟩ | exact ⟨rfl, mRL.u (mRL.u (mRL.u (fun _ _ => rfl) _ _) _ _) _ _⟩ | assumption
        · refine px_rvW rfl q_X12_does_207 rfl rfl rfl hg rfl ⟨trivial, (by decide)⟩ ⟨⟨rfl, rfl⟩, ?_⟩
          first | exact ⟨rfl, fun _ _ => rfl⟩ | exact ⟨rfl, mRL.u (fun _ _ => rfl) _ _⟩ | exact ⟨rfl, mRL.u (mRL.u (fun _ _ => rfl) _ _) _ _⟩ | exact ⟨rfl, mRL.u (mRL.u (mRL.u (fun _ _ => rfl) _ _) _ _) _ _⟩ | assumption
      · refine px_lle rfl q_X12_does_170 hg rfl ⟨⟨trivial, (by decide)⟩, (by decide)⟩ (fun c204 => ?_) (fun c204 => ?_)
        · refine px_rvW rfl q_X12_does_215 rfl rfl rfl hg rfl ⟨⟨trivial, (by decide)⟩, (by decide)⟩ ⟨⟨rfl, rfl⟩, ?_⟩
          first | exact ⟨rfl, fun _ _ => rfl⟩ | exact ⟨rfl, mRL.u (fun _ _ => rfl) _ _⟩ | exact ⟨rfl, mRL.u (mRL.u (fun _ _ => rfl) _ _) _ _⟩ | exact ⟨rfl, mRL.u (mRL.u (mRL.u (fun _ _ => rfl) _ _) _ _) _ _⟩ | assumption
        · refine px_rvW rfl q_X12_does_207 rfl rfl rfl hg rfl ⟨trivial, (by decide)⟩ ⟨⟨rfl, rfl⟩, ?_⟩
          first | exact ⟨rfl, fun _ _ => rfl⟩ | exact ⟨rfl, mRL.u (fun _ _ => rfl) _ _⟩ | exact ⟨rfl, mRL.u (mRL.u (fun _ _ => rfl) _ _) _ _⟩ | exact ⟨rfl, mRL.u (mRL.u (mRL.u (fun _ _ => rfl) _ _) _ _) _ _⟩ | assumption
    · refine px_lle rfl q_X12_does_135 hg rfl ⟨⟨trivial, (by decide)⟩, (by decide)⟩ (fun c167 => ?_) (fun c167 => ?_)
      · refine px_lle rfl q_X12_does_178 hg rfl ⟨⟨⟨trivial, (by decide)⟩, (by decide)⟩, (by decide)⟩ (fun c204 => ?_) (fun c204 => ?_)
        · refine px_rvW rfl q_X12_does_215 rfl rfl rfl hg rfl ⟨⟨trivial, (by decide)⟩, (by decide)⟩ ⟨⟨rfl, rfl⟩, ?_⟩
          first | exact ⟨rfl, fun _ _ => rfl⟩ | exact ⟨rfl, mRL.u (fun _ _ => rfl) _ _⟩ | exact ⟨rfl, mRL.u (mRL.u (fun _ _ => rfl) _ _) _ _⟩ | exact ⟨rfl, mRL.u (mRL.u (mRL.u (fun _ _ => rfl) _ _) _ _) _ _⟩ | assumption
        · refine px_rvW rfl q_X12_does_207 rfl rfl rfl hg rfl ⟨trivial, (by decide)⟩ ⟨⟨rfl, rfl⟩, ?_⟩
          first | exact ⟨rfl, fun _ _ => rfl⟩ | exact ⟨rfl, mRL.u (fun _ _ => rfl) _ _⟩ | exact ⟨rfl, mRL.u (mRL.u (fun _ _ => rfl) _ _) _ _⟩ | exact ⟨rfl, mRL.u (mRL.u (mRL.u (fun _ _ => rfl) _ _) _ _) _ _⟩ | assumption
      · refine px_lle rfl q_X12_does_170 hg rfl ⟨⟨trivial, (by decide)⟩, (by decide)⟩ (fun c204 => ?_) (fun c204 => ?_)
        · refine px_rvW rfl q_X12_does_215 rfl rfl rfl hg rfl ⟨⟨trivial, (by decide)⟩, (by decide)⟩ ⟨⟨rfl, rfl⟩, ?_⟩
          first | exact ⟨rfl, fun _ _ => rfl⟩ | exact ⟨rfl, mRL.u (fun _ _ => rfl) _ _⟩ | exact ⟨rfl, mRL.u (mRL.u (fun _ _ => rfl) _ _) _ _⟩ | exact ⟨rfl, mRL.u (mRL.u (mRL.u (fun _ _ => rfl) _ _) _ _) _ _⟩ | assumption
        · refine px_rvW rfl q_X12_does_207 rfl rfl rfl hg rfl ⟨trivial, (by decide)⟩ ⟨⟨rfl, rfl⟩, ?_⟩
          first | exact ⟨rfl, fun _ _ => rfl⟩ | exact ⟨rfl, mRL.u (fun _ _ => rfl) _ _⟩ | exact ⟨rfl, mRL.u (mRL.u (fun _ _ => rfl) _ _) _ _⟩ | exact ⟨rfl, mRL.u (mRL.u (mRL.u (fun _ _ => rfl) _ _) _ _) _ _⟩ | assumption
  by_cases s1_6 : o = 6
  · refine px_swI (tgt := 226) (off := 225) q_X12_does_1S s1_6 (by decide) (by decide) (by decide) (by decide) ?_
    refine px_lle rfl q_X12_does_226 hg rfl ⟨trivial, (by decide)⟩ (fun c245 => ?_) (fun c245 => ?_)
    · refine px_rvW rfl q_X12_does_256 rfl rfl rfl hg rfl ⟨⟨trivial, (by decide)⟩, (by decide)⟩ ⟨⟨rfl, rfl⟩, ?_⟩
      first | exact ⟨rfl, fun _ _ => rfl⟩ | exact ⟨rfl, mRL.u (fun _ _ => rfl) _ _⟩ | exact ⟨rfl, mRL.u (mRL.u (fun _ _ => rfl) _ _) _ _⟩ | exact ⟨rfl, mRL.u (mRL.u (mRL.u (fun _ _ => rfl) _ _) _ _) _ _⟩ | assumption
    · refine px_rvW rfl q_X12_does_248 rfl rfl rfl hg rfl ⟨trivial, (by decide)⟩ ⟨⟨rfl, rfl⟩, ?_⟩
      first | exact ⟨rfl, fun _ _ => rfl⟩ | exact ⟨rfl, mRL.u (fun _ _ => rfl) _ _⟩ | exact ⟨rfl, mRL.u (mRL.u (fun _ _ => rfl) _ _) _ _⟩ | exact ⟨rfl, mRL.u (mRL.u (mRL.u (fun _ _ => rfl) _ _) _ _) _ _⟩ | assumption
  refine px_swO (tgt := 267) q_X12_does_1S (px_out 1 6 (by decide) (fun k9 h8 h9 => ?_)) (by decide) ?_
  · match k9, h8, h9 with
    | 1, _, _ => exact s1_1
    | 2, _, _ => exact s1_2
    | 3, _, _ => exact s1_3
    | 4, _, _ => exact s1_4
    | 5, _, _ => exact s1_5
    | 6, _, _ => exact s1_6
    | 0, h8, _ => exact absurd h8 (by decide)
    | k9 + 7, _, h9 => exact absurd h9 (by omega)
  refine px_rvW rfl q_X12_does_267 rfl rfl rfl hg rfl trivial ⟨⟨rfl, rfl⟩, ?_⟩
  first | exact ⟨rfl, fun _ _ => rfl⟩ | exact ⟨rfl, mRL.u (fun _ _ => rfl) _ _⟩ | exact ⟨rfl, mRL.u (mRL.u (fun _ _ => rfl) _ _) _ _⟩ | exact ⟨rfl, mRL.u (mRL.u (mRL.u (fun _ _ => rfl) _ _) _ _) _ _⟩ | assumption

theorem q_X12_isBeyond_22 : px_bk 12 3 cX12_isBeyond 22 [(.iload_n 2, (0, 0, 0, 0, 0), 0, 0), (.bipush 7, (0, 0, 0, 0, 0), 7, 0)] = some 25 ∧ px_t2 cX12_isBeyond 25 .ge 70 = true := by decide +kernel
theorem q_X12_isBeyond_70 : px_bk 12 3 cX12_isBeyond 70 [(.iload_n 1, (0, 0, 0, 0, 0), 0, 0)] = some 71 ∧ px_tr cX12_isBeyond 71 .ireturn = true := by decide +kernel
theorem q_X12_isBeyond_28 : px_bk 12 3 cX12_isBeyond 28 [(.iload_n 1, (0, 0, 0, 0, 0), 0, 0)] = some 29 ∧ px_t1 cX12_isBeyond 29 .ne 58 = true := by decide +kernel
theorem q_X12_isBeyond_58 : px_bk 12 3 cX12_isBeyond 58 [(.iconst 1, (0, 0, 0, 0, 0), 1, 0), (.goto 4, (0, 0, 0, 0, 0), 0, 0), (.istore_n 1, (0, 0, 0, 0, 0), 0, 0), (.iinc 2 1, (0, 0, 0, 0, 0), 1, 0), (.goto (-45), (0, 0, 0, 0, 0), 0, 0)] = some 22 := by decide +kernel
theorem q_X12_isBeyond_32 : px_bk 12 3 cX12_isBeyond 32 [(.aload_n 0, (0, 0, 0, 0, 0), 0, 0), (.getfield 121, (12, 52, 3, 132, 0), 0, 0), (.iload_n 2, (0, 0, 0, 0, 0), 0, 0), (.laload, (0, 0, 0, 0, 0), 0, 0), (.ldc2_w 392, (0, 0, 0, 0, 0), 0, 100000000), (.lcmp, (0, 0, 0, 0, 0), 0, 0)] = some 42 ∧ px_t1 cX12_isBeyond 42 .gt 58 = true := by decide +kernel
theorem q_X12_isBeyond_45 : px_bk 12 3 cX12_isBeyond 45 [(.aload_n 0, (0, 0, 0, 0, 0), 0, 0), (.getfield 121, (12, 52, 3, 132, 0), 0, 0), (.iload_n 2, (0, 0, 0, 0, 0), 0, 0), (.laload, (0, 0, 0, 0, 0), 0, 0), (.ldc2_w 394, (0, 0, 0, 0, 0), 0, -100000000), (.lcmp, (0, 0, 0, 0, 0), 0, 0)] = some 55 ∧ px_t1 cX12_isBeyond 55 .ge 62 = true := by decide +kernel
theorem q_X12_isBeyond_62 : px_bk 12 3 cX12_isBeyond 62 [(.iconst 0, (0, 0, 0, 0, 0), 0, 0), (.istore_n 1, (0, 0, 0, 0, 0), 0, 0), (.iinc 2 1, (0, 0, 0, 0, 0), 1, 0), (.goto (-45), (0, 0, 0, 0, 0), 0, 0)] = some 22 := by decide +kernel
set_option maxRecDepth 100000 in
theorem l_isBeyond {n : Nat} {R : px_R} (hg : px_G n R) {Q : px_Q} {I : px_I} {L : px_L} (hq : ∀ r, (r = 0 ∨ r = 1) → Q (some (.int r)) n I L R) : ∀ i : Int32, i ≤ 7 → 0 ≤ i → ∀ b : Int32, (b = 0 ∨ b = 1) → px M_X12_isBeyond 0 0 22 [(0, .ref 103), (1, .int b), (2, .int i)] [] n I L R Q := by
  refine px_up 7 (fun i ih hi => ?_)
  intro h0 b hb
  refine px_ige rfl q_X12_isBeyond_22 hg rfl trivial (fun c25 => ?_) (fun c25 => ?_)
  · refine px_rz rfl q_X12_isBeyond_70 rfl rfl rfl hg rfl trivial (by first | exact Or.inl rfl | exact Or.inr rfl | grind) ?_
    exact hq _ hb
  · refine px_ne rfl q_X12_isBeyond_28 hg rfl trivial (fun c29 => ?_) (fun c29 => ?_)
    · refine px_b rfl q_X12_isBeyond_58 hg rfl trivial ?_
      exact px_go (ih (i + 1) (by grind) (by grind) (by grind) _ (by first | exact Or.inl rfl | exact Or.inr rfl)) ⟨rfl, rfl, rfl, trivial⟩
    · refine px_lgt rfl q_X12_isBeyond_32 hg rfl ⟨trivial, (by first | decide | (refine ⟨?_, ?_⟩ <;> grind) | grind)⟩ (fun c42 => ?_) (fun c42 => ?_)
      · refine px_b rfl q_X12_isBeyond_58 hg rfl trivial ?_
        exact px_go (ih (i + 1) (by grind) (by grind) (by grind) _ (by first | exact Or.inl rfl | exact Or.inr rfl)) ⟨rfl, rfl, rfl, trivial⟩
      · refine px_lge rfl q_X12_isBeyond_45 hg rfl ⟨trivial, (by first | decide | (refine ⟨?_, ?_⟩ <;> grind) | grind)⟩ (fun c55 => ?_) (fun c55 => ?_)
        · refine px_b rfl q_X12_isBeyond_62 hg rfl trivial ?_
          exact px_go (ih (i + 1) (by grind) (by grind) (by grind) _ (by first | exact Or.inl rfl | exact Or.inr rfl)) ⟨rfl, rfl, rfl, trivial⟩
        · refine px_b rfl q_X12_isBeyond_58 hg rfl trivial ?_
          exact px_go (ih (i + 1) (by grind) (by grind) (by grind) _ (by first | exact Or.inl rfl | exact Or.inr rfl)) ⟨rfl, rfl, rfl, trivial⟩

theorem q_X12_isBeyond_0 : px_bk 12 3 cX12_isBeyond 0 [(.aload_n 0, (0, 0, 0, 0, 0), 0, 0), (.getfield 121, (12, 52, 3, 132, 0), 0, 0), (.bipush 8, (0, 0, 0, 0, 0), 8, 0), (.laload, (0, 0, 0, 0, 0), 0, 0), (.ldc2_w 231, (0, 0, 0, 0, 0), 0, 5000), (.lcmp, (0, 0, 0, 0, 0), 0, 0)] = some 11 ∧ px_t1 cX12_isBeyond 11 .le 18 = true := by decide +kernel
theorem q_X12_isBeyond_18 : px_bk 12 3 cX12_isBeyond 18 [(.iconst 0, (0, 0, 0, 0, 0), 0, 0), (.istore_n 1, (0, 0, 0, 0, 0), 0, 0), (.iconst 0, (0, 0, 0, 0, 0), 0, 0), (.istore_n 2, (0, 0, 0, 0, 0), 0, 0)] = some 22 := by decide +kernel
theorem q_X12_isBeyond_14 : px_bk 12 3 cX12_isBeyond 14 [(.iconst 1, (0, 0, 0, 0, 0), 1, 0), (.goto 4, (0, 0, 0, 0, 0), 0, 0), (.istore_n 1, (0, 0, 0, 0, 0), 0, 0), (.iconst 0, (0, 0, 0, 0, 0), 0, 0), (.istore_n 2, (0, 0, 0, 0, 0), 0, 0)] = some 22 := by decide +kernel
set_option maxRecDepth 100000 in
theorem k_isBeyond {n : Nat} {I : px_I} {L : px_L} {R : px_R} (hg : px_G n R)  : px_KP M_X12_isBeyond [.ref 103] n I L R (fun r => r = 0 ∨ r = 1) := by
  refine px_of (plainFor_of_name np_RX12) (fun _ _ _ => trivial) rfl ?_
  refine px_lle rfl q_X12_isBeyond_0 hg rfl ⟨trivial, (by first | decide | (refine ⟨?_, ?_⟩ <;> grind) | grind)⟩ (fun c11 => ?_) (fun c11 => ?_)
  · refine px_b rfl q_X12_isBeyond_18 hg rfl trivial ?_
    first | exact px_go (l_isBeyond hg (fun r hr => ⟨rfl, rfl, r, rfl, rfl, rfl, hr⟩) 0 (by decide) (by decide) 1 (Or.inr rfl)) ⟨rfl, rfl, rfl, trivial⟩ | exact px_go (l_isBeyond hg (fun r hr => ⟨rfl, rfl, r, rfl, rfl, rfl, hr⟩) 0 (by decide) (by decide) 0 (Or.inl rfl)) ⟨rfl, rfl, rfl, trivial⟩
  · refine px_b rfl q_X12_isBeyond_14 hg rfl trivial ?_
    first | exact px_go (l_isBeyond hg (fun r hr => ⟨rfl, rfl, r, rfl, rfl, rfl, hr⟩) 0 (by decide) (by decide) 1 (Or.inr rfl)) ⟨rfl, rfl, rfl, trivial⟩ | exact px_go (l_isBeyond hg (fun r hr => ⟨rfl, rfl, r, rfl, rfl, rfl, hr⟩) 0 (by decide) (by decide) 0 (Or.inl rfl)) ⟨rfl, rfl, rfl, trivial⟩

theorem q_X12_runs_43 : px_bk 12 6 cX12_runs 43 [(.aload_n 0, (0, 0, 0, 0, 0), 0, 0), (.getfield 100, (12, 45, 3, 130, 0), 0, 0), (.iload_n 3, (0, 0, 0, 0, 0), 0, 0), (.iaload, (0, 0, 0, 0, 0), 0, 0), (.bipush 22, (0, 0, 0, 0, 0), 22, 0)] = some 51 ∧ px_t2 cX12_runs 51 .eq 292 = true := by decide +kernel
theorem q_X12_runs_54 : px_bk 12 6 cX12_runs 54 [(.aload_n 0, (0, 0, 0, 0, 0), 0, 0), (.getfield 100, (12, 45, 3, 130, 0), 0, 0), (.iload_n 3, (0, 0, 0, 0, 0), 0, 0), (.iaload, (0, 0, 0, 0, 0), 0, 0), (.istore 4, (0, 0, 0, 0, 0), 0, 0), (.aload_n 0, (0, 0, 0, 0, 0), 0, 0), (.getfield 103, (12, 46, 3, 131, 0), 0, 0), (.iload_n 3, (0, 0, 0, 0, 0), 0, 0), (.iaload, (0, 0, 0, 0, 0), 0, 0), (.istore 5, (0, 0, 0, 0, 0), 0, 0), (.iload 4, (0, 0, 0, 0, 0), 0, 0), (.bipush 23, (0, 0, 0, 0, 0), 23, 0)] = some 74 ∧ px_t2 cX12_runs 74 .ne 89 = true := by decide +kernel
theorem q_X12_runs_77 : px_bk 12 6 cX12_runs 77 [(.sipush 220, (0, 0, 0, 0, 0), 220, 0), (.iload_n 1, (0, 0, 0, 0, 0), 0, 0), (.imul, (0, 0, 0, 0, 0), 0, 0), (.iload 5, (0, 0, 0, 0, 0), 0, 0), (.iadd, (0, 0, 0, 0, 0), 0, 0), (.istore_n 3, (0, 0, 0, 0, 0), 0, 0), (.goto (-43), (0, 0, 0, 0, 0), 0, 0)] = some 43 := by decide +kernel
set_option maxRecDepth 100000 in
theorem s_skip {n : Nat} {R : px_R} (hg : px_G n R) {Q : px_Q} (w h k : Int32) {I : px_I} {L : px_L} (hk : 0 ≤ k ∧ k < 1320) (ho : I 130 k.toNatClampNeg = 23)  (hq : ∀ I2, mRI I I2 → Q (some (.int 0)) n I2 L R) (kk : px M_X12_runs 0 0 43 [(0, .ref 103), (1, .int w), (2, .int h), (3, .int (220 * w + I 131 k.toNatClampNeg))] [] n I L R Q) : px M_X12_runs 0 0 43 [(0, .ref 103), (1, .int w), (2, .int h), (3, .int (k))] [] n I L R Q := by
  skip
  refine px_ieq rfl q_X12_runs_43 hg rfl ⟨trivial, (by first | with_reducible assumption | decide | (refine ⟨?_, ?_⟩ <;> grind))⟩ (fun c51 => ?_) (fun c51 => ?_)
  · rw [ho] at c51; exact absurd c51 (by decide)
  · refine px_ine rfl q_X12_runs_54 hg rfl ⟨⟨trivial, (by first | with_reducible assumption | decide | (refine ⟨?_, ?_⟩ <;> grind))⟩, (by first | with_reducible assumption | decide | (refine ⟨?_, ?_⟩ <;> grind))⟩ (fun c74 => ?_) (fun c74 => ?_)
    · rw [ho] at c74; exact absurd c74 (by decide)
    · refine px_b rfl q_X12_runs_77 hg rfl trivial ?_
      exact px_go kk ⟨rfl, rfl, rfl, rfl, trivial⟩

theorem q_X12_runs_89 : px_bk 12 6 cX12_runs 89 [(.iload 4, (0, 0, 0, 0, 0), 0, 0), (.bipush 7, (0, 0, 0, 0, 0), 7, 0)] = some 93 ∧ px_t2 cX12_runs 93 .ne 130 = true := by decide +kernel
theorem q_X12_runs_96 : px_bk 12 6 cX12_runs 96 [(.aload_n 0, (0, 0, 0, 0, 0), 0, 0), (.getfield 125, (12, 54, 3, 133, 0), 0, 0), (.aload_n 0, (0, 0, 0, 0, 0), 0, 0), (.getfield 396, (12, 53, 0, 0, 0), 0, 0), (.iload_n 3, (0, 0, 0, 0, 0), 0, 0), (.iconst 1, (0, 0, 0, 0, 0), 1, 0), (.iadd, (0, 0, 0, 0, 0), 0, 0), (.iastore, (0, 0, 0, 0, 0), 0, 0), (.aload_n 0, (0, 0, 0, 0, 0), 0, 0), (.dup, (0, 0, 0, 0, 0), 0, 0), (.getfield 396, (12, 53, 0, 0, 0), 0, 0), (.iconst 1, (0, 0, 0, 0, 0), 1, 0), (.iadd, (0, 0, 0, 0, 0), 0, 0), (.putfield 396, (12, 53, 0, 0, 0), 0, 0), (.sipush 220, (0, 0, 0, 0, 0), 220, 0), (.iload_n 1, (0, 0, 0, 0, 0), 0, 0), (.imul, (0, 0, 0, 0, 0), 0, 0), (.iload 5, (0, 0, 0, 0, 0), 0, 0), (.iadd, (0, 0, 0, 0, 0), 0, 0), (.istore_n 3, (0, 0, 0, 0, 0), 0, 0), (.goto 153, (0, 0, 0, 0, 0), 0, 0), (.aload_n 0, (0, 0, 0, 0, 0), 0, 0)] = some 281 ∧ px_tv cX12_runs 281 403 = true := by decide +kernel
theorem q_X12_runs_284 : px_bk 12 6 cX12_runs 284 [] = some 284 ∧ px_t1 cX12_runs 284 .eq 289 = true := by decide +kernel
theorem q_X12_runs_289 : px_bk 12 6 cX12_runs 289 [(.goto (-246), (0, 0, 0, 0, 0), 0, 0)] = some 43 := by decide +kernel
theorem q_X12_runs_287 : px_bk 12 6 cX12_runs 287 [(.iconst 0, (0, 0, 0, 0, 0), 0, 0)] = some 288 ∧ px_tr cX12_runs 288 .ireturn = true := by decide +kernel
set_option maxRecDepth 100000 in
theorem s_do {n : Nat} {R : px_R} (hg : px_G n R) {Q : px_Q} (w h k : Int32) {I : px_I} {L : px_L} (hk : 0 ≤ k ∧ k < 1320) (ho : I 130 k.toNatClampNeg = 7) (d : Int32) (hd : I 103 53 = d) (hd0 : 0 ≤ d ∧ d < 90) (hq : ∀ I2, mRI I I2 → Q (some (.int 0)) n I2 L R) (kk : px M_X12_runs 0 0 43 [(0, .ref 103), (1, .int w), (2, .int h), (3, .int (220 * w + I 131 k.toNatClampNeg))] [] n (px_u (px_u I 133 d.toNatClampNeg (k + 1)) 103 53 (d + 1)) L R Q) : px M_X12_runs 0 0 43 [(0, .ref 103), (1, .int w), (2, .int h), (3, .int (k))] [] n I L R Q := by
  skip
  subst hd
  refine px_ieq rfl q_X12_runs_43 hg rfl ⟨trivial, (by first | with_reducible assumption | decide | (refine ⟨?_, ?_⟩ <;> grind))⟩ (fun c51 => ?_) (fun c51 => ?_)
  · rw [ho] at c51; exact absurd c51 (by decide)
  · refine px_ine rfl q_X12_runs_54 hg rfl ⟨⟨trivial, (by first | with_reducible assumption | decide | (refine ⟨?_, ?_⟩ <;> grind))⟩, (by first | with_reducible assumption | decide | (refine ⟨?_, ?_⟩ <;> grind))⟩ (fun c74 => ?_) (fun c74 => ?_)
    · refine px_ine rfl q_X12_runs_89 hg rfl trivial (fun c93 => ?_) (fun c93 => ?_)
      · rw [ho] at c93; exact absurd c93 (by decide)
      · refine px_cVP (ci := 12) rfl q_X12_runs_96 hg rfl ⟨trivial, (by first | with_reducible assumption | decide | (refine ⟨?_, ?_⟩ <;> grind))⟩ lk_12_403 nm_X12_isBeyond (k_isBeyond hg) rfl rfl (px_lit hg rfl) rfl rfl rfl ⟨rfl, rfl⟩ ?_
        intro x281 h281
        refine px_eq rfl q_X12_runs_284 hg rfl trivial (fun c284 => ?_) (fun c284 => ?_)
        · refine px_b rfl q_X12_runs_289 hg rfl trivial ?_
          exact px_go kk ⟨rfl, rfl, rfl, rfl, trivial⟩
        · refine px_rz rfl q_X12_runs_287 rfl rfl rfl hg rfl trivial (by first | exact Or.inl rfl | exact Or.inr rfl | grind) ?_
          exact hq _ (mRI.ur (mRI.u3 (fun _ _ _ _ _ => rfl) _ _) _)
    · rw [ho] at c74; exact absurd c74 (by decide)

theorem q_X12_runs_130 : px_bk 12 6 cX12_runs 130 [(.iload 4, (0, 0, 0, 0, 0), 0, 0), (.bipush 21, (0, 0, 0, 0, 0), 21, 0)] = some 134 ∧ px_t2 cX12_runs 134 .ne 160 = true := by decide +kernel
theorem q_X12_runs_137 : px_bk 12 6 cX12_runs 137 [(.aload_n 0, (0, 0, 0, 0, 0), 0, 0), (.dup, (0, 0, 0, 0, 0), 0, 0), (.getfield 396, (12, 53, 0, 0, 0), 0, 0), (.iconst 1, (0, 0, 0, 0, 0), 1, 0), (.isub, (0, 0, 0, 0, 0), 0, 0), (.putfield 396, (12, 53, 0, 0, 0), 0, 0), (.aload_n 0, (0, 0, 0, 0, 0), 0, 0), (.getfield 125, (12, 54, 3, 133, 0), 0, 0), (.aload_n 0, (0, 0, 0, 0, 0), 0, 0), (.getfield 396, (12, 53, 0, 0, 0), 0, 0), (.iaload, (0, 0, 0, 0, 0), 0, 0), (.istore_n 3, (0, 0, 0, 0, 0), 0, 0), (.goto 123, (0, 0, 0, 0, 0), 0, 0), (.aload_n 0, (0, 0, 0, 0, 0), 0, 0)] = some 281 ∧ px_tv cX12_runs 281 403 = true := by decide +kernel
set_option maxRecDepth 100000 in
theorem s_ret {n : Nat} {R : px_R} (hg : px_G n R) {Q : px_Q} (w h k : Int32) {I : px_I} {L : px_L} (hk : 0 ≤ k ∧ k < 1320) (ho : I 130 k.toNatClampNeg = 21) (d : Int32) (hd : I 103 53 = d) (hd0 : 1 ≤ d ∧ d ≤ 90) (hq : ∀ I2, mRI I I2 → Q (some (.int 0)) n I2 L R) (kk : px M_X12_runs 0 0 43 [(0, .ref 103), (1, .int w), (2, .int h), (3, .int (I 133 (d - 1).toNatClampNeg))] [] n (px_u I 103 53 (d - 1)) L R Q) : px M_X12_runs 0 0 43 [(0, .ref 103), (1, .int w), (2, .int h), (3, .int (k))] [] n I L R Q := by
  skip
  subst hd
  refine px_ieq rfl q_X12_runs_43 hg rfl ⟨trivial, (by first | with_reducible assumption | decide | (refine ⟨?_, ?_⟩ <;> grind))⟩ (fun c51 => ?_) (fun c51 => ?_)
  · rw [ho] at c51; exact absurd c51 (by decide)
  · refine px_ine rfl q_X12_runs_54 hg rfl ⟨⟨trivial, (by first | with_reducible assumption | decide | (refine ⟨?_, ?_⟩ <;> grind))⟩, (by first | with_reducible assumption | decide | (refine ⟨?_, ?_⟩ <;> grind))⟩ (fun c74 => ?_) (fun c74 => ?_)
    · refine px_ine rfl q_X12_runs_89 hg rfl trivial (fun c93 => ?_) (fun c93 => ?_)
      · refine px_ine rfl q_X12_runs_130 hg rfl trivial (fun c134 => ?_) (fun c134 => ?_)
        · rw [ho] at c134; exact absurd c134 (by decide)
        · refine px_cVP (ci := 12) rfl q_X12_runs_137 hg rfl ⟨trivial, (by first | with_reducible assumption | decide | (refine ⟨?_, ?_⟩ <;> grind))⟩ lk_12_403 nm_X12_isBeyond (k_isBeyond hg) rfl rfl (px_lit hg rfl) rfl rfl rfl ⟨rfl, rfl⟩ ?_
          intro x281 h281
          refine px_eq rfl q_X12_runs_284 hg rfl trivial (fun c284 => ?_) (fun c284 => ?_)
          · refine px_b rfl q_X12_runs_289 hg rfl trivial ?_
            exact px_go kk ⟨rfl, rfl, rfl, rfl, trivial⟩
          · refine px_rz rfl q_X12_runs_287 rfl rfl rfl hg rfl trivial (by first | exact Or.inl rfl | exact Or.inr rfl | grind) ?_
            exact hq _ (mRI.ur (fun _ _ _ _ _ => rfl) _)
      · rw [ho] at c93; exact absurd c93 (by decide)
    · rw [ho] at c74; exact absurd c74 (by decide)

theorem q_X12_runs_160 : px_bk 12 6 cX12_runs 160 [(.iload 4, (0, 0, 0, 0, 0), 0, 0), (.bipush 8, (0, 0, 0, 0, 0), 8, 0)] = some 164 ∧ px_t2 cX12_runs 164 .ne 194 = true := by decide +kernel
theorem q_X12_runs_167 : px_bk 12 6 cX12_runs 167 [(.aload_n 0, (0, 0, 0, 0, 0), 0, 0), (.getfield 128, (12, 55, 3, 134, 0), 0, 0), (.aload_n 0, (0, 0, 0, 0, 0), 0, 0), (.getfield 396, (12, 53, 0, 0, 0), 0, 0), (.iload 5, (0, 0, 0, 0, 0), 0, 0), (.iastore, (0, 0, 0, 0, 0), 0, 0), (.aload_n 0, (0, 0, 0, 0, 0), 0, 0), (.dup, (0, 0, 0, 0, 0), 0, 0), (.getfield 396, (12, 53, 0, 0, 0), 0, 0), (.iconst 1, (0, 0, 0, 0, 0), 1, 0), (.iadd, (0, 0, 0, 0, 0), 0, 0), (.putfield 396, (12, 53, 0, 0, 0), 0, 0), (.iinc 3 1, (0, 0, 0, 0, 0), 1, 0), (.goto 89, (0, 0, 0, 0, 0), 0, 0), (.aload_n 0, (0, 0, 0, 0, 0), 0, 0)] = some 281 ∧ px_tv cX12_runs 281 403 = true := by decide +kernel
set_option maxRecDepth 100000 in
theorem s_rep {n : Nat} {R : px_R} (hg : px_G n R) {Q : px_Q} (w h k : Int32) {I : px_I} {L : px_L} (hk : 0 ≤ k ∧ k < 1320) (ho : I 130 k.toNatClampNeg = 8) (d : Int32) (hd : I 103 53 = d) (hd0 : 0 ≤ d ∧ d < 90) (hq : ∀ I2, mRI I I2 → Q (some (.int 0)) n I2 L R) (kk : px M_X12_runs 0 0 43 [(0, .ref 103), (1, .int w), (2, .int h), (3, .int (k + 1))] [] n (px_u (px_u I 134 d.toNatClampNeg (I 131 k.toNatClampNeg)) 103 53 (d + 1)) L R Q) : px M_X12_runs 0 0 43 [(0, .ref 103), (1, .int w), (2, .int h), (3, .int (k))] [] n I L R Q := by
  skip
  subst hd
  refine px_ieq rfl q_X12_runs_43 hg rfl ⟨trivial, (by first | with_reducible assumption | decide | (refine ⟨?_, ?_⟩ <;> grind))⟩ (fun c51 => ?_) (fun c51 => ?_)
  · rw [ho] at c51; exact absurd c51 (by decide)
  · refine px_ine rfl q_X12_runs_54 hg rfl ⟨⟨trivial, (by first | with_reducible assumption | decide | (refine ⟨?_, ?_⟩ <;> grind))⟩, (by first | with_reducible assumption | decide | (refine ⟨?_, ?_⟩ <;> grind))⟩ (fun c74 => ?_) (fun c74 => ?_)
    · refine px_ine rfl q_X12_runs_89 hg rfl trivial (fun c93 => ?_) (fun c93 => ?_)
      · refine px_ine rfl q_X12_runs_130 hg rfl trivial (fun c134 => ?_) (fun c134 => ?_)
        · refine px_ine rfl q_X12_runs_160 hg rfl trivial (fun c164 => ?_) (fun c164 => ?_)
          · rw [ho] at c164; exact absurd c164 (by decide)
          · refine px_cVP (ci := 12) rfl q_X12_runs_167 hg rfl ⟨trivial, (by first | with_reducible assumption | decide | (refine ⟨?_, ?_⟩ <;> grind))⟩ lk_12_403 nm_X12_isBeyond (k_isBeyond hg) rfl rfl (px_lit hg rfl) rfl rfl rfl ⟨rfl, rfl⟩ ?_
            intro x281 h281
            refine px_eq rfl q_X12_runs_284 hg rfl trivial (fun c284 => ?_) (fun c284 => ?_)
            · refine px_b rfl q_X12_runs_289 hg rfl trivial ?_
              exact px_go kk ⟨rfl, rfl, rfl, rfl, trivial⟩
            · refine px_rz rfl q_X12_runs_287 rfl rfl rfl hg rfl trivial (by first | exact Or.inl rfl | exact Or.inr rfl | grind) ?_
              exact hq _ (mRI.ur (mRI.u4 (fun _ _ _ _ _ => rfl) _ _) _)
        · rw [ho] at c134; exact absurd c134 (by decide)
      · rw [ho] at c93; exact absurd c93 (by decide)
    · rw [ho] at c74; exact absurd c74 (by decide)

theorem q_X12_runs_194 : px_bk 12 6 cX12_runs 194 [(.iload 4, (0, 0, 0, 0, 0), 0, 0), (.bipush 20, (0, 0, 0, 0, 0), 20, 0)] = some 198 ∧ px_t2 cX12_runs 198 .ne 258 = true := by decide +kernel
theorem q_X12_runs_201 : px_bk 12 6 cX12_runs 201 [(.aload_n 0, (0, 0, 0, 0, 0), 0, 0), (.getfield 128, (12, 55, 3, 134, 0), 0, 0), (.aload_n 0, (0, 0, 0, 0, 0), 0, 0), (.getfield 396, (12, 53, 0, 0, 0), 0, 0), (.iconst 1, (0, 0, 0, 0, 0), 1, 0), (.isub, (0, 0, 0, 0, 0), 0, 0), (.dup2, (0, 0, 0, 0, 0), 0, 0), (.iaload, (0, 0, 0, 0, 0), 0, 0), (.iconst 1, (0, 0, 0, 0, 0), 1, 0), (.isub, (0, 0, 0, 0, 0), 0, 0), (.iastore, (0, 0, 0, 0, 0), 0, 0), (.aload_n 0, (0, 0, 0, 0, 0), 0, 0), (.getfield 128, (12, 55, 3, 134, 0), 0, 0), (.aload_n 0, (0, 0, 0, 0, 0), 0, 0), (.getfield 396, (12, 53, 0, 0, 0), 0, 0), (.iconst 1, (0, 0, 0, 0, 0), 1, 0), (.isub, (0, 0, 0, 0, 0), 0, 0), (.iaload, (0, 0, 0, 0, 0), 0, 0)] = some 227 ∧ px_t1 cX12_runs 227 .le 242 = true := by decide +kernel
theorem q_X12_runs_242 : px_bk 12 6 cX12_runs 242 [(.aload_n 0, (0, 0, 0, 0, 0), 0, 0), (.dup, (0, 0, 0, 0, 0), 0, 0), (.getfield 396, (12, 53, 0, 0, 0), 0, 0), (.iconst 1, (0, 0, 0, 0, 0), 1, 0), (.isub, (0, 0, 0, 0, 0), 0, 0), (.putfield 396, (12, 53, 0, 0, 0), 0, 0), (.iinc 3 1, (0, 0, 0, 0, 0), 1, 0), (.goto 25, (0, 0, 0, 0, 0), 0, 0), (.aload_n 0, (0, 0, 0, 0, 0), 0, 0)] = some 281 ∧ px_tv cX12_runs 281 403 = true := by decide +kernel
theorem q_X12_runs_230 : px_bk 12 6 cX12_runs 230 [(.sipush 220, (0, 0, 0, 0, 0), 220, 0), (.iload_n 1, (0, 0, 0, 0, 0), 0, 0), (.imul, (0, 0, 0, 0, 0), 0, 0), (.iload 5, (0, 0, 0, 0, 0), 0, 0), (.iadd, (0, 0, 0, 0, 0), 0, 0), (.istore_n 3, (0, 0, 0, 0, 0), 0, 0), (.goto 41, (0, 0, 0, 0, 0), 0, 0), (.aload_n 0, (0, 0, 0, 0, 0), 0, 0)] = some 281 ∧ px_tv cX12_runs 281 403 = true := by decide +kernel
set_option maxRecDepth 100000 in
theorem s_round {n : Nat} {R : px_R} (hg : px_G n R) {Q : px_Q} (w h k : Int32) {I : px_I} {L : px_L} (hk : 0 ≤ k ∧ k < 1320) (ho : I 130 k.toNatClampNeg = 20) (d : Int32) (hd : I 103 53 = d) (hd0 : 1 ≤ d ∧ d ≤ 90) (hq : ∀ I2, mRI I I2 → Q (some (.int 0)) n I2 L R) (k1 : 0 < I 134 (d - 1).toNatClampNeg - 1 → px M_X12_runs 0 0 43 [(0, .ref 103), (1, .int w), (2, .int h), (3, .int (220 * w + I 131 k.toNatClampNeg))] [] n (px_u I 134 (d - 1).toNatClampNeg (I 134 (d - 1).toNatClampNeg - 1)) L R Q) (k2 : ¬ 0 < I 134 (d - 1).toNatClampNeg - 1 → px M_X12_runs 0 0 43 [(0, .ref 103), (1, .int w), (2, .int h), (3, .int (k + 1))] [] n (px_u (px_u I 134 (d - 1).toNatClampNeg (I 134 (d - 1).toNatClampNeg - 1)) 103 53 (d - 1)) L R Q) : px M_X12_runs 0 0 43 [(0, .ref 103), (1, .int w), (2, .int h), (3, .int (k))] [] n I L R Q := by
  skip
  subst hd
  refine px_ieq rfl q_X12_runs_43 hg rfl ⟨trivial, (by first | with_reducible assumption | decide | (refine ⟨?_, ?_⟩ <;> grind))⟩ (fun c51 => ?_) (fun c51 => ?_)
  · rw [ho] at c51; exact absurd c51 (by decide)
  · refine px_ine rfl q_X12_runs_54 hg rfl ⟨⟨trivial, (by first | with_reducible assumption | decide | (refine ⟨?_, ?_⟩ <;> grind))⟩, (by first | with_reducible assumption | decide | (refine ⟨?_, ?_⟩ <;> grind))⟩ (fun c74 => ?_) (fun c74 => ?_)
    · refine px_ine rfl q_X12_runs_89 hg rfl trivial (fun c93 => ?_) (fun c93 => ?_)
      · refine px_ine rfl q_X12_runs_130 hg rfl trivial (fun c134 => ?_) (fun c134 => ?_)
        · refine px_ine rfl q_X12_runs_160 hg rfl trivial (fun c164 => ?_) (fun c164 => ?_)
          · refine px_ine rfl q_X12_runs_194 hg rfl trivial (fun c198 => ?_) (fun c198 => ?_)
            · rw [ho] at c198; exact absurd c198 (by decide)
            · refine px_le rfl q_X12_runs_201 hg rfl ⟨⟨⟨trivial, (by first | with_reducible assumption | decide | (refine ⟨?_, ?_⟩ <;> grind))⟩, (by first | with_reducible assumption | decide | (refine ⟨?_, ?_⟩ <;> grind))⟩, (by first | with_reducible assumption | decide | (refine ⟨?_, ?_⟩ <;> grind))⟩ (fun c227 => ?_) (fun c227 => ?_)
              · refine px_cVP (ci := 12) rfl q_X12_runs_242 hg rfl trivial lk_12_403 nm_X12_isBeyond (k_isBeyond hg) rfl rfl (px_lit hg rfl) rfl rfl rfl ⟨rfl, rfl⟩ ?_
                intro x281 h281
                refine px_eq rfl q_X12_runs_284 hg rfl trivial (fun c284 => ?_) (fun c284 => ?_)
                · refine px_b rfl q_X12_runs_289 hg rfl trivial ?_
                  first | exact px_go (k1 (by simpa [px_ur] using c227)) ⟨rfl, rfl, rfl, rfl, trivial⟩ | exact px_go (k2 (by simpa [px_ur] using c227)) ⟨rfl, rfl, rfl, rfl, trivial⟩
                · refine px_rz rfl q_X12_runs_287 rfl rfl rfl hg rfl trivial (by first | exact Or.inl rfl | exact Or.inr rfl | grind) ?_
                  first | exact hq _ (mRI.u4 (fun _ _ _ _ _ => rfl) _ _) | exact hq _ (mRI.ur (mRI.u4 (fun _ _ _ _ _ => rfl) _ _) _)
              · refine px_cVP (ci := 12) rfl q_X12_runs_230 hg rfl trivial lk_12_403 nm_X12_isBeyond (k_isBeyond hg) rfl rfl (px_lit hg rfl) rfl rfl rfl ⟨rfl, rfl⟩ ?_
                intro x281 h281
                refine px_eq rfl q_X12_runs_284 hg rfl trivial (fun c284 => ?_) (fun c284 => ?_)
                · refine px_b rfl q_X12_runs_289 hg rfl trivial ?_
                  first | exact px_go (k1 (by simpa [px_ur] using c227)) ⟨rfl, rfl, rfl, rfl, trivial⟩ | exact px_go (k2 (by simpa [px_ur] using c227)) ⟨rfl, rfl, rfl, rfl, trivial⟩
                · refine px_rz rfl q_X12_runs_287 rfl rfl rfl hg rfl trivial (by first | exact Or.inl rfl | exact Or.inr rfl | grind) ?_
                  first | exact hq _ (mRI.u4 (fun _ _ _ _ _ => rfl) _ _) | exact hq _ (mRI.ur (mRI.u4 (fun _ _ _ _ _ => rfl) _ _) _)
          · rw [ho] at c164; exact absurd c164 (by decide)
        · rw [ho] at c134; exact absurd c134 (by decide)
      · rw [ho] at c93; exact absurd c93 (by decide)
    · rw [ho] at c74; exact absurd c74 (by decide)

theorem q_X12_runs_258 : px_bk 12 6 cX12_runs 258 [(.aload_n 0, (0, 0, 0, 0, 0), 0, 0), (.getfield 121, (12, 52, 3, 132, 0), 0, 0), (.bipush 8, (0, 0, 0, 0, 0), 8, 0), (.dup2, (0, 0, 0, 0, 0), 0, 0), (.laload, (0, 0, 0, 0, 0), 0, 0), (.lconst 1, (0, 0, 0, 0, 0), 0, 1), (.ladd, (0, 0, 0, 0, 0), 0, 0), (.lastore, (0, 0, 0, 0, 0), 0, 0), (.aload_n 0, (0, 0, 0, 0, 0), 0, 0), (.iload 4, (0, 0, 0, 0, 0), 0, 0), (.iload 5, (0, 0, 0, 0, 0), 0, 0)] = some 274 ∧ px_tv cX12_runs 274 399 = true := by decide +kernel
theorem q_X12_runs_277 : px_bk 12 6 cX12_runs 277 [(.iinc 3 1, (0, 0, 0, 0, 0), 1, 0), (.aload_n 0, (0, 0, 0, 0, 0), 0, 0)] = some 281 ∧ px_tv cX12_runs 281 403 = true := by decide +kernel
set_option maxRecDepth 100000 in
theorem s_step {n : Nat} {R : px_R} (hg : px_G n R) {Q : px_Q} (w h k : Int32) {I : px_I} {L : px_L} (hk : 0 ≤ k ∧ k < 1320) (ho : 1 ≤ I 130 k.toNatClampNeg ∧ I 130 k.toNatClampNeg ≤ 6) (hq : ∀ L2, mRL L L2 → Q (some (.int 0)) n I L2 R) (kk : ∀ L2, mRL L L2 → px M_X12_runs 0 0 43 [(0, .ref 103), (1, .int w), (2, .int h), (3, .int (k + 1))] [] n I L2 R Q) : px M_X12_runs 0 0 43 [(0, .ref 103), (1, .int w), (2, .int h), (3, .int (k))] [] n I L R Q := by
  skip
  refine px_ieq rfl q_X12_runs_43 hg rfl ⟨trivial, (by first | with_reducible assumption | decide | (refine ⟨?_, ?_⟩ <;> grind))⟩ (fun c51 => ?_) (fun c51 => ?_)
  · rw [c51] at ho; exact absurd ho (by decide)
  · refine px_ine rfl q_X12_runs_54 hg rfl ⟨⟨trivial, (by first | with_reducible assumption | decide | (refine ⟨?_, ?_⟩ <;> grind))⟩, (by first | with_reducible assumption | decide | (refine ⟨?_, ?_⟩ <;> grind))⟩ (fun c74 => ?_) (fun c74 => ?_)
    · refine px_ine rfl q_X12_runs_89 hg rfl trivial (fun c93 => ?_) (fun c93 => ?_)
      · refine px_ine rfl q_X12_runs_130 hg rfl trivial (fun c134 => ?_) (fun c134 => ?_)
        · refine px_ine rfl q_X12_runs_160 hg rfl trivial (fun c164 => ?_) (fun c164 => ?_)
          · refine px_ine rfl q_X12_runs_194 hg rfl trivial (fun c198 => ?_) (fun c198 => ?_)
            · refine px_cVW (ci := 12) rfl q_X12_runs_258 hg rfl ⟨⟨trivial, (by first | with_reducible assumption | decide | (refine ⟨?_, ?_⟩ <;> grind))⟩, (by first | with_reducible assumption | decide | (refine ⟨?_, ?_⟩ <;> grind))⟩ lk_12_399 nm_X12_does (k_does hg _ _) rfl rfl (px_lit hg rfl) rfl rfl rfl ⟨rfl, rfl⟩ ?_
              intro I274 L274 h274
              obtain ⟨rfl, h274⟩ := h274
              replace h274 := (mRL.u (fun _ _ => rfl) _ _).trans h274
              refine px_cVP (ci := 12) rfl q_X12_runs_277 hg rfl trivial lk_12_403 nm_X12_isBeyond (k_isBeyond hg) rfl rfl (px_lit hg rfl) rfl rfl rfl ⟨rfl, rfl⟩ ?_
              intro x281 h281
              refine px_eq rfl q_X12_runs_284 hg rfl trivial (fun c284 => ?_) (fun c284 => ?_)
              · refine px_b rfl q_X12_runs_289 hg rfl trivial ?_
                exact px_go (kk _ h274) ⟨rfl, rfl, rfl, rfl, trivial⟩
              · refine px_rz rfl q_X12_runs_287 rfl rfl rfl hg rfl trivial (by first | exact Or.inl rfl | exact Or.inr rfl | grind) ?_
                exact hq _ h274
            · rw [c198] at ho; exact absurd ho (by decide)
          · rw [c164] at ho; exact absurd ho (by decide)
        · rw [c134] at ho; exact absurd ho (by decide)
      · rw [c93] at ho; exact absurd ho (by decide)
    · rw [c74] at ho; exact absurd ho (by decide)

theorem q_X12_runs_292 : px_bk 12 6 cX12_runs 292 [(.iconst 1, (0, 0, 0, 0, 0), 1, 0)] = some 293 ∧ px_tr cX12_runs 293 .ireturn = true := by decide +kernel
set_option maxRecDepth 100000 in
theorem s_end {n : Nat} {R : px_R} (hg : px_G n R) {Q : px_Q} (w h k : Int32) {I : px_I} {L : px_L} (hk : 0 ≤ k ∧ k < 1320) (ho : I 130 k.toNatClampNeg = 22) (hq : Q (some (.int 1)) n I L R) : px M_X12_runs 0 0 43 [(0, .ref 103), (1, .int w), (2, .int h), (3, .int (k))] [] n I L R Q := by
  skip
  refine px_ieq rfl q_X12_runs_43 hg rfl ⟨trivial, (by first | with_reducible assumption | decide | (refine ⟨?_, ?_⟩ <;> grind))⟩ (fun c51 => ?_) (fun c51 => ?_)
  · refine px_rz rfl q_X12_runs_292 rfl rfl rfl hg rfl trivial (by first | exact Or.inl rfl | exact Or.inr rfl | grind) ?_
    exact hq
  · exact absurd ho c51

/-- well-formed stretches of orders: the places that stand (X), kinds, values; how deep the stack grows; from, to -/
def mReg (X : Int32 → Prop) (o v : Int32 → Int32) (s i j : Int32) : Prop := ∀ P : Int32 → Int32 → Int32 → Prop,
  (∀ s i, 0 ≤ s → P s i i) → (∀ s i j, P s i j → X j → 1 ≤ o j → o j ≤ 6 → P s i (j + 1)) → (∀ s i j, P s i j → X j → o j = 23 → P s i (v j)) →
  (∀ s i j t e, P s i j → X j → o j = 7 → 0 ≤ t → t < s → P t (v j) e → X e → o e = 21 → P s i (j + 1)) →
  (∀ s i j t e, P s i j → X j → o j = 8 → 0 ≤ t → t < s → P t (j + 1) e → X e → o e = 20 → v e = j + 1 → P s i (e + 1)) → P s i j
def mSem (I0 : px_I) (w s i j : Int32) : Prop := s ≤ 90 → ∀ {n : Nat} {R : px_R} (_ : px_G n R) {Q : px_Q} (h : Int32) (L0 : px_L), (∀ r I2 L2, (r = 0 ∨ r = 1) → mRI I0 I2 → mRL L0 L2 → Q (some (.int r)) n I2 L2 R) →
  ∀ (d : Int32) (I : px_I) (L : px_L), mRI I0 I → mRL L0 L → I 103 53 = d → 0 ≤ d → d ≤ 90 → d + s ≤ 90 →
  (∀ I2 L2, mRI I0 I2 → mRL L0 L2 → I2 103 53 = d → (∀ q : Int32, 0 ≤ q → q < d → I2 133 q.toNatClampNeg = I 133 q.toNatClampNeg ∧ I2 134 q.toNatClampNeg = I 134 q.toNatClampNeg) → px M_X12_runs 0 0 43 [(0, .ref 103), (1, .int w), (2, .int h), (3, .int (220 * w + j))] [] n I2 L2 R Q) →
  px M_X12_runs 0 0 43 [(0, .ref 103), (1, .int w), (2, .int h), (3, .int (220 * w + i))] [] n I L R Q
theorem mRI.at0 {I0 I : px_I} (h : mRI I0 I) (k : Nat) : I 130 k = I0 130 k := h 130 k (by decide) (by decide) (fun q => absurd q.1 (by decide))
theorem mRI.at1 {I0 I : px_I} (h : mRI I0 I) (k : Nat) : I 131 k = I0 131 k := h 131 k (by decide) (by decide) (fun q => absurd q.1 (by decide))
theorem mDn {P : Int32 → Prop} (h : ∀ u : Int32, (0 < u → P (u - 1)) → P u) : ∀ u, P u := by
  have key : ∀ (d : Nat) (u : Int32), u.toInt.toNat < d → P u := by
    intro d
    induction d with
    | zero => intro u h1; omega
    | succ d ih =>
      intro u h1
      refine h u (fun h2 => ih _ ?_)
      have h3 := Int32.lt_iff_toInt_lt.mp h2
      have e : (u - 1).toInt = u.toInt - 1 := by
        rw [Int32.toInt_sub]
        have h4 := u.toInt_lt
        have e0 : (0 : Int32).toInt = 0 := by decide
        have e1 : (1 : Int32).toInt = 1 := by decide
        rw [e0] at h3
        rw [e1]
        exact Int.bmod_eq_of_le (by omega) (by omega)
      have e0 : (0 : Int32).toInt = 0 := by decide
      rw [e0] at h3
      omega
  exact fun u => key _ u (Nat.lt_succ_self _)
theorem mNat_inj {a b : Int32} (ha : 0 ≤ a) (hb : 0 ≤ b) (h : a ≠ b) : a.toNatClampNeg ≠ b.toNatClampNeg := fun h2 => h (px_inj ha hb h2)
theorem mSem_round {I0 : px_I} {w t i e : Int32} (hX : 0 ≤ 220 * w + e ∧ 220 * w + e < 1320) (ho : I0 130 (220 * w + e).toNatClampNeg = 20) (hv : I0 131 (220 * w + e).toNatClampNeg = i) (ht : 0 ≤ t ∧ t < 90) (hb : mSem I0 w t i e)
    {n : Nat} {R : px_R} (hg : px_G n R) {Q : px_Q} (h : Int32) (L0 : px_L) (hq : ∀ r I2 L2, (r = 0 ∨ r = 1) → mRI I0 I2 → mRL L0 L2 → Q (some (.int r)) n I2 L2 R) (d : Int32) (hd0 : 0 ≤ d) (hd : d < 90) (hdt : d + 1 + t ≤ 90) (I1 : px_I)
    (kk : ∀ I2 L2, mRI I0 I2 → mRL L0 L2 → I2 103 53 = d → (∀ q : Int32, 0 ≤ q → q < d → I2 133 q.toNatClampNeg = I1 133 q.toNatClampNeg ∧ I2 134 q.toNatClampNeg = I1 134 q.toNatClampNeg) → px M_X12_runs 0 0 43 [(0, .ref 103), (1, .int w), (2, .int h), (3, .int (220 * w + (e + 1)))] [] n I2 L2 R Q) :
    ∀ (u : Int32) (I : px_I) (L : px_L), mRI I0 I → mRL L0 L → I 103 53 = d + 1 → I 134 d.toNatClampNeg - 1 = u → (∀ q : Int32, 0 ≤ q → q < d → I 133 q.toNatClampNeg = I1 133 q.toNatClampNeg ∧ I 134 q.toNatClampNeg = I1 134 q.toNatClampNeg) →
    px M_X12_runs 0 0 43 [(0, .ref 103), (1, .int w), (2, .int h), (3, .int (220 * w + i))] [] n I L R Q := by
  have hdd : d + 1 - 1 = d := by grind
  refine mDn (fun u ih => ?_)
  intro I L hI hL hI1 hu hp
  refine hb (by grind) hg h L0 hq (d + 1) I L hI hL hI1 (by grind) (by grind) hdt (fun I2 L2 hI2 hL2 hI3 hp2 => ?_)
  have hI4 : I2 134 d.toNatClampNeg = I 134 d.toNatClampNeg := (hp2 d hd0 (by grind)).2
  refine s_round hg w h (220 * w + e) hX ((hI2.at0 _).trans ho) (d + 1) hI3 ⟨by grind, by grind⟩ (fun I5 h5 => hq 0 I5 L2 (Or.inl rfl) (hI2.trans h5) hL2) (fun h6 => ?_) (fun h6 => ?_)
  · rw [hdd, hI4] at h6
    rw [hI2.at1, hv, hdd, hI4]
    refine ih (by rw [← hu]; exact h6) _ L2 (hI2.u4 _ _) hL2 ?_ ?_ (fun q h7 h8 => ?_)
    · rw [px_u_ne (by decide)]; exact hI3
    · rw [px_u_at, ← hu]
    · have h9 : q.toNatClampNeg ≠ d.toNatClampNeg := mNat_inj h7 hd0 (by grind)
      rw [px_u_ne (by decide), px_u_at_ne h9]
      have h10 := hp2 q h7 (by grind)
      have h11 := hp q h7 h8
      exact ⟨h10.1.trans h11.1, h10.2.trans h11.2⟩
  · rw [hdd]
    have e1 : 220 * w + e + 1 = 220 * w + (e + 1) := by grind
    rw [e1]
    refine kk _ L2 ((hI2.u4 _ _).ur _) hL2 (by rw [px_u_at]) (fun q h7 h8 => ?_)
    have h9 : q.toNatClampNeg ≠ d.toNatClampNeg := mNat_inj h7 hd0 (by grind)
    rw [px_u_ne (by decide), px_u_ne (by decide), px_u_ne (by decide), px_u_at_ne h9]
    have h10 := hp2 q h7 (by grind)
    have h11 := hp q h7 h8
    exact ⟨h10.1.trans h11.1, h10.2.trans h11.2⟩
theorem mReg_sem {X : Int32 → Prop} {I0 : px_I} {w s i j : Int32} (hw : 0 ≤ w ∧ w ≤ 5) (hX : ∀ j, X j → 0 ≤ j ∧ j < 220) (h : mReg X (fun j => I0 130 (220 * w + j).toNatClampNeg) (fun j => I0 131 (220 * w + j).toNatClampNeg) s i j) : 0 ≤ s ∧ mSem I0 w s i j := by
  have hk : ∀ j, X j → 0 ≤ 220 * w + j ∧ 220 * w + j < 1320 := fun j hj => by have := hX j hj; grind
  have ha : ∀ j : Int32, 220 * w + j + 1 = 220 * w + (j + 1) := fun j => by grind
  refine h (fun s i j => 0 ≤ s ∧ mSem I0 w s i j) ?_ ?_ ?_ ?_ ?_
  · intro s i hs
    exact ⟨hs, fun _ n R hg Q h L0 hq d I L hI hL hd h0 h1 h2 kk => kk I L hI hL hd (fun _ _ _ => ⟨rfl, rfl⟩)⟩
  · intro s i j hP hj h1 h2
    refine ⟨hP.1, fun hs n R hg Q h L0 hq d I L hI hL hd h0 h90 h3 kk => hP.2 hs hg h L0 hq d I L hI hL hd h0 h90 h3 (fun I2 L2 hI2 hL2 hd2 hp => ?_)⟩
    refine s_step hg w h _ (hk j hj) ⟨by rw [hI2.at0]; exact h1, by rw [hI2.at0]; exact h2⟩ (fun L3 h3 => hq 0 I2 L3 (Or.inl rfl) hI2 (hL2.trans h3)) (fun L3 h3 => ?_)
    rw [ha]
    exact kk I2 L3 hI2 (hL2.trans h3) hd2 hp
  · intro s i j hP hj h1
    refine ⟨hP.1, fun hs n R hg Q h L0 hq d I L hI hL hd h0 h90 h3 kk => hP.2 hs hg h L0 hq d I L hI hL hd h0 h90 h3 (fun I2 L2 hI2 hL2 hd2 hp => ?_)⟩
    refine s_skip hg w h _ (hk j hj) (by rw [hI2.at0]; exact h1) (fun I3 h3 => hq 0 I3 L2 (Or.inl rfl) (hI2.trans h3) hL2) ?_
    rw [hI2.at1]
    exact kk I2 L2 hI2 hL2 hd2 hp
  · intro s i j t e hP hj h1 ht hts hB he h2
    refine ⟨hP.1, fun hs n R hg Q h L0 hq d I L hI hL hd h0 h90 h3 kk => hP.2 hs hg h L0 hq d I L hI hL hd h0 h90 h3 (fun I2 L2 hI2 hL2 hd2 hp => ?_)⟩
    have hs0 := hP.1
    have hd9 : d < 90 := by grind
    refine s_do hg w h _ (hk j hj) (by rw [hI2.at0]; exact h1) d hd2 ⟨h0, hd9⟩ (fun I3 h3 => hq 0 I3 L2 (Or.inl rfl) (hI2.trans h3) hL2) ?_
    rw [hI2.at1]
    refine hB.2 (by grind) hg h L0 hq (d + 1) _ L2 ((hI2.u3 _ _).ur _) hL2 (by rw [px_u_at]) (by grind) (by grind) (by grind) (fun I3 L3 hI3 hL3 hd3 hp3 => ?_)
    have hdd : d + 1 - 1 = d := by grind
    have e1 : I3 133 d.toNatClampNeg = 220 * w + j + 1 := by
      rw [(hp3 d h0 (by grind)).1, px_u_ne (by decide), px_u_at]
    refine s_ret hg w h _ (hk e he) (by rw [hI3.at0]; exact h2) (d + 1) hd3 ⟨by grind, by grind⟩ (fun I4 h4 => hq 0 I4 L3 (Or.inl rfl) (hI3.trans h4) hL3) ?_
    rw [hdd, e1, ha]
    refine kk _ L3 (hI3.ur _) hL3 (by rw [px_u_at]) (fun q h7 h8 => ?_)
    have h9 : q.toNatClampNeg ≠ d.toNatClampNeg := mNat_inj h7 h0 (by grind)
    rw [px_u_ne (by decide), px_u_ne (by decide)]
    have h10 := hp3 q h7 (by grind)
    rw [px_u_ne (show (133 : Nat) ≠ 103 by decide), px_u_ne (show (134 : Nat) ≠ 103 by decide), px_u_at_ne h9, px_u_ne (show (134 : Nat) ≠ 133 by decide)] at h10
    have h11 := hp q h7 h8
    exact ⟨h10.1.trans h11.1, h10.2.trans h11.2⟩
  · intro s i j t e hP hj h1 ht hts hB he h2 hv
    refine ⟨hP.1, fun hs n R hg Q h L0 hq d I L hI hL hd h0 h90 h3 kk => hP.2 hs hg h L0 hq d I L hI hL hd h0 h90 h3 (fun I2 L2 hI2 hL2 hd2 hp => ?_)⟩
    have hs0 := hP.1
    have hd9 : d < 90 := by grind
    refine s_rep hg w h _ (hk j hj) (by rw [hI2.at0]; exact h1) d hd2 ⟨h0, hd9⟩ (fun I3 h3 => hq 0 I3 L2 (Or.inl rfl) (hI2.trans h3) hL2) ?_
    rw [ha]
    refine mSem_round (hk e he) h2 hv ⟨ht, by grind⟩ hB.2 hg h L0 hq d h0 hd9 (by grind) I kk _ _ L2 ((hI2.u4 _ _).ur _) hL2 (by rw [px_u_at]) rfl (fun q h7 h8 => ?_)
    have h9 : q.toNatClampNeg ≠ d.toNatClampNeg := mNat_inj h7 h0 (by grind)
    rw [px_u_ne (by decide), px_u_ne (by decide), px_u_ne (by decide), px_u_at_ne h9]
    exact hp q h7 h8
/-- the orders of a way stand -/
def mOrd (I : px_I) (w : Int32) : Prop := ∃ (X : Int32 → Prop) (s e : Int32), (∀ j, X j → 0 ≤ j ∧ j < 220) ∧ mReg X (fun j => I 130 (220 * w + j).toNatClampNeg) (fun j => I 131 (220 * w + j).toNatClampNeg) s 0 e ∧ s ≤ 90 ∧ X e ∧ I 130 (220 * w + e).toNatClampNeg = 22
def mWays (I : px_I) : Prop := ∀ w : Int32, 0 ≤ w → w ≤ 5 → I 129 w.toNatClampNeg = 1 → mOrd I w
theorem mOrd.same {I I2 : px_I} {w : Int32} (h : mOrd I w) (h0 : ∀ k, I2 130 k = I 130 k) (h1 : ∀ k, I2 131 k = I 131 k) : mOrd I2 w := by
  have e0 : I2 130 = I 130 := funext h0
  have e1 : I2 131 = I 131 := funext h1
  unfold mOrd at *
  rw [e0, e1]; exact h
theorem mWays.same {I I2 : px_I} (h : mWays I) (h0 : ∀ b k, b = 129 ∨ b = 130 ∨ b = 131 → I2 b k = I b k) : mWays I2 := fun w h1 h2 h3 =>
  (h w h1 h2 (by rw [← h0 129 _ (Or.inl rfl)]; exact h3)).same (fun k => h0 130 k (Or.inr (Or.inl rfl))) (fun k => h0 131 k (Or.inr (Or.inr rfl)))
/-- of the reference only what a question uses may have changed -/
def mXI (I I2 : px_I) : Prop := ∀ b j, b ≠ 133 → b ≠ 134 → ¬ (b = 103 ∧ (j = 53 ∨ j = 70 ∨ j = 74)) → I2 b j = I b j
def mXL (L L2 : px_L) : Prop := ∀ b, b ≠ 132 → b ≠ 143 → b ≠ 144 → b ≠ 145 → b ≠ 146 → L2 b = L b
theorem mRI.X {I I2 : px_I} (h : mRI I I2) : mXI I I2 := fun b j h1 h2 h3 => h b j h1 h2 (fun q => h3 ⟨q.1, Or.inl q.2⟩)
theorem mDI.X {I I2 : px_I} (h : mDI I I2) : mXI I I2 := fun b j h1 h2 h3 => h b j (fun q => h3 ⟨q.1, Or.inr (Or.inl q.2)⟩)
theorem mRL.X {L L2 : px_L} (h : mRL L L2) : mXL L L2 := fun b h1 h2 h3 h4 h5 => h b h1
theorem mDL.X {L L2 : px_L} (h : mDL L L2) : mXL L L2 := fun b h1 h2 h3 h4 h5 => h b h2
theorem mNL.X {L L2 : px_L} (h : mNL L L2) : mXL L L2 := fun b h1 h2 h3 h4 h5 => h b h4 h5
theorem mXI.trans {I I1 I2 : px_I} (h : mXI I I1) (h2 : mXI I1 I2) : mXI I I2 := fun b j h3 h4 h5 => (h2 b j h3 h4 h5).trans (h b j h3 h4 h5)
theorem mXL.trans {L L1 L2 : px_L} (h : mXL L L1) (h2 : mXL L1 L2) : mXL L L2 := fun b h1 h3 h4 h5 h6 => (h2 b h1 h3 h4 h5 h6).trans (h b h1 h3 h4 h5 h6)
theorem mXI.rfl' {I : px_I} : mXI I I := fun _ _ _ _ _ => rfl
theorem mXL.rfl' {L : px_L} : mXL L L := fun _ _ _ _ _ _ => rfl
theorem mXI.S {I I2 : px_I} (h : mXI I I2) (hS : mS I) : mS I2 := by
  have a : ∀ b j, b ≠ 133 → b ≠ 134 → ¬ (b = 103 ∧ (j = 53 ∨ j = 70 ∨ j = 74)) → I2 b j = I b j := h
  unfold mS at *
  rw [a 103 1 (by decide) (by decide) (by decide), a 103 2 (by decide) (by decide) (by decide)]
  refine ⟨hS.1, hS.2.1, fun k h1 h2 => ?_⟩
  rw [a 105 _ (by decide) (by decide) (fun q => absurd q.1 (by decide)), a 106 _ (by decide) (by decide) (fun q => absurd q.1 (by decide))]
  exact hS.2.2 k h1 h2
theorem mXI.W {I I2 : px_I} (h : mXI I I2) (hS : mWays I) : mWays I2 := hS.same (fun b k hb => h b k (by rcases hb with rfl | rfl | rfl <;> decide) (by rcases hb with rfl | rfl | rfl <;> decide) (by rcases hb with rfl | rfl | rfl <;> grind))

theorem q_X12_runs_2 : px_bk 12 6 cX12_runs 2 [(.iload_n 3, (0, 0, 0, 0, 0), 0, 0), (.bipush 9, (0, 0, 0, 0, 0), 9, 0)] = some 5 ∧ px_t2 cX12_runs 5 .ge 32 = true := by decide +kernel
theorem q_X12_runs_32 : px_bk 12 6 cX12_runs 32 [(.aload_n 0, (0, 0, 0, 0, 0), 0, 0), (.iconst 0, (0, 0, 0, 0, 0), 0, 0), (.putfield 396, (12, 53, 0, 0, 0), 0, 0), (.sipush 220, (0, 0, 0, 0, 0), 220, 0), (.iload_n 1, (0, 0, 0, 0, 0), 0, 0), (.imul, (0, 0, 0, 0, 0), 0, 0), (.istore_n 3, (0, 0, 0, 0, 0), 0, 0)] = some 43 := by decide +kernel
theorem q_X12_runs_8 : px_bk 12 6 cX12_runs 8 [(.aload_n 0, (0, 0, 0, 0, 0), 0, 0), (.getfield 121, (12, 52, 3, 132, 0), 0, 0), (.iload_n 3, (0, 0, 0, 0, 0), 0, 0), (.iload_n 3, (0, 0, 0, 0, 0), 0, 0), (.bipush 7, (0, 0, 0, 0, 0), 7, 0)] = some 16 ∧ px_t2 cX12_runs 16 .ne 24 = true := by decide +kernel
theorem q_X12_runs_24 : px_bk 12 6 cX12_runs 24 [(.lconst 0, (0, 0, 0, 0, 0), 0, 0), (.lastore, (0, 0, 0, 0, 0), 0, 0), (.iinc 3 1, (0, 0, 0, 0, 0), 1, 0), (.goto (-27), (0, 0, 0, 0, 0), 0, 0)] = some 2 := by decide +kernel
theorem q_X12_runs_19 : px_bk 12 6 cX12_runs 19 [(.iload_n 2, (0, 0, 0, 0, 0), 0, 0), (.i2l, (0, 0, 0, 0, 0), 0, 0), (.goto 4, (0, 0, 0, 0, 0), 0, 0), (.lastore, (0, 0, 0, 0, 0), 0, 0), (.iinc 3 1, (0, 0, 0, 0, 0), 1, 0), (.goto (-27), (0, 0, 0, 0, 0), 0, 0)] = some 2 := by decide +kernel
set_option maxRecDepth 100000 in
theorem l_runs2 {n : Nat} {R : px_R} (hg : px_G n R) {Q : px_Q} (w h : Int32) (hw : 0 ≤ w ∧ w ≤ 5) {I : px_I} (ho : mOrd I w) (L : px_L) (hq : ∀ r I2 L2, (r = 0 ∨ r = 1) → mRI I I2 → mRL L L2 → Q (some (.int r)) n I2 L2 R) : ∀ k : Int32, k ≤ 9 → 0 ≤ k → ∀ L1, mRL L L1 → px M_X12_runs 0 0 2 [(0, .ref 103), (1, .int w), (2, .int h), (3, .int k)] [] n I L1 R Q := by
  refine px_up 9 (fun k ih hk => ?_)
  intro h0 L1 h1
  refine px_ige rfl q_X12_runs_2 hg rfl trivial (fun c5 => ?_) (fun c5 => ?_)
  · refine px_b rfl q_X12_runs_32 hg rfl trivial ?_
    obtain ⟨X, s, e, hX, hR, hs, he, hE⟩ := ho
    obtain ⟨hs0, hsem⟩ := mReg_sem hw hX hR
    have hk9 : 0 ≤ 220 * w + e ∧ 220 * w + e < 1320 := by have := hX e he; grind
    have e0 : 220 * w + 0 = 220 * w := by grind
    have hz := hsem hs hg h L hq 0 (px_u I 103 53 0) L1 (mRI.ur (fun _ _ _ _ _ => rfl) _) h1 (by rw [px_u_at]) (by decide) (by decide) (by grind) (fun I2 L2 hI2 hL2 hd2 _ => s_end hg w h _ hk9 ((hI2.at0 _).trans hE) (hq 1 I2 L2 (Or.inr rfl) hI2 hL2))
    rw [e0] at hz
    exact px_go hz ⟨rfl, rfl, rfl, rfl, trivial⟩
  · refine px_ine rfl q_X12_runs_8 hg rfl trivial (fun c16 => ?_) (fun c16 => ?_)
    · refine px_b rfl q_X12_runs_24 hg rfl ⟨trivial, (by first | decide | (refine ⟨?_, ?_⟩ <;> grind) | grind)⟩ ?_
      exact px_go (ih (k + 1) (by grind) (by grind) (by grind) _ (h1.u _ _)) ⟨rfl, rfl, rfl, rfl, trivial⟩
    · refine px_b rfl q_X12_runs_19 hg rfl ⟨trivial, (by first | decide | (refine ⟨?_, ?_⟩ <;> grind) | grind)⟩ ?_
      exact px_go (ih (k + 1) (by grind) (by grind) (by grind) _ (h1.u _ _)) ⟨rfl, rfl, rfl, rfl, trivial⟩

theorem q_X12_runs_0 : px_bk 12 6 cX12_runs 0 [(.iconst 0, (0, 0, 0, 0, 0), 0, 0), (.istore_n 3, (0, 0, 0, 0, 0), 0, 0)] = some 2 := by decide +kernel
set_option maxRecDepth 100000 in
theorem k_runs {n : Nat} {I : px_I} {L : px_L} {R : px_R} (hg : px_G n R) (w h : Int32) (hw : 0 ≤ w ∧ w ≤ 5) (ho : mOrd I w) : px_KS M_X12_runs [.ref 103, .int w, .int h] n I L R (fun r I2 L2 => (r = 0 ∨ r = 1) ∧ mRI I I2 ∧ mRL L L2) := by
  refine px_of (plainFor_of_name np_RX12) (fun _ _ _ => trivial) rfl ?_
  refine px_b rfl q_X12_runs_0 hg rfl trivial ?_
  exact px_go (l_runs2 hg w h hw ho L (fun r I2 L2 hr h1 h2 => ⟨rfl, rfl, r, rfl, hr, h1, h2⟩) 0 (by decide) (by decide) L (fun _ _ => rfl)) ⟨rfl, rfl, rfl, rfl, trivial⟩

theorem q_X12_run_0 : px_bk 12 4 cX12_run 0 [(.aload_n 0, (0, 0, 0, 0, 0), 0, 0), (.iload_n 1, (0, 0, 0, 0, 0), 0, 0)] = some 2 ∧ px_tv cX12_run 2 406 = true := by decide +kernel
theorem q_X12_run_5 : px_bk 12 4 cX12_run 5 [] = some 5 ∧ px_t1 cX12_run 5 .eq 41 = true := by decide +kernel
theorem q_X12_run_41 : px_bk 12 4 cX12_run 41 [(.ldc 218, (0, 0, 0, 0, 0), -2000000000, 0), (.goto 10, (0, 0, 0, 0, 0), 0, 0)] = some 53 ∧ px_tr cX12_run 53 .ireturn = true := by decide +kernel
theorem q_X12_run_8 : px_bk 12 4 cX12_run 8 [(.iload_n 2, (0, 0, 0, 0, 0), 0, 0), (.i2l, (0, 0, 0, 0, 0), 0, 0), (.lconst 0, (0, 0, 0, 0, 0), 0, 0), (.ldc2_w 409, (0, 0, 0, 0, 0), 0, 15)] = some 14 ∧ px_tS cX12_run 14 167 = true := by decide +kernel
theorem q_X12_run_17 : px_bk 12 4 cX12_run 17 [] = some 17 ∧ px_t1 cX12_run 17 .eq 41 = true := by decide +kernel
theorem q_X12_run_20 : px_bk 12 4 cX12_run 20 [(.iload_n 3, (0, 0, 0, 0, 0), 0, 0), (.i2l, (0, 0, 0, 0, 0), 0, 0), (.lconst 0, (0, 0, 0, 0, 0), 0, 0), (.ldc2_w 411, (0, 0, 0, 0, 0), 0, 8)] = some 26 ∧ px_tS cX12_run 26 167 = true := by decide +kernel
theorem q_X12_run_29 : px_bk 12 4 cX12_run 29 [] = some 29 ∧ px_t1 cX12_run 29 .eq 41 = true := by decide +kernel
theorem q_X12_run_32 : px_bk 12 4 cX12_run 32 [(.aload_n 0, (0, 0, 0, 0, 0), 0, 0), (.iload_n 1, (0, 0, 0, 0, 0), 0, 0), (.iload_n 2, (0, 0, 0, 0, 0), 0, 0)] = some 35 ∧ px_tv cX12_run 35 413 = true := by decide +kernel
theorem q_X12_run_38 : px_bk 12 4 cX12_run 38 [] = some 38 ∧ px_t1 cX12_run 38 .ne 46 = true := by decide +kernel
theorem q_X12_run_46 : px_bk 12 4 cX12_run 46 [(.aload_n 0, (0, 0, 0, 0, 0), 0, 0), (.getfield 121, (12, 52, 3, 132, 0), 0, 0), (.iload_n 3, (0, 0, 0, 0, 0), 0, 0), (.laload, (0, 0, 0, 0, 0), 0, 0), (.l2i, (0, 0, 0, 0, 0), 0, 0)] = some 53 ∧ px_tr cX12_run 53 .ireturn = true := by decide +kernel
set_option maxRecDepth 100000 in
theorem k_run {n : Nat} {I : px_I} {L : px_L} {R : px_R} (hg : px_G n R) (w h a : Int32) (hW : mWays I) : px_KS M_X12_run [.ref 103, .int w, .int h, .int a] n I L R (fun r I2 L2 => mXI I I2 ∧ mXL L L2) := by
  refine px_of (plainFor_of_name np_RX12) (fun _ _ _ => trivial) rfl ?_
  refine px_cVP (ci := 12) rfl q_X12_run_0 hg rfl trivial lk_12_406 nm_X12_isWay (k_isWay hg _) rfl rfl (px_lit hg rfl) rfl rfl rfl ⟨rfl, rfl⟩ ?_
  intro x2 h2
  refine px_eq rfl q_X12_run_5 hg rfl trivial (fun c5 => ?_) (fun c5 => ?_)
  · replace h2 := px_bf h2 c5
    refine px_riS rfl q_X12_run_41 rfl rfl rfl hg rfl trivial ⟨⟨rfl, rfl⟩, ?_⟩
    first | exact ⟨mXI.rfl', mXL.rfl'⟩ | exact ⟨h35.2.1.X, h35.2.2.X⟩
  · replace h2 := px_bt h2 c5
    refine px_cSP rfl q_X12_run_8 hg rfl trivial lk_12_167 nm_X12_in (k_inI hg _ (0) (15) (by decide) (by decide)) rfl rfl rfl ⟨rfl, rfl⟩ ?_
    intro x14 h14
    refine px_eq rfl q_X12_run_17 hg rfl trivial (fun c17 => ?_) (fun c17 => ?_)
    · replace h14 := px_bf h14 c17
      refine px_riS rfl q_X12_run_41 rfl rfl rfl hg rfl trivial ⟨⟨rfl, rfl⟩, ?_⟩
      first | exact ⟨mXI.rfl', mXL.rfl'⟩ | exact ⟨h35.2.1.X, h35.2.2.X⟩
    · replace h14 := px_bt h14 c17
      refine px_cSP rfl q_X12_run_20 hg rfl trivial lk_12_167 nm_X12_in (k_inI hg _ (0) (8) (by decide) (by decide)) rfl rfl rfl ⟨rfl, rfl⟩ ?_
      intro x26 h26
      refine px_eq rfl q_X12_run_29 hg rfl trivial (fun c29 => ?_) (fun c29 => ?_)
      · replace h26 := px_bf h26 c29
        refine px_riS rfl q_X12_run_41 rfl rfl rfl hg rfl trivial ⟨⟨rfl, rfl⟩, ?_⟩
        first | exact ⟨mXI.rfl', mXL.rfl'⟩ | exact ⟨h35.2.1.X, h35.2.2.X⟩
      · replace h26 := px_bt h26 c29
        refine px_cVS (ci := 12) rfl q_X12_run_32 hg rfl trivial lk_12_413 nm_X12_runs (k_runs hg _ _ h2.1 (hW w h2.1.1 h2.1.2 h2.2)) rfl rfl (px_lit hg rfl) rfl rfl rfl ⟨rfl, rfl⟩ ?_
        intro x35 I35 L35 h35
        refine px_ne rfl q_X12_run_38 hg rfl trivial (fun c38 => ?_) (fun c38 => ?_)
        · refine px_riS rfl q_X12_run_46 rfl rfl rfl hg rfl ⟨trivial, (by first | decide | (refine ⟨?_, ?_⟩ <;> grind) | grind)⟩ ⟨⟨rfl, rfl⟩, ?_⟩
          first | exact ⟨mXI.rfl', mXL.rfl'⟩ | exact ⟨h35.2.1.X, h35.2.2.X⟩
        · refine px_riS rfl q_X12_run_41 rfl rfl rfl hg rfl trivial ⟨⟨rfl, rfl⟩, ?_⟩
          first | exact ⟨mXI.rfl', mXL.rfl'⟩ | exact ⟨h35.2.1.X, h35.2.2.X⟩

def mBL (L L2 : px_L) : Prop := ∀ b, b ≠ 132 → b ≠ 144 → L2 b = L b
theorem mBL.u {L L1 : px_L} (h : mBL L L1) (k : Nat) (v : Int64) : mBL L (px_u L1 144 k v) := fun b h3 h4 => by rw [px_u_ne h4]; exact h b h3 h4
theorem mBL.X {L L2 : px_L} (h : mBL L L2) : mXL L L2 := fun b h1 h2 h3 h4 h5 => h b h1 h3
theorem mBL.R {L L1 L2 : px_L} (h : mBL L L1) (h2 : mRL L1 L2) : mBL L L2 := fun b h3 h4 => (h2 b h3).trans (h b h3 h4)
theorem mXI.u74 {I I1 : px_I} (h : mXI I I1) (v : Int32) : mXI I (px_u I1 103 74 v) := fun b j h3 h4 h5 => by rw [px_ur, ← h b j h3 h4 h5]; grind
theorem mXI.u70 {I I1 : px_I} (h : mXI I I1) (v : Int32) : mXI I (px_u I1 103 70 v) := fun b j h3 h4 h5 => by rw [px_ur, ← h b j h3 h4 h5]; grind

theorem q_X12_runsBoth_18 : px_bk 12 4 cX12_runsBoth 18 [(.iload_n 3, (0, 0, 0, 0, 0), 0, 0), (.bipush 6, (0, 0, 0, 0, 0), 6, 0)] = some 21 ∧ px_t2 cX12_runsBoth 21 .ge 42 = true := by decide +kernel
theorem q_X12_runsBoth_42 : px_bk 12 4 cX12_runsBoth 42 [(.aload_n 0, (0, 0, 0, 0, 0), 0, 0), (.aload_n 0, (0, 0, 0, 0, 0), 0, 0), (.getfield 418, (12, 74, 0, 0, 0), 0, 0)] = some 47 ∧ px_t1 cX12_runsBoth 47 .eq 69 = true := by decide +kernel
theorem q_X12_runsBoth_69 : px_bk 12 4 cX12_runsBoth 69 [(.iconst 0, (0, 0, 0, 0, 0), 0, 0), (.putfield 418, (12, 74, 2, 0, 0), 0, 0)] = some 73 ∧ px_tr cX12_runsBoth 73 .return_ = true := by decide +kernel
theorem q_X12_runsBoth_50 : px_bk 12 4 cX12_runsBoth 50 [(.aload_n 0, (0, 0, 0, 0, 0), 0, 0), (.iload_n 2, (0, 0, 0, 0, 0), 0, 0), (.bipush 16, (0, 0, 0, 0, 0), 16, 0), (.idiv, (0, 0, 0, 0, 0), 0, 0), (.iload_n 2, (0, 0, 0, 0, 0), 0, 0), (.bipush 16, (0, 0, 0, 0, 0), 16, 0), (.irem, (0, 0, 0, 0, 0), 0, 0)] = some 59 ∧ px_tv cX12_runsBoth 59 413 = true := by decide +kernel
theorem q_X12_runsBoth_62 : px_bk 12 4 cX12_runsBoth 62 [] = some 62 ∧ px_t1 cX12_runsBoth 62 .eq 69 = true := by decide +kernel
theorem q_X12_runsBoth_65 : px_bk 12 4 cX12_runsBoth 65 [(.iconst 1, (0, 0, 0, 0, 0), 1, 0), (.goto 4, (0, 0, 0, 0, 0), 0, 0), (.putfield 418, (12, 74, 2, 0, 0), 0, 0)] = some 73 ∧ px_tr cX12_runsBoth 73 .return_ = true := by decide +kernel
theorem q_X12_runsBoth_24 : px_bk 12 4 cX12_runsBoth 24 [(.aload_n 0, (0, 0, 0, 0, 0), 0, 0), (.getfield 158, (12, 73, 3, 144, 0), 0, 0), (.iload_n 3, (0, 0, 0, 0, 0), 0, 0), (.aload_n 0, (0, 0, 0, 0, 0), 0, 0), (.getfield 121, (12, 52, 3, 132, 0), 0, 0), (.iload_n 3, (0, 0, 0, 0, 0), 0, 0), (.laload, (0, 0, 0, 0, 0), 0, 0), (.lastore, (0, 0, 0, 0, 0), 0, 0), (.iinc 3 1, (0, 0, 0, 0, 0), 1, 0), (.goto (-21), (0, 0, 0, 0, 0), 0, 0)] = some 18 := by decide +kernel
set_option maxRecDepth 100000 in
theorem l_runsBoth {n : Nat} {R : px_R} (hg : px_G n R) {Q : px_Q} (a b : Int32) {I0 I : px_I} (hb : 0 ≤ b / 16 ∧ b / 16 ≤ 5) (hX : mXI I0 I) (ho : mOrd I (b / 16)) (L : px_L) (hq : ∀ I2 L2, mXI I0 I2 → mBL L L2 → Q none n I2 L2 R) : ∀ k : Int32, k ≤ 6 → 0 ≤ k → ∀ L1, mBL L L1 → px M_X12_runsBoth 0 0 18 [(0, .ref 103), (1, .int a), (2, .int b), (3, .int k)] [] n I L1 R Q := by
  refine px_up 6 (fun k ih hk => ?_)
  intro h0 L1 h1
  refine px_ige rfl q_X12_runsBoth_18 hg rfl trivial (fun c21 => ?_) (fun c21 => ?_)
  · refine px_eq rfl q_X12_runsBoth_42 hg rfl trivial (fun c47 => ?_) (fun c47 => ?_)
    · refine px_rv rfl q_X12_runsBoth_69 rfl rfl rfl hg rfl ⟨trivial, (by first | decide | exact Or.inl rfl | exact Or.inr rfl | (refine ⟨?_, ?_⟩ <;> grind))⟩ ?_
      first | exact hq _ _ (hX.u74 _) h1 | exact hq _ _ ((hX.trans h59.2.1.X).u74 _) (h1.R h59.2.2)
    · refine px_cVS (ci := 12) rfl q_X12_runsBoth_50 hg rfl ⟨⟨trivial, (by first | decide | exact Or.inl rfl | exact Or.inr rfl | (refine ⟨?_, ?_⟩ <;> grind))⟩, (by first | decide | exact Or.inl rfl | exact Or.inr rfl | (refine ⟨?_, ?_⟩ <;> grind))⟩ lk_12_413 nm_X12_runs (k_runs hg _ _ hb ho) rfl rfl (px_lit hg rfl) rfl rfl rfl ⟨rfl, rfl⟩ ?_
      intro x59 I59 L59 h59
      refine px_eq rfl q_X12_runsBoth_62 hg rfl trivial (fun c62 => ?_) (fun c62 => ?_)
      · refine px_rv rfl q_X12_runsBoth_69 rfl rfl rfl hg rfl ⟨trivial, (by first | decide | exact Or.inl rfl | exact Or.inr rfl | (refine ⟨?_, ?_⟩ <;> grind))⟩ ?_
        first | exact hq _ _ (hX.u74 _) h1 | exact hq _ _ ((hX.trans h59.2.1.X).u74 _) (h1.R h59.2.2)
      · refine px_rv rfl q_X12_runsBoth_65 rfl rfl rfl hg rfl ⟨trivial, (by first | decide | exact Or.inl rfl | exact Or.inr rfl | (refine ⟨?_, ?_⟩ <;> grind))⟩ ?_
        first | exact hq _ _ (hX.u74 _) h1 | exact hq _ _ ((hX.trans h59.2.1.X).u74 _) (h1.R h59.2.2)
  · refine px_b rfl q_X12_runsBoth_24 hg rfl ⟨⟨trivial, (by first | decide | exact Or.inl rfl | exact Or.inr rfl | (refine ⟨?_, ?_⟩ <;> grind))⟩, (by first | decide | exact Or.inl rfl | exact Or.inr rfl | (refine ⟨?_, ?_⟩ <;> grind))⟩ ?_
    exact px_go (ih (k + 1) (by grind) (by grind) (by grind) _ (h1.u _ _)) ⟨rfl, rfl, rfl, rfl, trivial⟩

theorem q_X12_runsBoth_0 : px_bk 12 4 cX12_runsBoth 0 [(.aload_n 0, (0, 0, 0, 0, 0), 0, 0), (.aload_n 0, (0, 0, 0, 0, 0), 0, 0), (.iload_n 1, (0, 0, 0, 0, 0), 0, 0), (.bipush 16, (0, 0, 0, 0, 0), 16, 0), (.idiv, (0, 0, 0, 0, 0), 0, 0), (.iload_n 1, (0, 0, 0, 0, 0), 0, 0), (.bipush 16, (0, 0, 0, 0, 0), 16, 0), (.irem, (0, 0, 0, 0, 0), 0, 0)] = some 10 ∧ px_tv cX12_runsBoth 10 413 = true := by decide +kernel
theorem q_X12_runsBoth_13 : px_bk 12 4 cX12_runsBoth 13 [(.putfield 418, (12, 74, 2, 0, 0), 0, 0), (.iconst 0, (0, 0, 0, 0, 0), 0, 0), (.istore_n 3, (0, 0, 0, 0, 0), 0, 0)] = some 18 := by decide +kernel
set_option maxRecDepth 100000 in
theorem k_runsBoth {n : Nat} {I : px_I} {L : px_L} {R : px_R} (hg : px_G n R) (a b : Int32) (ha : 0 ≤ a / 16 ∧ a / 16 ≤ 5) (hb : 0 ≤ b / 16 ∧ b / 16 ≤ 5) (ho : mOrd I (a / 16)) (ho2 : mOrd I (b / 16)) : px_KV M_X12_runsBoth [.ref 103, .int a, .int b] n I L R (fun I2 L2 => mXI I I2 ∧ mXL L L2) := by
  refine px_of (plainFor_of_name np_RX12) (fun _ _ _ => trivial) rfl ?_
  refine px_cVS (ci := 12) rfl q_X12_runsBoth_0 hg rfl ⟨⟨trivial, (by first | decide | exact h10.1)⟩, (by first | decide | exact h10.1)⟩ lk_12_413 nm_X12_runs (k_runs hg _ _ ha ho) rfl rfl (px_lit hg rfl) rfl rfl rfl ⟨rfl, rfl⟩ ?_
  intro x10 I10 L10 h10
  refine px_b rfl q_X12_runsBoth_13 hg rfl ⟨trivial, (by first | decide | exact h10.1)⟩ ?_
  have ho3 : mOrd (px_u I10 103 74 x10) (b / 16) := ho2.same (fun k => h10.2.1.at0 k) (fun k => h10.2.1.at1 k)
  exact px_go (l_runsBoth hg a b hb (h10.2.1.X.u74 _) ho3 L10 (fun I2 L2 h1 h2 => ⟨rfl, rfl, rfl, h1, h10.2.2.X.trans h2.X⟩) 0 (by decide) (by decide) L10 (fun _ _ _ => rfl)) ⟨rfl, rfl, rfl, rfl, trivial⟩

theorem q_X12_meets_0 : px_bk 12 8 cX12_meets 0 [(.aload_n 0, (0, 0, 0, 0, 0), 0, 0), (.getfield 418, (12, 74, 0, 0, 0), 0, 0)] = some 4 ∧ px_t1 cX12_meets 4 .eq 20 = true := by decide +kernel
theorem q_X12_meets_20 : px_bk 12 8 cX12_meets 20 [(.ldc2_w 422, (0, 0, 0, 0, 0), 0, -2000000000)] = some 23 ∧ px_tr cX12_meets 23 .lreturn = true := by decide +kernel
theorem q_X12_meets_7 : px_bk 12 8 cX12_meets 7 [(.aload_n 0, (0, 0, 0, 0, 0), 0, 0), (.iload_n 3, (0, 0, 0, 0, 0), 0, 0), (.aload_n 0, (0, 0, 0, 0, 0), 0, 0), (.getfield 177, (12, 0, 0, 0, 0), 0, 0), (.iconst (-1), (0, 0, 0, 0, 0), -1, 0)] = some 14 ∧ px_tv cX12_meets 14 214 = true := by decide +kernel
theorem q_X12_meets_17 : px_bk 12 8 cX12_meets 17 [] = some 17 ∧ px_t1 cX12_meets 17 .ne 24 = true := by decide +kernel
theorem q_X12_meets_24 : px_bk 12 8 cX12_meets 24 [(.aload_n 0, (0, 0, 0, 0, 0), 0, 0), (.iload_n 1, (0, 0, 0, 0, 0), 0, 0), (.iload_n 2, (0, 0, 0, 0, 0), 0, 0), (.iload 4, (0, 0, 0, 0, 0), 0, 0)] = some 29 ∧ px_tv cX12_meets 29 219 = true := by decide +kernel
theorem q_X12_meets_32 : px_bk 12 8 cX12_meets 32 [(.istore 5, (0, 0, 0, 0, 0), 0, 0), (.aload_n 0, (0, 0, 0, 0, 0), 0, 0), (.getfield 158, (12, 73, 3, 144, 0), 0, 0), (.iconst 3, (0, 0, 0, 0, 0), 3, 0), (.iload_n 3, (0, 0, 0, 0, 0), 0, 0), (.iadd, (0, 0, 0, 0, 0), 0, 0), (.laload, (0, 0, 0, 0, 0), 0, 0), (.aload_n 0, (0, 0, 0, 0, 0), 0, 0), (.getfield 121, (12, 52, 3, 132, 0), 0, 0), (.iconst 3, (0, 0, 0, 0, 0), 3, 0), (.iload_n 3, (0, 0, 0, 0, 0), 0, 0), (.iadd, (0, 0, 0, 0, 0), 0, 0), (.laload, (0, 0, 0, 0, 0), 0, 0), (.ladd, (0, 0, 0, 0, 0), 0, 0), (.lstore 6, (0, 0, 0, 0, 0), 0, 0), (.iload 5, (0, 0, 0, 0, 0), 0, 0), (.ldc 218, (0, 0, 0, 0, 0), -2000000000, 0)] = some 57 ∧ px_t2 cX12_meets 57 .ne 66 = true := by decide +kernel
theorem q_X12_meets_66 : px_bk 12 8 cX12_meets 66 [(.iload 5, (0, 0, 0, 0, 0), 0, 0), (.i2l, (0, 0, 0, 0, 0), 0, 0), (.aload_n 0, (0, 0, 0, 0, 0), 0, 0), (.getfield 121, (12, 52, 3, 132, 0), 0, 0), (.iload_n 3, (0, 0, 0, 0, 0), 0, 0), (.laload, (0, 0, 0, 0, 0), 0, 0), (.ladd, (0, 0, 0, 0, 0), 0, 0), (.aload_n 0, (0, 0, 0, 0, 0), 0, 0), (.getfield 158, (12, 73, 3, 144, 0), 0, 0), (.iload_n 3, (0, 0, 0, 0, 0), 0, 0), (.laload, (0, 0, 0, 0, 0), 0, 0), (.lsub, (0, 0, 0, 0, 0), 0, 0), (.iload 4, (0, 0, 0, 0, 0), 0, 0)] = some 85 ∧ px_t1 cX12_meets 85 .eq 93 = true := by decide +kernel
theorem q_X12_meets_93 : px_bk 12 8 cX12_meets 93 [(.lload 6, (0, 0, 0, 0, 0), 0, 0), (.lneg, (0, 0, 0, 0, 0), 0, 0), (.ladd, (0, 0, 0, 0, 0), 0, 0)] = some 97 ∧ px_tr cX12_meets 97 .lreturn = true := by decide +kernel
theorem q_X12_meets_88 : px_bk 12 8 cX12_meets 88 [(.lload 6, (0, 0, 0, 0, 0), 0, 0), (.goto 6, (0, 0, 0, 0, 0), 0, 0), (.ladd, (0, 0, 0, 0, 0), 0, 0)] = some 97 ∧ px_tr cX12_meets 97 .lreturn = true := by decide +kernel
theorem q_X12_meets_60 : px_bk 12 8 cX12_meets 60 [(.ldc2_w 422, (0, 0, 0, 0, 0), 0, -2000000000), (.goto 34, (0, 0, 0, 0, 0), 0, 0)] = some 97 ∧ px_tr cX12_meets 97 .lreturn = true := by decide +kernel
set_option maxRecDepth 100000 in
theorem k_meets {n : Nat} {I : px_I} {L : px_L} {R : px_R} (hg : px_G n R) (f t a h : Int32) (ha : 0 ≤ a ∧ a ≤ 2) (hf : 0 ≤ f ∧ f < 24) (ht : 0 ≤ t ∧ t < 24) (hS : mS I) : px_KT M_X12_meets [.ref 103, .int f, .int t, .int a, .int h] n I L R (fun r I2 L2 => mXI I I2 ∧ mXL L L2) := by
  refine px_of (plainFor_of_name np_RX12) (fun _ _ _ => trivial) rfl ?_
  refine px_eq rfl q_X12_meets_0 hg rfl trivial (fun c4 => ?_) (fun c4 => ?_)
  · refine px_rlT rfl q_X12_meets_20 rfl rfl rfl hg rfl trivial ⟨⟨rfl, rfl⟩, ?_⟩
    first | exact ⟨mXI.rfl', mXL.rfl'⟩ | exact ⟨by rw [h14.2.1]; exact mXI.rfl'.u70 _, h14.2.2.X⟩
  · refine px_cVS (ci := 12) rfl q_X12_meets_7 hg rfl trivial lk_12_214 nm_X12_isClosed (k_isClosed hg _ _ _ ‹_›) rfl rfl (px_lit hg rfl) rfl rfl rfl ⟨rfl, rfl⟩ ?_
    intro x14 I14 L14 h14
    refine px_ne rfl q_X12_meets_17 hg rfl trivial (fun c17 => ?_) (fun c17 => ?_)
    · refine px_cVP (ci := 12) rfl q_X12_meets_24 hg rfl trivial lk_12_219 nm_X12_gapOf (k_gapOf hg _ _ _ (by grind) (by grind)) rfl rfl (px_lit hg rfl) rfl rfl rfl ⟨rfl, rfl⟩ ?_
      intro x29 h29
      refine px_ine rfl q_X12_meets_32 hg rfl ⟨⟨trivial, (by first | decide | (refine ⟨?_, ?_⟩ <;> grind) | grind)⟩, (by first | decide | (refine ⟨?_, ?_⟩ <;> grind) | grind)⟩ (fun c57 => ?_) (fun c57 => ?_)
      · refine px_eq rfl q_X12_meets_66 hg rfl ⟨⟨trivial, (by first | decide | (refine ⟨?_, ?_⟩ <;> grind) | grind)⟩, (by first | decide | (refine ⟨?_, ?_⟩ <;> grind) | grind)⟩ (fun c85 => ?_) (fun c85 => ?_)
        · refine px_rlT rfl q_X12_meets_93 rfl rfl rfl hg rfl trivial ⟨⟨rfl, rfl⟩, ?_⟩
          first | exact ⟨mXI.rfl', mXL.rfl'⟩ | exact ⟨by rw [h14.2.1]; exact mXI.rfl'.u70 _, h14.2.2.X⟩
        · refine px_rlT rfl q_X12_meets_88 rfl rfl rfl hg rfl trivial ⟨⟨rfl, rfl⟩, ?_⟩
          first | exact ⟨mXI.rfl', mXL.rfl'⟩ | exact ⟨by rw [h14.2.1]; exact mXI.rfl'.u70 _, h14.2.2.X⟩
      · refine px_rlT rfl q_X12_meets_60 rfl rfl rfl hg rfl trivial ⟨⟨rfl, rfl⟩, ?_⟩
        first | exact ⟨mXI.rfl', mXL.rfl'⟩ | exact ⟨by rw [h14.2.1]; exact mXI.rfl'.u70 _, h14.2.2.X⟩
    · refine px_rlT rfl q_X12_meets_20 rfl rfl rfl hg rfl trivial ⟨⟨rfl, rfl⟩, ?_⟩
      first | exact ⟨mXI.rfl', mXL.rfl'⟩ | exact ⟨by rw [h14.2.1]; exact mXI.rfl'.u70 _, h14.2.2.X⟩

theorem q_X12_meeting_0 : px_bk 12 7 cX12_meeting 0 [(.aload_n 0, (0, 0, 0, 0, 0), 0, 0), (.iload_n 1, (0, 0, 0, 0, 0), 0, 0), (.iload_n 2, (0, 0, 0, 0, 0), 0, 0), (.iload_n 3, (0, 0, 0, 0, 0), 0, 0), (.iload 4, (0, 0, 0, 0, 0), 0, 0)] = some 6 ∧ px_tv cX12_meeting 6 427 = true := by decide +kernel
theorem q_X12_meeting_9 : px_bk 12 7 cX12_meeting 9 [] = some 9 ∧ px_t1 cX12_meeting 9 .eq 20 = true := by decide +kernel
theorem q_X12_meeting_20 : px_bk 12 7 cX12_meeting 20 [(.ldc 218, (0, 0, 0, 0, 0), -2000000000, 0)] = some 22 ∧ px_tr cX12_meeting 22 .ireturn = true := by decide +kernel
theorem q_X12_meeting_12 : px_bk 12 7 cX12_meeting 12 [(.iload 5, (0, 0, 0, 0, 0), 0, 0)] = some 14 ∧ px_tS cX12_meeting 14 180 = true := by decide +kernel
theorem q_X12_meeting_17 : px_bk 12 7 cX12_meeting 17 [] = some 17 ∧ px_t1 cX12_meeting 17 .ne 23 = true := by decide +kernel
theorem q_X12_meeting_23 : px_bk 12 7 cX12_meeting 23 [(.aload_n 0, (0, 0, 0, 0, 0), 0, 0), (.iload_n 1, (0, 0, 0, 0, 0), 0, 0), (.iload_n 3, (0, 0, 0, 0, 0), 0, 0)] = some 26 ∧ px_tv cX12_meeting 26 431 = true := by decide +kernel
theorem q_X12_meeting_29 : px_bk 12 7 cX12_meeting 29 [(.aload_n 0, (0, 0, 0, 0, 0), 0, 0), (.iload_n 2, (0, 0, 0, 0, 0), 0, 0), (.iload 4, (0, 0, 0, 0, 0), 0, 0), (.iload 5, (0, 0, 0, 0, 0), 0, 0), (.iload 6, (0, 0, 0, 0, 0), 0, 0)] = some 37 ∧ px_tv cX12_meeting 37 434 = true := by decide +kernel
theorem q_X12_meeting_40 : px_bk 12 7 cX12_meeting 40 [(.l2i, (0, 0, 0, 0, 0), 0, 0)] = some 41 ∧ px_tr cX12_meeting 41 .ireturn = true := by decide +kernel
set_option maxRecDepth 100000 in
theorem k_meeting {n : Nat} {I : px_I} {L : px_L} {R : px_R} (hg : px_G n R) (a f b t x h : Int32) (hS : mS I) (hW : mWays I) : px_KS M_X12_meeting [.ref 103, .int a, .int f, .int b, .int t, .int x, .int h] n I L R (fun r I2 L2 => mXI I I2 ∧ mXL L L2) := by
  refine px_of (plainFor_of_name np_RX12) (fun _ _ _ => trivial) rfl ?_
  refine px_cVP (ci := 12) rfl q_X12_meeting_0 hg rfl trivial lk_12_427 nm_X12_areAsked (k_areAsked hg _ _ _ _) rfl rfl (px_lit hg rfl) rfl rfl rfl ⟨rfl, rfl⟩ ?_
  intro x6 h6
  refine px_eq rfl q_X12_meeting_9 hg rfl trivial (fun c9 => ?_) (fun c9 => ?_)
  · replace h6 := px_bf h6 c9
    refine px_riS rfl q_X12_meeting_20 rfl rfl rfl hg rfl trivial ⟨⟨rfl, rfl⟩, ?_⟩
    first | exact ⟨mXI.rfl', mXL.rfl'⟩ | exact ⟨hx1.trans h37.1, hx2.trans h37.2⟩
  · replace h6 := px_bt h6 c9
    refine px_cSP rfl q_X12_meeting_12 hg rfl trivial lk_12_180 nm_X12_isAxis (k_isAxis hg _) rfl rfl rfl ⟨rfl, rfl⟩ ?_
    intro x14 h14
    refine px_ne rfl q_X12_meeting_17 hg rfl trivial (fun c17 => ?_) (fun c17 => ?_)
    · replace h14 := px_bt h14 c17
      obtain ⟨h6a, h6b, h6c, h6d, h6e, h6f⟩ := h6
      obtain ⟨hSa, hSb, hSc⟩ := id hS
      have ho1 := hW (a / 16) h6c.1.1 h6c.1.2 h6c.2
      have ho2 := hW (b / 16) h6d.1.1 h6d.1.2 h6d.2
      refine px_cVW (ci := 12) rfl q_X12_meeting_23 hg rfl trivial lk_12_431 nm_X12_runsBoth (k_runsBoth hg _ _ h6c.1 h6d.1 ho1 ho2) rfl rfl (px_lit hg rfl) rfl rfl rfl ⟨rfl, rfl⟩ ?_
      intro I26 L26 h26
      obtain ⟨hx1, hx2⟩ := h26
      have hS2 := hx1.S hS
      refine px_cVT (ci := 12) rfl q_X12_meeting_29 hg rfl trivial lk_12_434 nm_X12_meets (k_meets hg _ _ _ _ (by grind) (by grind) (by grind) (by assumption)) rfl rfl (px_lit hg rfl) rfl rfl rfl ⟨rfl, rfl⟩ ?_
      intro x37 I37 L37 h37
      refine px_riS rfl q_X12_meeting_40 rfl rfl rfl hg rfl trivial ⟨⟨rfl, rfl⟩, ?_⟩
      first | exact ⟨mXI.rfl', mXL.rfl'⟩ | exact ⟨hx1.trans h37.1, hx2.trans h37.2⟩
    · replace h14 := px_bf h14 c17
      refine px_riS rfl q_X12_meeting_20 rfl rfl rfl hg rfl trivial ⟨⟨rfl, rfl⟩, ?_⟩
      first | exact ⟨mXI.rfl', mXL.rfl'⟩ | exact ⟨hx1.trans h37.1, hx2.trans h37.2⟩

theorem q_X12_fits_29 : px_bk 12 12 cX12_fits 29 [(.iload 7, (0, 0, 0, 0, 0), 0, 0), (.iconst 3, (0, 0, 0, 0, 0), 3, 0)] = some 32 ∧ px_t2 cX12_fits 32 .ge 135 = true := by decide +kernel
theorem q_X12_fits_135 : px_bk 12 12 cX12_fits 135 [(.iload 5, (0, 0, 0, 0, 0), 0, 0)] = some 137 ∧ px_t1 cX12_fits 137 .eq 144 = true := by decide +kernel
theorem q_X12_fits_144 : px_bk 12 12 cX12_fits 144 [(.iload 6, (0, 0, 0, 0, 0), 0, 0)] = some 146 ∧ px_t1 cX12_fits 146 .eq 153 = true := by decide +kernel
theorem q_X12_fits_153 : px_bk 12 12 cX12_fits 153 [(.iconst 1, (0, 0, 0, 0, 0), 1, 0)] = some 154 ∧ px_tr cX12_fits 154 .ireturn = true := by decide +kernel
theorem q_X12_fits_149 : px_bk 12 12 cX12_fits 149 [(.iconst 0, (0, 0, 0, 0, 0), 0, 0), (.goto 4, (0, 0, 0, 0, 0), 0, 0)] = some 154 ∧ px_tr cX12_fits 154 .ireturn = true := by decide +kernel
theorem q_X12_fits_140 : px_bk 12 12 cX12_fits 140 [(.iconst 2, (0, 0, 0, 0, 0), 2, 0), (.goto 13, (0, 0, 0, 0, 0), 0, 0)] = some 154 ∧ px_tr cX12_fits 154 .ireturn = true := by decide +kernel
theorem q_X12_fits_35 : px_bk 12 12 cX12_fits 35 [(.aload_n 0, (0, 0, 0, 0, 0), 0, 0), (.iload_n 2, (0, 0, 0, 0, 0), 0, 0), (.iload 4, (0, 0, 0, 0, 0), 0, 0), (.iload 7, (0, 0, 0, 0, 0), 0, 0), (.iconst 0, (0, 0, 0, 0, 0), 0, 0)] = some 42 ∧ px_tv cX12_fits 42 434 = true := by decide +kernel
theorem q_X12_fits_45 : px_bk 12 12 cX12_fits 45 [(.lstore 8, (0, 0, 0, 0, 0), 0, 0), (.aload_n 0, (0, 0, 0, 0, 0), 0, 0), (.iload_n 2, (0, 0, 0, 0, 0), 0, 0), (.iload 4, (0, 0, 0, 0, 0), 0, 0), (.iload 7, (0, 0, 0, 0, 0), 0, 0), (.iconst 1, (0, 0, 0, 0, 0), 1, 0)] = some 54 ∧ px_tv cX12_fits 54 434 = true := by decide +kernel
theorem q_X12_fits_57 : px_bk 12 12 cX12_fits 57 [(.lstore 10, (0, 0, 0, 0, 0), 0, 0), (.iload 5, (0, 0, 0, 0, 0), 0, 0)] = some 61 ∧ px_t1 cX12_fits 61 .ne 82 = true := by decide +kernel
theorem q_X12_fits_82 : px_bk 12 12 cX12_fits 82 [(.iconst 1, (0, 0, 0, 0, 0), 1, 0), (.goto 4, (0, 0, 0, 0, 0), 0, 0), (.istore 5, (0, 0, 0, 0, 0), 0, 0), (.iload 6, (0, 0, 0, 0, 0), 0, 0)] = some 91 ∧ px_t1 cX12_fits 91 .eq 126 = true := by decide +kernel
theorem q_X12_fits_126 : px_bk 12 12 cX12_fits 126 [(.iconst 0, (0, 0, 0, 0, 0), 0, 0), (.istore 6, (0, 0, 0, 0, 0), 0, 0), (.iinc 7 1, (0, 0, 0, 0, 0), 1, 0), (.goto (-103), (0, 0, 0, 0, 0), 0, 0)] = some 29 := by decide +kernel
theorem q_X12_fits_94 : px_bk 12 12 cX12_fits 94 [(.lload 8, (0, 0, 0, 0, 0), 0, 0), (.aload_n 0, (0, 0, 0, 0, 0), 0, 0), (.getfield 134, (12, 57, 3, 136, 0), 0, 0), (.iload 7, (0, 0, 0, 0, 0), 0, 0), (.iaload, (0, 0, 0, 0, 0), 0, 0), (.i2l, (0, 0, 0, 0, 0), 0, 0), (.lcmp, (0, 0, 0, 0, 0), 0, 0)] = some 105 ∧ px_t1 cX12_fits 105 .gt 126 = true := by decide +kernel
theorem q_X12_fits_108 : px_bk 12 12 cX12_fits 108 [(.lload 10, (0, 0, 0, 0, 0), 0, 0), (.aload_n 0, (0, 0, 0, 0, 0), 0, 0), (.getfield 131, (12, 56, 3, 135, 0), 0, 0), (.iload 7, (0, 0, 0, 0, 0), 0, 0), (.iaload, (0, 0, 0, 0, 0), 0, 0), (.i2l, (0, 0, 0, 0, 0), 0, 0), (.lcmp, (0, 0, 0, 0, 0), 0, 0)] = some 119 ∧ px_t1 cX12_fits 119 .lt 126 = true := by decide +kernel
theorem q_X12_fits_122 : px_bk 12 12 cX12_fits 122 [(.iconst 1, (0, 0, 0, 0, 0), 1, 0), (.goto 4, (0, 0, 0, 0, 0), 0, 0), (.istore 6, (0, 0, 0, 0, 0), 0, 0), (.iinc 7 1, (0, 0, 0, 0, 0), 1, 0), (.goto (-103), (0, 0, 0, 0, 0), 0, 0)] = some 29 := by decide +kernel
theorem q_X12_fits_64 : px_bk 12 12 cX12_fits 64 [(.lload 8, (0, 0, 0, 0, 0), 0, 0), (.ldc2_w 422, (0, 0, 0, 0, 0), 0, -2000000000), (.lcmp, (0, 0, 0, 0, 0), 0, 0)] = some 70 ∧ px_t1 cX12_fits 70 .eq 82 = true := by decide +kernel
theorem q_X12_fits_73 : px_bk 12 12 cX12_fits 73 [(.lload 10, (0, 0, 0, 0, 0), 0, 0), (.ldc2_w 422, (0, 0, 0, 0, 0), 0, -2000000000), (.lcmp, (0, 0, 0, 0, 0), 0, 0)] = some 79 ∧ px_t1 cX12_fits 79 .ne 86 = true := by decide +kernel
theorem q_X12_fits_86 : px_bk 12 12 cX12_fits 86 [(.iconst 0, (0, 0, 0, 0, 0), 0, 0), (.istore 5, (0, 0, 0, 0, 0), 0, 0), (.iload 6, (0, 0, 0, 0, 0), 0, 0)] = some 91 ∧ px_t1 cX12_fits 91 .eq 126 = true := by decide +kernel
set_option maxRecDepth 100000 in
theorem l_fits {n : Nat} {R : px_R} (hg : px_G n R) {Q : px_Q} (a f b t : Int32) {I0 : px_I} (L0 : px_L) (hS : mS I0) (hf : 0 ≤ f ∧ f < 24) (ht : 0 ≤ t ∧ t < 24) (hq : ∀ r I2 L2, mXI I0 I2 → mXL L0 L2 → Q (some (.int r)) n I2 L2 R) : ∀ k : Int32, k ≤ 3 → 0 ≤ k → ∀ (o i : Int32) (I1 : px_I) (L1 : px_L), mXI I0 I1 → mXL L0 L1 → px M_X12_fits 0 0 29 [(0, .ref 103), (1, .int a), (2, .int f), (3, .int b), (4, .int t), (5, .int o), (6, .int i), (7, .int k)] [] n I1 L1 R Q := by
  refine px_up 3 (fun k ih hk => ?_)
  intro h0 o i I1 L1 hI hL
  have hS1 := hI.S hS
  refine px_ige rfl q_X12_fits_29 hg rfl trivial (fun c32 => ?_) (fun c32 => ?_)
  · refine px_eq rfl q_X12_fits_135 hg rfl trivial (fun c137 => ?_) (fun c137 => ?_)
    · refine px_eq rfl q_X12_fits_144 hg rfl trivial (fun c146 => ?_) (fun c146 => ?_)
      · refine px_ri rfl q_X12_fits_153 rfl rfl rfl hg rfl trivial ?_
        exact hq _ _ _ hI hL
      · refine px_ri rfl q_X12_fits_149 rfl rfl rfl hg rfl trivial ?_
        exact hq _ _ _ hI hL
    · refine px_ri rfl q_X12_fits_140 rfl rfl rfl hg rfl trivial ?_
      exact hq _ _ _ hI hL
  · refine px_cVT (ci := 12) rfl q_X12_fits_35 hg rfl trivial lk_12_434 nm_X12_meets (k_meets hg _ _ _ _ (by grind) hf ht hS1) rfl rfl (px_lit hg rfl) rfl rfl rfl ⟨rfl, rfl⟩ ?_
    intro x42 I42 L42 h42
    have hI2 := hI.trans h42.1
    have hL2 := hL.trans h42.2
    have hS2 := hI2.S hS
    refine px_cVT (ci := 12) rfl q_X12_fits_45 hg rfl trivial lk_12_434 nm_X12_meets (k_meets hg _ _ _ _ (by grind) hf ht hS2) rfl rfl (px_lit hg rfl) rfl rfl rfl ⟨rfl, rfl⟩ ?_
    intro x54 I54 L54 h54
    have hI3 := hI2.trans h54.1
    have hL3 := hL2.trans h54.2
    refine px_ne rfl q_X12_fits_57 hg rfl trivial (fun c61 => ?_) (fun c61 => ?_)
    · refine px_eq rfl q_X12_fits_82 hg rfl trivial (fun c91 => ?_) (fun c91 => ?_)
      · refine px_b rfl q_X12_fits_126 hg rfl trivial ?_
        exact px_go (ih (k + 1) (by grind) (by grind) (by grind) _ _ _ _ hI3 hL3) ⟨rfl, rfl, rfl, rfl, rfl, rfl, rfl, rfl, trivial⟩
      · refine px_lgt rfl q_X12_fits_94 hg rfl ⟨trivial, (by first | decide | (refine ⟨?_, ?_⟩ <;> grind) | grind)⟩ (fun c105 => ?_) (fun c105 => ?_)
        · refine px_b rfl q_X12_fits_126 hg rfl trivial ?_
          exact px_go (ih (k + 1) (by grind) (by grind) (by grind) _ _ _ _ hI3 hL3) ⟨rfl, rfl, rfl, rfl, rfl, rfl, rfl, rfl, trivial⟩
        · refine px_llt rfl q_X12_fits_108 hg rfl ⟨trivial, (by first | decide | (refine ⟨?_, ?_⟩ <;> grind) | grind)⟩ (fun c119 => ?_) (fun c119 => ?_)
          · refine px_b rfl q_X12_fits_126 hg rfl trivial ?_
            exact px_go (ih (k + 1) (by grind) (by grind) (by grind) _ _ _ _ hI3 hL3) ⟨rfl, rfl, rfl, rfl, rfl, rfl, rfl, rfl, trivial⟩
          · refine px_b rfl q_X12_fits_122 hg rfl trivial ?_
            exact px_go (ih (k + 1) (by grind) (by grind) (by grind) _ _ _ _ hI3 hL3) ⟨rfl, rfl, rfl, rfl, rfl, rfl, rfl, rfl, trivial⟩
    · refine px_leq rfl q_X12_fits_64 hg rfl trivial (fun c70 => ?_) (fun c70 => ?_)
      · refine px_eq rfl q_X12_fits_82 hg rfl trivial (fun c91 => ?_) (fun c91 => ?_)
        · refine px_b rfl q_X12_fits_126 hg rfl trivial ?_
          exact px_go (ih (k + 1) (by grind) (by grind) (by grind) _ _ _ _ hI3 hL3) ⟨rfl, rfl, rfl, rfl, rfl, rfl, rfl, rfl, trivial⟩
        · refine px_lgt rfl q_X12_fits_94 hg rfl ⟨trivial, (by first | decide | (refine ⟨?_, ?_⟩ <;> grind) | grind)⟩ (fun c105 => ?_) (fun c105 => ?_)
          · refine px_b rfl q_X12_fits_126 hg rfl trivial ?_
            exact px_go (ih (k + 1) (by grind) (by grind) (by grind) _ _ _ _ hI3 hL3) ⟨rfl, rfl, rfl, rfl, rfl, rfl, rfl, rfl, trivial⟩
          · refine px_llt rfl q_X12_fits_108 hg rfl ⟨trivial, (by first | decide | (refine ⟨?_, ?_⟩ <;> grind) | grind)⟩ (fun c119 => ?_) (fun c119 => ?_)
            · refine px_b rfl q_X12_fits_126 hg rfl trivial ?_
              exact px_go (ih (k + 1) (by grind) (by grind) (by grind) _ _ _ _ hI3 hL3) ⟨rfl, rfl, rfl, rfl, rfl, rfl, rfl, rfl, trivial⟩
            · refine px_b rfl q_X12_fits_122 hg rfl trivial ?_
              exact px_go (ih (k + 1) (by grind) (by grind) (by grind) _ _ _ _ hI3 hL3) ⟨rfl, rfl, rfl, rfl, rfl, rfl, rfl, rfl, trivial⟩
      · refine px_lne rfl q_X12_fits_73 hg rfl trivial (fun c79 => ?_) (fun c79 => ?_)
        · refine px_eq rfl q_X12_fits_86 hg rfl trivial (fun c91 => ?_) (fun c91 => ?_)
          · refine px_b rfl q_X12_fits_126 hg rfl trivial ?_
            exact px_go (ih (k + 1) (by grind) (by grind) (by grind) _ _ _ _ hI3 hL3) ⟨rfl, rfl, rfl, rfl, rfl, rfl, rfl, rfl, trivial⟩
          · refine px_lgt rfl q_X12_fits_94 hg rfl ⟨trivial, (by first | decide | (refine ⟨?_, ?_⟩ <;> grind) | grind)⟩ (fun c105 => ?_) (fun c105 => ?_)
            · refine px_b rfl q_X12_fits_126 hg rfl trivial ?_
              exact px_go (ih (k + 1) (by grind) (by grind) (by grind) _ _ _ _ hI3 hL3) ⟨rfl, rfl, rfl, rfl, rfl, rfl, rfl, rfl, trivial⟩
            · refine px_llt rfl q_X12_fits_108 hg rfl ⟨trivial, (by first | decide | (refine ⟨?_, ?_⟩ <;> grind) | grind)⟩ (fun c119 => ?_) (fun c119 => ?_)
              · refine px_b rfl q_X12_fits_126 hg rfl trivial ?_
                exact px_go (ih (k + 1) (by grind) (by grind) (by grind) _ _ _ _ hI3 hL3) ⟨rfl, rfl, rfl, rfl, rfl, rfl, rfl, rfl, trivial⟩
              · refine px_b rfl q_X12_fits_122 hg rfl trivial ?_
                exact px_go (ih (k + 1) (by grind) (by grind) (by grind) _ _ _ _ hI3 hL3) ⟨rfl, rfl, rfl, rfl, rfl, rfl, rfl, rfl, trivial⟩
        · refine px_eq rfl q_X12_fits_82 hg rfl trivial (fun c91 => ?_) (fun c91 => ?_)
          · refine px_b rfl q_X12_fits_126 hg rfl trivial ?_
            exact px_go (ih (k + 1) (by grind) (by grind) (by grind) _ _ _ _ hI3 hL3) ⟨rfl, rfl, rfl, rfl, rfl, rfl, rfl, rfl, trivial⟩
          · refine px_lgt rfl q_X12_fits_94 hg rfl ⟨trivial, (by first | decide | (refine ⟨?_, ?_⟩ <;> grind) | grind)⟩ (fun c105 => ?_) (fun c105 => ?_)
            · refine px_b rfl q_X12_fits_126 hg rfl trivial ?_
              exact px_go (ih (k + 1) (by grind) (by grind) (by grind) _ _ _ _ hI3 hL3) ⟨rfl, rfl, rfl, rfl, rfl, rfl, rfl, rfl, trivial⟩
            · refine px_llt rfl q_X12_fits_108 hg rfl ⟨trivial, (by first | decide | (refine ⟨?_, ?_⟩ <;> grind) | grind)⟩ (fun c119 => ?_) (fun c119 => ?_)
              · refine px_b rfl q_X12_fits_126 hg rfl trivial ?_
                exact px_go (ih (k + 1) (by grind) (by grind) (by grind) _ _ _ _ hI3 hL3) ⟨rfl, rfl, rfl, rfl, rfl, rfl, rfl, rfl, trivial⟩
              · refine px_b rfl q_X12_fits_122 hg rfl trivial ?_
                exact px_go (ih (k + 1) (by grind) (by grind) (by grind) _ _ _ _ hI3 hL3) ⟨rfl, rfl, rfl, rfl, rfl, rfl, rfl, rfl, trivial⟩

theorem q_X12_fits_0 : px_bk 12 12 cX12_fits 0 [(.aload_n 0, (0, 0, 0, 0, 0), 0, 0), (.iload_n 1, (0, 0, 0, 0, 0), 0, 0), (.iload_n 2, (0, 0, 0, 0, 0), 0, 0), (.iload_n 3, (0, 0, 0, 0, 0), 0, 0), (.iload 4, (0, 0, 0, 0, 0), 0, 0)] = some 6 ∧ px_tv cX12_fits 6 427 = true := by decide +kernel
theorem q_X12_fits_9 : px_bk 12 12 cX12_fits 9 [] = some 9 ∧ px_t1 cX12_fits 9 .ne 14 = true := by decide +kernel
theorem q_X12_fits_14 : px_bk 12 12 cX12_fits 14 [(.aload_n 0, (0, 0, 0, 0, 0), 0, 0), (.iload_n 1, (0, 0, 0, 0, 0), 0, 0), (.iload_n 3, (0, 0, 0, 0, 0), 0, 0)] = some 17 ∧ px_tv cX12_fits 17 431 = true := by decide +kernel
theorem q_X12_fits_20 : px_bk 12 12 cX12_fits 20 [(.iconst 0, (0, 0, 0, 0, 0), 0, 0), (.istore 5, (0, 0, 0, 0, 0), 0, 0), (.iconst 1, (0, 0, 0, 0, 0), 1, 0), (.istore 6, (0, 0, 0, 0, 0), 0, 0), (.iconst 0, (0, 0, 0, 0, 0), 0, 0), (.istore 7, (0, 0, 0, 0, 0), 0, 0)] = some 29 := by decide +kernel
theorem q_X12_fits_12 : px_bk 12 12 cX12_fits 12 [(.iconst (-1), (0, 0, 0, 0, 0), -1, 0)] = some 13 ∧ px_tr cX12_fits 13 .ireturn = true := by decide +kernel
set_option maxRecDepth 100000 in
theorem k_fits {n : Nat} {I : px_I} {L : px_L} {R : px_R} (hg : px_G n R) (a f b t : Int32) (hS : mS I) (hW : mWays I) : px_KS M_X12_fits [.ref 103, .int a, .int f, .int b, .int t] n I L R (fun r I2 L2 => mXI I I2 ∧ mXL L L2) := by
  refine px_of (plainFor_of_name np_RX12) (fun _ _ _ => trivial) rfl ?_
  refine px_cVP (ci := 12) rfl q_X12_fits_0 hg rfl trivial lk_12_427 nm_X12_areAsked (k_areAsked hg _ _ _ _) rfl rfl (px_lit hg rfl) rfl rfl rfl ⟨rfl, rfl⟩ ?_
  intro x6 h6
  refine px_ne rfl q_X12_fits_9 hg rfl trivial (fun c9 => ?_) (fun c9 => ?_)
  · replace h6 := px_bt h6 c9
    obtain ⟨h6a, h6b, h6c, h6d, h6e, h6f⟩ := h6
    obtain ⟨hSa, hSb, hSc⟩ := id hS
    have ho1 := hW (a / 16) h6c.1.1 h6c.1.2 h6c.2
    have ho2 := hW (b / 16) h6d.1.1 h6d.1.2 h6d.2
    refine px_cVW (ci := 12) rfl q_X12_fits_14 hg rfl trivial lk_12_431 nm_X12_runsBoth (k_runsBoth hg _ _ h6c.1 h6d.1 ho1 ho2) rfl rfl (px_lit hg rfl) rfl rfl rfl ⟨rfl, rfl⟩ ?_
    intro I17 L17 h17
    refine px_b rfl q_X12_fits_20 hg rfl trivial ?_
    exact px_go (l_fits hg a f b t L17 (h17.1.S hS) (by grind) (by grind) (fun r I2 L2 h1 h2 => ⟨rfl, rfl, r, rfl, h17.1.trans h1, h17.2.trans h2⟩) 0 (by decide) (by decide) 0 1 I17 L17 mXI.rfl' mXL.rfl') ⟨rfl, rfl, rfl, rfl, rfl, rfl, rfl, rfl, trivial⟩
  · replace h6 := px_bf h6 c9
    refine px_riS rfl q_X12_fits_12 rfl rfl rfl hg rfl trivial ⟨⟨rfl, rfl⟩, ?_⟩
    exact ⟨mXI.rfl', mXL.rfl'⟩

theorem q_X12_ways_72 : px_bk 12 9 cX12_ways 72 [(.iload 8, (0, 0, 0, 0, 0), 0, 0), (.bipush 6, (0, 0, 0, 0, 0), 6, 0)] = some 76 ∧ px_t2 cX12_ways 76 .ge 143 = true := by decide +kernel
theorem q_X12_ways_143 : px_bk 12 9 cX12_ways 143 [(.iinc 7 1, (0, 0, 0, 0, 0), 1, 0), (.goto (-84), (0, 0, 0, 0, 0), 0, 0)] = some 62 := by decide +kernel
theorem q_X12_ways_79 : px_bk 12 9 cX12_ways 79 [(.iload 6, (0, 0, 0, 0, 0), 0, 0), (.aload_n 0, (0, 0, 0, 0, 0), 0, 0), (.getfield 97, (12, 44, 3, 129, 0), 0, 0), (.iload 7, (0, 0, 0, 0, 0), 0, 0), (.iaload, (0, 0, 0, 0, 0), 0, 0), (.iconst 1, (0, 0, 0, 0, 0), 1, 0)] = some 89 ∧ px_t2 cX12_ways 89 .ne 133 = true := by decide +kernel
theorem q_X12_ways_133 : px_bk 12 9 cX12_ways 133 [(.iconst 0, (0, 0, 0, 0, 0), 0, 0), (.iadd, (0, 0, 0, 0, 0), 0, 0), (.istore 6, (0, 0, 0, 0, 0), 0, 0), (.iinc 8 1, (0, 0, 0, 0, 0), 1, 0), (.goto (-68), (0, 0, 0, 0, 0), 0, 0)] = some 72 := by decide +kernel
theorem q_X12_ways_92 : px_bk 12 9 cX12_ways 92 [(.aload_n 0, (0, 0, 0, 0, 0), 0, 0), (.getfield 97, (12, 44, 3, 129, 0), 0, 0), (.iload 8, (0, 0, 0, 0, 0), 0, 0), (.iaload, (0, 0, 0, 0, 0), 0, 0), (.iconst 1, (0, 0, 0, 0, 0), 1, 0)] = some 100 ∧ px_t2 cX12_ways 100 .ne 133 = true := by decide +kernel
theorem q_X12_ways_103 : px_bk 12 9 cX12_ways 103 [(.aload_n 0, (0, 0, 0, 0, 0), 0, 0), (.bipush 16, (0, 0, 0, 0, 0), 16, 0), (.iload 7, (0, 0, 0, 0, 0), 0, 0), (.imul, (0, 0, 0, 0, 0), 0, 0), (.iload_n 1, (0, 0, 0, 0, 0), 0, 0), (.iadd, (0, 0, 0, 0, 0), 0, 0), (.iload_n 2, (0, 0, 0, 0, 0), 0, 0), (.bipush 16, (0, 0, 0, 0, 0), 16, 0), (.iload 8, (0, 0, 0, 0, 0), 0, 0), (.imul, (0, 0, 0, 0, 0), 0, 0), (.iload_n 3, (0, 0, 0, 0, 0), 0, 0), (.iadd, (0, 0, 0, 0, 0), 0, 0), (.iload 4, (0, 0, 0, 0, 0), 0, 0)] = some 121 ∧ px_tv cX12_ways 121 438 = true := by decide +kernel
theorem q_X12_ways_124 : px_bk 12 9 cX12_ways 124 [(.iload 5, (0, 0, 0, 0, 0), 0, 0)] = some 126 ∧ px_t2 cX12_ways 126 .ne 133 = true := by decide +kernel
theorem q_X12_ways_129 : px_bk 12 9 cX12_ways 129 [(.iconst 1, (0, 0, 0, 0, 0), 1, 0), (.goto 4, (0, 0, 0, 0, 0), 0, 0), (.iadd, (0, 0, 0, 0, 0), 0, 0), (.istore 6, (0, 0, 0, 0, 0), 0, 0), (.iinc 8 1, (0, 0, 0, 0, 0), 1, 0), (.goto (-68), (0, 0, 0, 0, 0), 0, 0)] = some 72 := by decide +kernel
set_option maxRecDepth 100000 in
theorem l_ways72 {n : Nat} {R : px_R} (hg : px_G n R) {Q : px_Q} (a f b t x i : Int32) (hi : 0 ≤ i ∧ i < 6) {I0 : px_I} (L0 : px_L) (hS : mS I0) (hW : mWays I0) (hq : ∀ c I2 L2, mXI I0 I2 → mXL L0 L2 → px M_X12_ways 0 0 62 [(0, .ref 103), (1, .int a), (2, .int f), (3, .int b), (4, .int t), (5, .int x), (6, .int c), (7, .int (i + 1))] [] n I2 L2 R Q) : ∀ k : Int32, k ≤ 6 → 0 ≤ k → ∀ (c : Int32) (I1 : px_I) (L1 : px_L), mXI I0 I1 → mXL L0 L1 → px M_X12_ways 0 0 72 [(0, .ref 103), (1, .int a), (2, .int f), (3, .int b), (4, .int t), (5, .int x), (6, .int c), (7, .int i), (8, .int k)] [] n I1 L1 R Q := by
  refine px_up 6 (fun k ih hk => ?_)
  intro h0 c I1 L1 hI hL
  have hS1 := hI.S hS
  have hW1 := hI.W hW
  refine px_ige rfl q_X12_ways_72 hg rfl trivial (fun c76 => ?_) (fun c76 => ?_)
  · refine px_b rfl q_X12_ways_143 hg rfl trivial ?_
    exact px_go (hq _ _ _ hI hL) ⟨rfl, rfl, rfl, rfl, rfl, rfl, rfl, rfl, trivial⟩
  · refine px_ine rfl q_X12_ways_79 hg rfl ⟨trivial, (by first | decide | (refine ⟨?_, ?_⟩ <;> grind) | grind)⟩ (fun c89 => ?_) (fun c89 => ?_)
    · refine px_b rfl q_X12_ways_133 hg rfl trivial ?_
      first | exact px_go (ih (k + 1) (by grind) (by grind) (by grind) _ _ _ hI hL) ⟨rfl, rfl, rfl, rfl, rfl, rfl, rfl, rfl, rfl, trivial⟩ | exact px_go (ih (k + 1) (by grind) (by grind) (by grind) _ _ _ (hI.trans h121.1) (hL.trans h121.2)) ⟨rfl, rfl, rfl, rfl, rfl, rfl, rfl, rfl, rfl, trivial⟩
    · refine px_ine rfl q_X12_ways_92 hg rfl ⟨trivial, (by first | decide | (refine ⟨?_, ?_⟩ <;> grind) | grind)⟩ (fun c100 => ?_) (fun c100 => ?_)
      · refine px_b rfl q_X12_ways_133 hg rfl trivial ?_
        first | exact px_go (ih (k + 1) (by grind) (by grind) (by grind) _ _ _ hI hL) ⟨rfl, rfl, rfl, rfl, rfl, rfl, rfl, rfl, rfl, trivial⟩ | exact px_go (ih (k + 1) (by grind) (by grind) (by grind) _ _ _ (hI.trans h121.1) (hL.trans h121.2)) ⟨rfl, rfl, rfl, rfl, rfl, rfl, rfl, rfl, rfl, trivial⟩
      · refine px_cVS (ci := 12) rfl q_X12_ways_103 hg rfl trivial lk_12_438 nm_X12_fits (k_fits hg _ _ _ _ ‹_› ‹_›) rfl rfl (px_lit hg rfl) rfl rfl rfl ⟨rfl, rfl⟩ ?_
        intro x121 I121 L121 h121
        refine px_ine rfl q_X12_ways_124 hg rfl trivial (fun c126 => ?_) (fun c126 => ?_)
        · refine px_b rfl q_X12_ways_133 hg rfl trivial ?_
          first | exact px_go (ih (k + 1) (by grind) (by grind) (by grind) _ _ _ hI hL) ⟨rfl, rfl, rfl, rfl, rfl, rfl, rfl, rfl, rfl, trivial⟩ | exact px_go (ih (k + 1) (by grind) (by grind) (by grind) _ _ _ (hI.trans h121.1) (hL.trans h121.2)) ⟨rfl, rfl, rfl, rfl, rfl, rfl, rfl, rfl, rfl, trivial⟩
        · refine px_b rfl q_X12_ways_129 hg rfl trivial ?_
          first | exact px_go (ih (k + 1) (by grind) (by grind) (by grind) _ _ _ hI hL) ⟨rfl, rfl, rfl, rfl, rfl, rfl, rfl, rfl, rfl, trivial⟩ | exact px_go (ih (k + 1) (by grind) (by grind) (by grind) _ _ _ (hI.trans h121.1) (hL.trans h121.2)) ⟨rfl, rfl, rfl, rfl, rfl, rfl, rfl, rfl, rfl, trivial⟩

theorem q_X12_ways_62 : px_bk 12 9 cX12_ways 62 [(.iload 7, (0, 0, 0, 0, 0), 0, 0), (.bipush 6, (0, 0, 0, 0, 0), 6, 0)] = some 66 ∧ px_t2 cX12_ways 66 .ge 149 = true := by decide +kernel
theorem q_X12_ways_149 : px_bk 12 9 cX12_ways 149 [(.iload 6, (0, 0, 0, 0, 0), 0, 0)] = some 151 ∧ px_tr cX12_ways 151 .ireturn = true := by decide +kernel
theorem q_X12_ways_69 : px_bk 12 9 cX12_ways 69 [(.iconst 0, (0, 0, 0, 0, 0), 0, 0), (.istore 8, (0, 0, 0, 0, 0), 0, 0)] = some 72 := by decide +kernel
set_option maxRecDepth 100000 in
theorem l_ways62 {n : Nat} {R : px_R} (hg : px_G n R) {Q : px_Q} (a f b t x : Int32) {I0 : px_I} (L0 : px_L) (hS : mS I0) (hW : mWays I0) (hq : ∀ r I2 L2, mXI I0 I2 → mXL L0 L2 → Q (some (.int r)) n I2 L2 R) : ∀ i : Int32, i ≤ 6 → 0 ≤ i → ∀ (c : Int32) (I1 : px_I) (L1 : px_L), mXI I0 I1 → mXL L0 L1 → px M_X12_ways 0 0 62 [(0, .ref 103), (1, .int a), (2, .int f), (3, .int b), (4, .int t), (5, .int x), (6, .int c), (7, .int i)] [] n I1 L1 R Q := by
  refine px_up 6 (fun i ih hi => ?_)
  intro h0 c I1 L1 hI hL
  have hS1 := hI.S hS
  have hW1 := hI.W hW
  refine px_ige rfl q_X12_ways_62 hg rfl trivial (fun c66 => ?_) (fun c66 => ?_)
  · refine px_ri rfl q_X12_ways_149 rfl rfl rfl hg rfl trivial ?_
    exact hq _ _ _ hI hL
  · refine px_b rfl q_X12_ways_69 hg rfl trivial ?_
    exact px_go (l_ways72 hg a f b t x i (by grind) L1 hS1 hW1 (fun c I2 L2 h1 h2 => ih (i + 1) (by grind) (by grind) (by grind) c I2 L2 (hI.trans h1) (hL.trans h2)) 0 (by decide) (by decide) c I1 L1 mXI.rfl' mXL.rfl') ⟨rfl, rfl, rfl, rfl, rfl, rfl, rfl, rfl, rfl, trivial⟩

theorem q_X12_ways_0 : px_bk 12 9 cX12_ways 0 [(.iload_n 1, (0, 0, 0, 0, 0), 0, 0), (.i2l, (0, 0, 0, 0, 0), 0, 0), (.lconst 0, (0, 0, 0, 0, 0), 0, 0), (.ldc2_w 409, (0, 0, 0, 0, 0), 0, 15)] = some 6 ∧ px_tS cX12_ways 6 167 = true := by decide +kernel
theorem q_X12_ways_9 : px_bk 12 9 cX12_ways 9 [] = some 9 ∧ px_t1 cX12_ways 9 .eq 54 = true := by decide +kernel
theorem q_X12_ways_54 : px_bk 12 9 cX12_ways 54 [(.iconst (-1), (0, 0, 0, 0, 0), -1, 0)] = some 55 ∧ px_tr cX12_ways 55 .ireturn = true := by decide +kernel
theorem q_X12_ways_12 : px_bk 12 9 cX12_ways 12 [(.iload_n 3, (0, 0, 0, 0, 0), 0, 0), (.i2l, (0, 0, 0, 0, 0), 0, 0), (.lconst 0, (0, 0, 0, 0, 0), 0, 0), (.ldc2_w 409, (0, 0, 0, 0, 0), 0, 15)] = some 18 ∧ px_tS cX12_ways 18 167 = true := by decide +kernel
theorem q_X12_ways_21 : px_bk 12 9 cX12_ways 21 [] = some 21 ∧ px_t1 cX12_ways 21 .eq 54 = true := by decide +kernel
theorem q_X12_ways_24 : px_bk 12 9 cX12_ways 24 [(.aload_n 0, (0, 0, 0, 0, 0), 0, 0), (.iload_n 2, (0, 0, 0, 0, 0), 0, 0)] = some 26 ∧ px_tv cX12_ways 26 184 = true := by decide +kernel
theorem q_X12_ways_29 : px_bk 12 9 cX12_ways 29 [] = some 29 ∧ px_t1 cX12_ways 29 .eq 54 = true := by decide +kernel
theorem q_X12_ways_32 : px_bk 12 9 cX12_ways 32 [(.aload_n 0, (0, 0, 0, 0, 0), 0, 0), (.iload 4, (0, 0, 0, 0, 0), 0, 0)] = some 35 ∧ px_tv cX12_ways 35 184 = true := by decide +kernel
theorem q_X12_ways_38 : px_bk 12 9 cX12_ways 38 [] = some 38 ∧ px_t1 cX12_ways 38 .eq 54 = true := by decide +kernel
theorem q_X12_ways_41 : px_bk 12 9 cX12_ways 41 [(.iload 5, (0, 0, 0, 0, 0), 0, 0), (.i2l, (0, 0, 0, 0, 0), 0, 0), (.lconst 0, (0, 0, 0, 0, 0), 0, 0), (.ldc2_w 171, (0, 0, 0, 0, 0), 0, 2)] = some 48 ∧ px_tS cX12_ways 48 167 = true := by decide +kernel
theorem q_X12_ways_51 : px_bk 12 9 cX12_ways 51 [] = some 51 ∧ px_t1 cX12_ways 51 .ne 56 = true := by decide +kernel
theorem q_X12_ways_56 : px_bk 12 9 cX12_ways 56 [(.iconst 0, (0, 0, 0, 0, 0), 0, 0), (.istore 6, (0, 0, 0, 0, 0), 0, 0), (.iconst 0, (0, 0, 0, 0, 0), 0, 0), (.istore 7, (0, 0, 0, 0, 0), 0, 0)] = some 62 := by decide +kernel
set_option maxRecDepth 100000 in
theorem k_ways {n : Nat} {I : px_I} {L : px_L} {R : px_R} (hg : px_G n R) (a f b t x : Int32) (hS : mS I) (hW : mWays I) : px_KS M_X12_ways [.ref 103, .int a, .int f, .int b, .int t, .int x] n I L R (fun r I2 L2 => mXI I I2 ∧ mXL L L2) := by
  refine px_of (plainFor_of_name np_RX12) (fun _ _ _ => trivial) rfl ?_
  refine px_cSP rfl q_X12_ways_0 hg rfl trivial lk_12_167 nm_X12_in (k_inI hg _ (0) (15) (by decide) (by decide)) rfl rfl rfl ⟨rfl, rfl⟩ ?_
  intro x6 h6
  refine px_eq rfl q_X12_ways_9 hg rfl trivial (fun c9 => ?_) (fun c9 => ?_)
  · replace h6 := px_bf h6 c9
    refine px_riS rfl q_X12_ways_54 rfl rfl rfl hg rfl trivial ⟨⟨rfl, rfl⟩, ?_⟩
    exact ⟨mXI.rfl', mXL.rfl'⟩
  · replace h6 := px_bt h6 c9
    refine px_cSP rfl q_X12_ways_12 hg rfl trivial lk_12_167 nm_X12_in (k_inI hg _ (0) (15) (by decide) (by decide)) rfl rfl rfl ⟨rfl, rfl⟩ ?_
    intro x18 h18
    refine px_eq rfl q_X12_ways_21 hg rfl trivial (fun c21 => ?_) (fun c21 => ?_)
    · replace h18 := px_bf h18 c21
      refine px_riS rfl q_X12_ways_54 rfl rfl rfl hg rfl trivial ⟨⟨rfl, rfl⟩, ?_⟩
      exact ⟨mXI.rfl', mXL.rfl'⟩
    · replace h18 := px_bt h18 c21
      refine px_cVP (ci := 12) rfl q_X12_ways_24 hg rfl trivial lk_12_184 nm_X12_isStation (k_isStation hg _) rfl rfl (px_lit hg rfl) rfl rfl rfl ⟨rfl, rfl⟩ ?_
      intro x26 h26
      refine px_eq rfl q_X12_ways_29 hg rfl trivial (fun c29 => ?_) (fun c29 => ?_)
      · replace h26 := px_bf h26 c29
        refine px_riS rfl q_X12_ways_54 rfl rfl rfl hg rfl trivial ⟨⟨rfl, rfl⟩, ?_⟩
        exact ⟨mXI.rfl', mXL.rfl'⟩
      · replace h26 := px_bt h26 c29
        refine px_cVP (ci := 12) rfl q_X12_ways_32 hg rfl trivial lk_12_184 nm_X12_isStation (k_isStation hg _) rfl rfl (px_lit hg rfl) rfl rfl rfl ⟨rfl, rfl⟩ ?_
        intro x35 h35
        refine px_eq rfl q_X12_ways_38 hg rfl trivial (fun c38 => ?_) (fun c38 => ?_)
        · replace h35 := px_bf h35 c38
          refine px_riS rfl q_X12_ways_54 rfl rfl rfl hg rfl trivial ⟨⟨rfl, rfl⟩, ?_⟩
          exact ⟨mXI.rfl', mXL.rfl'⟩
        · replace h35 := px_bt h35 c38
          refine px_cSP rfl q_X12_ways_41 hg rfl trivial lk_12_167 nm_X12_in (k_inI hg _ (0) (2) (by decide) (by decide)) rfl rfl rfl ⟨rfl, rfl⟩ ?_
          intro x48 h48
          refine px_ne rfl q_X12_ways_51 hg rfl trivial (fun c51 => ?_) (fun c51 => ?_)
          · replace h48 := px_bt h48 c51
            refine px_b rfl q_X12_ways_56 hg rfl trivial ?_
            exact px_go (l_ways62 hg a f b t x L hS hW (fun r I2 L2 h1 h2 => ⟨rfl, rfl, r, rfl, h1, h2⟩) 0 (by decide) (by decide) 0 I L mXI.rfl' mXL.rfl') ⟨rfl, rfl, rfl, rfl, rfl, rfl, rfl, rfl, trivial⟩
          · replace h48 := px_bf h48 c51
            refine px_riS rfl q_X12_ways_54 rfl rfl rfl hg rfl trivial ⟨⟨rfl, rfl⟩, ?_⟩
            exact ⟨mXI.rfl', mXL.rfl'⟩
