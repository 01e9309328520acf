/-! the reference: the table of distances -/
/-- of the reference only its table of distances and its size may have changed -/
def mDI (I I2 : px_I) : Prop := ∀ b j, ¬ (b = 103 ∧ j = 70) → I2 b j = I b j
def mDL (L L2 : px_L) : Prop := ∀ b, b ≠ 143 → L2 b = L b
def mS (I : px_I) : Prop := (1 ≤ I 103 1 ∧ I 103 1 ≤ 24) ∧ (0 ≤ I 103 2 ∧ I 103 2 ≤ 80) ∧ ∀ k : Int32, 0 ≤ k → k < I 103 2 → (0 ≤ I 105 k.toNatClampNeg ∧ I 105 k.toNatClampNeg < 24) ∧ (0 ≤ I 106 k.toNatClampNeg ∧ I 106 k.toNatClampNeg < 24)

theorem q_X12_begins_7 : px_bk 12 3 cX12_begins 7 [(.iload_n 2, (0, 0, 0, 0, 0), 0, 0), (.sipush 576, (0, 0, 0, 0, 0), 576, 0)] = some 11 ∧ px_t2 cX12_begins 11 .ge 44 = true := by decide +kernel
theorem q_X12_begins_44 : px_bk 12 3 cX12_begins 44 [] = some 44 ∧ px_tr cX12_begins 44 .return_ = true := by decide +kernel
theorem q_X12_begins_14 : px_bk 12 3 cX12_begins 14 [(.aload_n 0, (0, 0, 0, 0, 0), 0, 0), (.getfield 155, (12, 69, 3, 143, 0), 0, 0), (.iload_n 2, (0, 0, 0, 0, 0), 0, 0), (.iload_n 2, (0, 0, 0, 0, 0), 0, 0), (.bipush 24, (0, 0, 0, 0, 0), 24, 0), (.idiv, (0, 0, 0, 0, 0), 0, 0), (.iload_n 2, (0, 0, 0, 0, 0), 0, 0), (.bipush 24, (0, 0, 0, 0, 0), 24, 0), (.irem, (0, 0, 0, 0, 0), 0, 0)] = some 27 ∧ px_t2 cX12_begins 27 .ne 34 = true := by decide +kernel
theorem q_X12_begins_34 : px_bk 12 3 cX12_begins 34 [(.ldc2_w 197, (0, 0, 0, 0, 0), 0, 1000000000000), (.lastore, (0, 0, 0, 0, 0), 0, 0), (.iinc 2 1, (0, 0, 0, 0, 0), 1, 0), (.goto (-34), (0, 0, 0, 0, 0), 0, 0)] = some 7 := by decide +kernel
theorem q_X12_begins_30 : px_bk 12 3 cX12_begins 30 [(.lconst 0, (0, 0, 0, 0, 0), 0, 0), (.goto 6, (0, 0, 0, 0, 0), 0, 0), (.lastore, (0, 0, 0, 0, 0), 0, 0), (.iinc 2 1, (0, 0, 0, 0, 0), 1, 0), (.goto (-34), (0, 0, 0, 0, 0), 0, 0)] = some 7 := by decide +kernel
set_option maxRecDepth 100000 in
theorem l_begins {n : Nat} {R : px_R} (hg : px_G n R) {Q : px_Q} (n0 : Int32) {I : px_I} (L : px_L) (hq : ∀ L2, mDL L L2 → Q none n I L2 R) : ∀ k : Int32, k ≤ 576 → 0 ≤ k → ∀ L1, mDL L L1 → px M_X12_begins 0 0 7 [(0, .ref 103), (1, .int n0), (2, .int k)] [] n I L1 R Q := by
  refine px_up 576 (fun k ih hk => ?_)
  intro h0 L1 h1
  refine px_ige rfl q_X12_begins_7 hg rfl trivial (fun c11 => ?_) (fun c11 => ?_)
  · refine px_rv rfl q_X12_begins_44 rfl rfl rfl hg rfl trivial ?_
    exact hq _ h1
  · refine px_ine rfl q_X12_begins_14 hg rfl ⟨⟨trivial, (by first | decide | (refine ⟨?_, ?_⟩ <;> grind) | grind)⟩, (by first | decide | (refine ⟨?_, ?_⟩ <;> grind) | grind)⟩ (fun c27 => ?_) (fun c27 => ?_)
    · refine px_b rfl q_X12_begins_34 hg rfl ⟨trivial, (by first | decide | (refine ⟨?_, ?_⟩ <;> grind) | grind)⟩ ?_
      exact px_go (ih (k + 1) (by grind) (by grind) (by grind) _ (by unfold mDL at *; grind [px_u_ne])) ⟨rfl, rfl, rfl, trivial⟩
    · refine px_b rfl q_X12_begins_30 hg rfl ⟨trivial, (by first | decide | (refine ⟨?_, ?_⟩ <;> grind) | grind)⟩ ?_
      exact px_go (ih (k + 1) (by grind) (by grind) (by grind) _ (by unfold mDL at *; grind [px_u_ne])) ⟨rfl, rfl, rfl, trivial⟩

theorem q_X12_begins_0 : px_bk 12 3 cX12_begins 0 [(.aload_n 0, (0, 0, 0, 0, 0), 0, 0), (.iload_n 1, (0, 0, 0, 0, 0), 0, 0), (.putfield 194, (12, 70, 0, 0, 0), 0, 0), (.iconst 0, (0, 0, 0, 0, 0), 0, 0), (.istore_n 2, (0, 0, 0, 0, 0), 0, 0)] = some 7 := by decide +kernel
set_option maxRecDepth 100000 in
theorem k_begins {n : Nat} {I : px_I} {L : px_L} {R : px_R} (hg : px_G n R) (n0 : Int32) : px_KV M_X12_begins [.ref 103, .int n0] n I L R (fun I2 L2 => I2 = px_u I 103 70 n0 ∧ mDL L L2) := by
  refine px_of (plainFor_of_name np_RX12) (fun _ _ _ => trivial) rfl ?_
  refine px_b rfl q_X12_begins_0 hg rfl trivial ?_
  exact px_go (l_begins hg n0 L (fun L2 h => ⟨rfl, rfl, rfl, rfl, h⟩) 0 (by decide) (by decide) L (fun _ _ => rfl)) ⟨rfl, rfl, rfl, trivial⟩

theorem q_X12_bounds_0 : px_bk 12 6 cX12_bounds 0 [(.bipush 24, (0, 0, 0, 0, 0), 24, 0), (.iload_n 1, (0, 0, 0, 0, 0), 0, 0), (.imul, (0, 0, 0, 0, 0), 0, 0), (.iload_n 2, (0, 0, 0, 0, 0), 0, 0), (.iadd, (0, 0, 0, 0, 0), 0, 0), (.istore 5, (0, 0, 0, 0, 0), 0, 0), (.aload_n 0, (0, 0, 0, 0, 0), 0, 0), (.getfield 155, (12, 69, 3, 143, 0), 0, 0), (.iload 5, (0, 0, 0, 0, 0), 0, 0), (.lload_n 3, (0, 0, 0, 0, 0), 0, 0), (.aload_n 0, (0, 0, 0, 0, 0), 0, 0), (.getfield 155, (12, 69, 3, 143, 0), 0, 0), (.iload 5, (0, 0, 0, 0, 0), 0, 0), (.laload, (0, 0, 0, 0, 0), 0, 0), (.lcmp, (0, 0, 0, 0, 0), 0, 0)] = some 23 ∧ px_t1 cX12_bounds 23 .ge 30 = true := by decide +kernel
theorem q_X12_bounds_30 : px_bk 12 6 cX12_bounds 30 [(.aload_n 0, (0, 0, 0, 0, 0), 0, 0), (.getfield 155, (12, 69, 3, 143, 0), 0, 0), (.iload 5, (0, 0, 0, 0, 0), 0, 0), (.laload, (0, 0, 0, 0, 0), 0, 0), (.lastore, (0, 0, 0, 0, 0), 0, 0)] = some 38 ∧ px_tr cX12_bounds 38 .return_ = true := by decide +kernel
theorem q_X12_bounds_26 : px_bk 12 6 cX12_bounds 26 [(.lload_n 3, (0, 0, 0, 0, 0), 0, 0), (.goto 10, (0, 0, 0, 0, 0), 0, 0), (.lastore, (0, 0, 0, 0, 0), 0, 0)] = some 38 ∧ px_tr cX12_bounds 38 .return_ = true := by decide +kernel
set_option maxRecDepth 100000 in
theorem k_bounds {n : Nat} {I : px_I} {L : px_L} {R : px_R} (hg : px_G n R) (f s : Int32) (v : Int64) (hb : 0 ≤ 24 * f + s ∧ 24 * f + s < 576) : px_KV M_X12_bounds [.ref 103, .int f, .int s, .long v] n I L R (fun I2 L2 => I2 = I ∧ mDL L L2) := by
  refine px_of (plainFor_of_name np_RX12) (fun _ _ _ => trivial) rfl ?_
  refine px_lge rfl q_X12_bounds_0 hg rfl ⟨trivial, (by first | decide | (refine ⟨?_, ?_⟩ <;> grind) | grind)⟩ (fun c23 => ?_) (fun c23 => ?_)
  · refine px_rvW rfl q_X12_bounds_30 rfl rfl rfl hg rfl ⟨⟨trivial, (by first | decide | (refine ⟨?_, ?_⟩ <;> grind) | grind)⟩, (by first | decide | (refine ⟨?_, ?_⟩ <;> grind) | grind)⟩ ⟨⟨rfl, rfl⟩, ?_⟩
    exact ⟨rfl, fun b hb => px_u_ne hb⟩
  · refine px_rvW rfl q_X12_bounds_26 rfl rfl rfl hg rfl ⟨trivial, (by first | decide | (refine ⟨?_, ?_⟩ <;> grind) | grind)⟩ ⟨⟨rfl, rfl⟩, ?_⟩
    exact ⟨rfl, fun b hb => px_u_ne hb⟩

theorem q_X12_closes_22 : px_bk 12 4 cX12_closes 22 [(.iload_n 3, (0, 0, 0, 0, 0), 0, 0), (.aload_n 0, (0, 0, 0, 0, 0), 0, 0), (.getfield 194, (12, 70, 0, 0, 0), 0, 0)] = some 27 ∧ px_t2 cX12_closes 27 .ge 101 = true := by decide +kernel
theorem q_X12_closes_101 : px_bk 12 4 cX12_closes 101 [(.iinc 2 1, (0, 0, 0, 0, 0), 1, 0), (.goto (-92), (0, 0, 0, 0, 0), 0, 0)] = some 12 := by decide +kernel
theorem q_X12_closes_30 : px_bk 12 4 cX12_closes 30 [(.aload_n 0, (0, 0, 0, 0, 0), 0, 0), (.getfield 155, (12, 69, 3, 143, 0), 0, 0), (.bipush 24, (0, 0, 0, 0, 0), 24, 0), (.iload_n 2, (0, 0, 0, 0, 0), 0, 0), (.imul, (0, 0, 0, 0, 0), 0, 0), (.iload_n 1, (0, 0, 0, 0, 0), 0, 0), (.iadd, (0, 0, 0, 0, 0), 0, 0), (.laload, (0, 0, 0, 0, 0), 0, 0), (.ldc2_w 197, (0, 0, 0, 0, 0), 0, 1000000000000), (.lcmp, (0, 0, 0, 0, 0), 0, 0)] = some 45 ∧ px_t1 cX12_closes 45 .ge 95 = true := by decide +kernel
theorem q_X12_closes_95 : px_bk 12 4 cX12_closes 95 [(.iinc 3 1, (0, 0, 0, 0, 0), 1, 0), (.goto (-76), (0, 0, 0, 0, 0), 0, 0)] = some 22 := by decide +kernel
theorem q_X12_closes_48 : px_bk 12 4 cX12_closes 48 [(.aload_n 0, (0, 0, 0, 0, 0), 0, 0), (.getfield 155, (12, 69, 3, 143, 0), 0, 0), (.bipush 24, (0, 0, 0, 0, 0), 24, 0), (.iload_n 1, (0, 0, 0, 0, 0), 0, 0), (.imul, (0, 0, 0, 0, 0), 0, 0), (.iload_n 3, (0, 0, 0, 0, 0), 0, 0), (.iadd, (0, 0, 0, 0, 0), 0, 0), (.laload, (0, 0, 0, 0, 0), 0, 0), (.ldc2_w 197, (0, 0, 0, 0, 0), 0, 1000000000000), (.lcmp, (0, 0, 0, 0, 0), 0, 0)] = some 63 ∧ px_t1 cX12_closes 63 .ge 95 = true := by decide +kernel
theorem q_X12_closes_66 : px_bk 12 4 cX12_closes 66 [(.aload_n 0, (0, 0, 0, 0, 0), 0, 0), (.iload_n 2, (0, 0, 0, 0, 0), 0, 0), (.iload_n 3, (0, 0, 0, 0, 0), 0, 0), (.aload_n 0, (0, 0, 0, 0, 0), 0, 0), (.getfield 155, (12, 69, 3, 143, 0), 0, 0), (.bipush 24, (0, 0, 0, 0, 0), 24, 0), (.iload_n 2, (0, 0, 0, 0, 0), 0, 0), (.imul, (0, 0, 0, 0, 0), 0, 0), (.iload_n 1, (0, 0, 0, 0, 0), 0, 0), (.iadd, (0, 0, 0, 0, 0), 0, 0), (.laload, (0, 0, 0, 0, 0), 0, 0), (.aload_n 0, (0, 0, 0, 0, 0), 0, 0), (.getfield 155, (12, 69, 3, 143, 0), 0, 0), (.bipush 24, (0, 0, 0, 0, 0), 24, 0), (.iload_n 1, (0, 0, 0, 0, 0), 0, 0), (.imul, (0, 0, 0, 0, 0), 0, 0), (.iload_n 3, (0, 0, 0, 0, 0), 0, 0), (.iadd, (0, 0, 0, 0, 0), 0, 0), (.laload, (0, 0, 0, 0, 0), 0, 0), (.ladd, (0, 0, 0, 0, 0), 0, 0)] = some 92 ∧ px_tv cX12_closes 92 199 = true := by decide +kernel
set_option maxRecDepth 100000 in
theorem l_closes22 {n : Nat} {R : px_R} (hg : px_G n R) {Q : px_Q} (m i : Int32) {I : px_I} (L : px_L) (hm : 0 ≤ m ∧ m < I 103 70) (hi : 0 ≤ i ∧ i < I 103 70) (hs : I 103 70 ≤ 24) (hq : ∀ L2, mDL L L2 → px M_X12_closes 0 0 12 [(0, .ref 103), (1, .int m), (2, .int (i + 1))] [] n I L2 R Q) : ∀ j : Int32, j ≤ I 103 70 → 0 ≤ j → ∀ L1, mDL L L1 → px M_X12_closes 0 0 22 [(0, .ref 103), (1, .int m), (2, .int i), (3, .int j)] [] n I L1 R Q := by
  refine px_up _ (fun j ih hk => ?_)
  intro h0 L1 h1
  refine px_ige rfl q_X12_closes_22 hg rfl trivial (fun c27 => ?_) (fun c27 => ?_)
  · refine px_b rfl q_X12_closes_101 hg rfl trivial ?_
    exact px_go (hq _ h1) ⟨rfl, rfl, rfl, trivial⟩
  · refine px_lge rfl q_X12_closes_30 hg rfl ⟨trivial, (by first | decide | (refine ⟨?_, ?_⟩ <;> grind) | grind)⟩ (fun c45 => ?_) (fun c45 => ?_)
    · refine px_b rfl q_X12_closes_95 hg rfl trivial ?_
      exact px_go (ih (j + 1) (by grind) (by grind) (by grind) _ (by first | assumption | (unfold mDL at *; grind))) ⟨rfl, rfl, rfl, rfl, trivial⟩
    · refine px_lge rfl q_X12_closes_48 hg rfl ⟨trivial, (by first | decide | (refine ⟨?_, ?_⟩ <;> grind) | grind)⟩ (fun c63 => ?_) (fun c63 => ?_)
      · refine px_b rfl q_X12_closes_95 hg rfl trivial ?_
        exact px_go (ih (j + 1) (by grind) (by grind) (by grind) _ (by first | assumption | (unfold mDL at *; grind))) ⟨rfl, rfl, rfl, rfl, trivial⟩
      · refine px_cVW (ci := 12) rfl q_X12_closes_66 hg rfl ⟨⟨trivial, (by first | decide | (refine ⟨?_, ?_⟩ <;> grind) | grind)⟩, (by first | decide | (refine ⟨?_, ?_⟩ <;> grind) | grind)⟩ lk_12_199 nm_X12_bounds (k_bounds hg _ _ _ (by grind)) rfl rfl (px_lit hg rfl) rfl rfl rfl ⟨rfl, rfl⟩ ?_
        intro I92 L92 h92
        obtain ⟨rfl, h92⟩ := h92
        refine px_b rfl q_X12_closes_95 hg rfl trivial ?_
        exact px_go (ih (j + 1) (by grind) (by grind) (by grind) _ (by first | assumption | (unfold mDL at *; grind))) ⟨rfl, rfl, rfl, rfl, trivial⟩

theorem q_X12_closes_12 : px_bk 12 4 cX12_closes 12 [(.iload_n 2, (0, 0, 0, 0, 0), 0, 0), (.aload_n 0, (0, 0, 0, 0, 0), 0, 0), (.getfield 194, (12, 70, 0, 0, 0), 0, 0)] = some 17 ∧ px_t2 cX12_closes 17 .ge 107 = true := by decide +kernel
theorem q_X12_closes_107 : px_bk 12 4 cX12_closes 107 [(.iinc 1 1, (0, 0, 0, 0, 0), 1, 0), (.goto (-108), (0, 0, 0, 0, 0), 0, 0)] = some 2 := by decide +kernel
theorem q_X12_closes_20 : px_bk 12 4 cX12_closes 20 [(.iconst 0, (0, 0, 0, 0, 0), 0, 0), (.istore_n 3, (0, 0, 0, 0, 0), 0, 0)] = some 22 := by decide +kernel
set_option maxRecDepth 100000 in
theorem l_closes12 {n : Nat} {R : px_R} (hg : px_G n R) {Q : px_Q} (m : Int32) {I : px_I} (L : px_L) (hm : 0 ≤ m ∧ m < I 103 70) (hs : I 103 70 ≤ 24) (hq : ∀ L2, mDL L L2 → px M_X12_closes 0 0 2 [(0, .ref 103), (1, .int (m + 1))] [] n I L2 R Q) : ∀ i : Int32, i ≤ I 103 70 → 0 ≤ i → ∀ L1, mDL L L1 → px M_X12_closes 0 0 12 [(0, .ref 103), (1, .int m), (2, .int i)] [] n I L1 R Q := by
  refine px_up _ (fun i ih hk => ?_)
  intro h0 L1 h1
  refine px_ige rfl q_X12_closes_12 hg rfl trivial (fun c17 => ?_) (fun c17 => ?_)
  · refine px_b rfl q_X12_closes_107 hg rfl trivial ?_
    exact px_go (hq _ h1) ⟨rfl, rfl, trivial⟩
  · refine px_b rfl q_X12_closes_20 hg rfl trivial ?_
    exact px_go (l_closes22 hg m i L1 hm (by grind) hs (fun L2 h2 => ih (i + 1) (by grind) (by grind) (by grind) L2 (fun b hb => (h2 b hb).trans (h1 b hb))) 0 (by grind) (by decide) L1 (fun _ _ => rfl)) ⟨rfl, rfl, rfl, rfl, trivial⟩

theorem q_X12_closes_117 : px_bk 12 4 cX12_closes 117 [(.iload_n 2, (0, 0, 0, 0, 0), 0, 0), (.aload_n 0, (0, 0, 0, 0, 0), 0, 0), (.getfield 194, (12, 70, 0, 0, 0), 0, 0)] = some 122 ∧ px_t2 cX12_closes 122 .ge 155 = true := by decide +kernel
theorem q_X12_closes_155 : px_bk 12 4 cX12_closes 155 [(.iload_n 1, (0, 0, 0, 0, 0), 0, 0)] = some 156 ∧ px_tr cX12_closes 156 .ireturn = true := by decide +kernel
theorem q_X12_closes_125 : px_bk 12 4 cX12_closes 125 [(.iload_n 1, (0, 0, 0, 0, 0), 0, 0)] = some 126 ∧ px_t1 cX12_closes 126 .eq 147 = true := by decide +kernel
theorem q_X12_closes_147 : px_bk 12 4 cX12_closes 147 [(.iconst 0, (0, 0, 0, 0, 0), 0, 0), (.istore_n 1, (0, 0, 0, 0, 0), 0, 0), (.iinc 2 1, (0, 0, 0, 0, 0), 1, 0), (.goto (-35), (0, 0, 0, 0, 0), 0, 0)] = some 117 := by decide +kernel
theorem q_X12_closes_129 : px_bk 12 4 cX12_closes 129 [(.aload_n 0, (0, 0, 0, 0, 0), 0, 0), (.getfield 155, (12, 69, 3, 143, 0), 0, 0), (.bipush 25, (0, 0, 0, 0, 0), 25, 0), (.iload_n 2, (0, 0, 0, 0, 0), 0, 0), (.imul, (0, 0, 0, 0, 0), 0, 0), (.laload, (0, 0, 0, 0, 0), 0, 0), (.lconst 0, (0, 0, 0, 0, 0), 0, 0), (.lcmp, (0, 0, 0, 0, 0), 0, 0)] = some 140 ∧ px_t1 cX12_closes 140 .lt 147 = true := by decide +kernel
theorem q_X12_closes_143 : px_bk 12 4 cX12_closes 143 [(.iconst 1, (0, 0, 0, 0, 0), 1, 0), (.goto 4, (0, 0, 0, 0, 0), 0, 0), (.istore_n 1, (0, 0, 0, 0, 0), 0, 0), (.iinc 2 1, (0, 0, 0, 0, 0), 1, 0), (.goto (-35), (0, 0, 0, 0, 0), 0, 0)] = some 117 := by decide +kernel
set_option maxRecDepth 100000 in
theorem l_closes117 {n : Nat} {R : px_R} (hg : px_G n R) {Q : px_Q} {I : px_I} {L1 : px_L} (hs : I 103 70 ≤ 24) (hq : ∀ r, (r = 0 ∨ r = 1) → Q (some (.int r)) n I L1 R) : ∀ i : Int32, i ≤ I 103 70 → 0 ≤ i → ∀ g : Int32, (g = 0 ∨ g = 1) → px M_X12_closes 0 0 117 [(0, .ref 103), (1, .int g), (2, .int i)] [] n I L1 R Q := by
  refine px_up _ (fun i ih hk => ?_)
  intro h0 g hg1
  refine px_ige rfl q_X12_closes_117 hg rfl trivial (fun c122 => ?_) (fun c122 => ?_)
  · refine px_rz rfl q_X12_closes_155 rfl rfl rfl hg rfl trivial (by first | exact Or.inl rfl | exact Or.inr rfl | grind) ?_
    exact hq _ hg1
  · refine px_eq rfl q_X12_closes_125 hg rfl trivial (fun c126 => ?_) (fun c126 => ?_)
    · refine px_b rfl q_X12_closes_147 hg rfl trivial ?_
      exact px_go (ih (i + 1) (by grind) (by grind) (by grind) _ (by first | exact Or.inl rfl | exact Or.inr rfl)) ⟨rfl, rfl, rfl, trivial⟩
    · refine px_llt rfl q_X12_closes_129 hg rfl ⟨trivial, (by first | decide | (refine ⟨?_, ?_⟩ <;> grind) | grind)⟩ (fun c140 => ?_) (fun c140 => ?_)
      · refine px_b rfl q_X12_closes_147 hg rfl trivial ?_
        exact px_go (ih (i + 1) (by grind) (by grind) (by grind) _ (by first | exact Or.inl rfl | exact Or.inr rfl)) ⟨rfl, rfl, rfl, trivial⟩
      · refine px_b rfl q_X12_closes_143 hg rfl trivial ?_
        exact px_go (ih (i + 1) (by grind) (by grind) (by grind) _ (by first | exact Or.inl rfl | exact Or.inr rfl)) ⟨rfl, rfl, rfl, trivial⟩

theorem q_X12_closes_2 : px_bk 12 4 cX12_closes 2 [(.iload_n 1, (0, 0, 0, 0, 0), 0, 0), (.aload_n 0, (0, 0, 0, 0, 0), 0, 0), (.getfield 194, (12, 70, 0, 0, 0), 0, 0)] = some 7 ∧ px_t2 cX12_closes 7 .ge 113 = true := by decide +kernel
theorem q_X12_closes_113 : px_bk 12 4 cX12_closes 113 [(.iconst 1, (0, 0, 0, 0, 0), 1, 0), (.istore_n 1, (0, 0, 0, 0, 0), 0, 0), (.iconst 0, (0, 0, 0, 0, 0), 0, 0), (.istore_n 2, (0, 0, 0, 0, 0), 0, 0)] = some 117 := by decide +kernel
theorem q_X12_closes_10 : px_bk 12 4 cX12_closes 10 [(.iconst 0, (0, 0, 0, 0, 0), 0, 0), (.istore_n 2, (0, 0, 0, 0, 0), 0, 0)] = some 12 := by decide +kernel
set_option maxRecDepth 100000 in
theorem l_closes2 {n : Nat} {R : px_R} (hg : px_G n R) {Q : px_Q} {I : px_I} (L : px_L) (h00 : 0 ≤ I 103 70) (hs : I 103 70 ≤ 24) (hq : ∀ r L2, (r = 0 ∨ r = 1) → mDL L L2 → Q (some (.int r)) n I L2 R) : ∀ m : Int32, m ≤ I 103 70 → 0 ≤ m → ∀ L1, mDL L L1 → px M_X12_closes 0 0 2 [(0, .ref 103), (1, .int m)] [] n I L1 R Q := by
  refine px_up _ (fun m ih hk => ?_)
  intro h0 L1 h1
  refine px_ige rfl q_X12_closes_2 hg rfl trivial (fun c7 => ?_) (fun c7 => ?_)
  · refine px_b rfl q_X12_closes_113 hg rfl trivial ?_
    exact px_go (l_closes117 hg hs (fun r hr => hq r L1 hr h1) 0 h00 (by decide) 1 (Or.inr rfl)) ⟨rfl, rfl, rfl, trivial⟩
  · refine px_b rfl q_X12_closes_10 hg rfl trivial ?_
    exact px_go (l_closes12 hg m L1 (by grind) hs (fun L2 h2 => ih (m + 1) (by grind) (by grind) (by grind) L2 (fun b hb => (h2 b hb).trans (h1 b hb))) 0 (by grind) (by decide) L1 (fun _ _ => rfl)) ⟨rfl, rfl, rfl, trivial⟩

theorem q_X12_closes_0 : px_bk 12 4 cX12_closes 0 [(.iconst 0, (0, 0, 0, 0, 0), 0, 0), (.istore_n 1, (0, 0, 0, 0, 0), 0, 0)] = some 2 := by decide +kernel
set_option maxRecDepth 100000 in
theorem k_closes {n : Nat} {I : px_I} {L : px_L} {R : px_R} (hg : px_G n R) (hs : 0 ≤ I 103 70 ∧ I 103 70 ≤ 24) : px_KS M_X12_closes [.ref 103] n I L R (fun r I2 L2 => (r = 0 ∨ r = 1) ∧ I2 = I ∧ mDL L L2) := by
  refine px_of (plainFor_of_name np_RX12) (fun _ _ _ => trivial) rfl ?_
  refine px_b rfl q_X12_closes_0 hg rfl trivial ?_
  exact px_go (l_closes2 hg L hs.1 hs.2 (fun r L2 hr h => ⟨rfl, rfl, r, rfl, hr, rfl, h⟩) 0 hs.1 (by decide) L (fun _ _ => rfl)) ⟨rfl, rfl, trivial⟩

theorem q_X12_isClosed_11 : px_bk 12 5 cX12_isClosed 11 [(.iload 4, (0, 0, 0, 0, 0), 0, 0), (.aload_n 0, (0, 0, 0, 0, 0), 0, 0), (.getfield 191, (12, 2, 0, 0, 0), 0, 0)] = some 17 ∧ px_t2 cX12_isClosed 17 .ge 107 = true := by decide +kernel
theorem q_X12_isClosed_107 : px_bk 12 5 cX12_isClosed 107 [(.aload_n 0, (0, 0, 0, 0, 0), 0, 0)] = some 108 ∧ px_tv cX12_isClosed 108 207 = true := by decide +kernel
theorem q_X12_isClosed_111 : px_bk 12 5 cX12_isClosed 111 [] = some 111 ∧ px_tr cX12_isClosed 111 .ireturn = true := by decide +kernel
theorem q_X12_isClosed_20 : px_bk 12 5 cX12_isClosed 20 [(.aload_n 0, (0, 0, 0, 0, 0), 0, 0), (.getfield 13, (12, 3, 3, 104, 0), 0, 0), (.iload 4, (0, 0, 0, 0, 0), 0, 0), (.iaload, (0, 0, 0, 0, 0), 0, 0), (.iload_n 1, (0, 0, 0, 0, 0), 0, 0)] = some 28 ∧ px_t2 cX12_isClosed 28 .ne 101 = true := by decide +kernel
theorem q_X12_isClosed_101 : px_bk 12 5 cX12_isClosed 101 [(.iinc 4 1, (0, 0, 0, 0, 0), 1, 0), (.goto (-93), (0, 0, 0, 0, 0), 0, 0)] = some 11 := by decide +kernel
theorem q_X12_isClosed_31 : px_bk 12 5 cX12_isClosed 31 [(.aload_n 0, (0, 0, 0, 0, 0), 0, 0), (.getfield 29, (12, 8, 3, 109, 0), 0, 0), (.iload 4, (0, 0, 0, 0, 0), 0, 0), (.iaload, (0, 0, 0, 0, 0), 0, 0), (.iload_n 2, (0, 0, 0, 0, 0), 0, 0)] = some 39 ∧ px_t2 cX12_isClosed 39 .gt 101 = true := by decide +kernel
theorem q_X12_isClosed_42 : px_bk 12 5 cX12_isClosed 42 [(.iload 4, (0, 0, 0, 0, 0), 0, 0), (.iload_n 3, (0, 0, 0, 0, 0), 0, 0)] = some 45 ∧ px_t2 cX12_isClosed 45 .eq 101 = true := by decide +kernel
theorem q_X12_isClosed_48 : px_bk 12 5 cX12_isClosed 48 [(.aload_n 0, (0, 0, 0, 0, 0), 0, 0), (.aload_n 0, (0, 0, 0, 0, 0), 0, 0), (.getfield 17, (12, 4, 3, 105, 0), 0, 0), (.iload 4, (0, 0, 0, 0, 0), 0, 0), (.iaload, (0, 0, 0, 0, 0), 0, 0), (.aload_n 0, (0, 0, 0, 0, 0), 0, 0), (.getfield 20, (12, 5, 3, 106, 0), 0, 0), (.iload 4, (0, 0, 0, 0, 0), 0, 0), (.iaload, (0, 0, 0, 0, 0), 0, 0), (.aload_n 0, (0, 0, 0, 0, 0), 0, 0), (.getfield 26, (12, 7, 3, 108, 0), 0, 0), (.iload 4, (0, 0, 0, 0, 0), 0, 0), (.iaload, (0, 0, 0, 0, 0), 0, 0), (.i2l, (0, 0, 0, 0, 0), 0, 0)] = some 71 ∧ px_tv cX12_isClosed 71 199 = true := by decide +kernel
theorem q_X12_isClosed_74 : px_bk 12 5 cX12_isClosed 74 [(.aload_n 0, (0, 0, 0, 0, 0), 0, 0), (.aload_n 0, (0, 0, 0, 0, 0), 0, 0), (.getfield 20, (12, 5, 3, 106, 0), 0, 0), (.iload 4, (0, 0, 0, 0, 0), 0, 0), (.iaload, (0, 0, 0, 0, 0), 0, 0), (.aload_n 0, (0, 0, 0, 0, 0), 0, 0), (.getfield 17, (12, 4, 3, 105, 0), 0, 0), (.iload 4, (0, 0, 0, 0, 0), 0, 0), (.iaload, (0, 0, 0, 0, 0), 0, 0), (.aload_n 0, (0, 0, 0, 0, 0), 0, 0), (.getfield 23, (12, 6, 3, 107, 0), 0, 0), (.iload 4, (0, 0, 0, 0, 0), 0, 0), (.iaload, (0, 0, 0, 0, 0), 0, 0), (.ineg, (0, 0, 0, 0, 0), 0, 0), (.i2l, (0, 0, 0, 0, 0), 0, 0)] = some 98 ∧ px_tv cX12_isClosed 98 199 = true := by decide +kernel
set_option maxRecDepth 100000 in
theorem l_isClosed {n : Nat} {R : px_R} (hg : px_G n R) {Q : px_Q} (a k w : Int32) {I0 I : px_I} (L : px_L) (hS : mS I) (hI : I = px_u I0 103 70 (I0 103 1)) (hI1 : I 103 70 = I 103 1) (hq : ∀ r L2, (r = 0 ∨ r = 1) → mDL L L2 → Q (some (.int r)) n I L2 R) : ∀ i : Int32, i ≤ I 103 2 → 0 ≤ i → ∀ L1, mDL L L1 → px M_X12_isClosed 0 0 11 [(0, .ref 103), (1, .int a), (2, .int k), (3, .int w), (4, .int i)] [] n I L1 R Q := by
  refine px_up _ (fun i ih hk => ?_)
  intro h0 L1 h1
  obtain ⟨hS1, hS2, hS3⟩ := id hS
  refine px_ige rfl q_X12_isClosed_11 hg rfl trivial (fun c17 => ?_) (fun c17 => ?_)
  · refine px_cVS (ci := 12) rfl q_X12_isClosed_107 hg rfl trivial lk_12_207 nm_X12_closes (k_closes hg (by grind)) rfl rfl (px_lit hg rfl) rfl rfl rfl ⟨rfl, rfl⟩ ?_
    intro x108 I108 L108 h108
    obtain ⟨hr, rfl, h108⟩ := h108
    refine px_rz rfl q_X12_isClosed_111 rfl rfl rfl hg rfl trivial (by first | exact Or.inl rfl | exact Or.inr rfl | grind) ?_
    exact hq _ _ hr (fun b hb => (h108 b hb).trans (h1 b hb))
  · have hS4 := hS3 i h0 (by grind)
    refine px_ine rfl q_X12_isClosed_20 hg rfl ⟨trivial, (by first | decide | (refine ⟨?_, ?_⟩ <;> grind) | grind)⟩ (fun c28 => ?_) (fun c28 => ?_)
    · refine px_b rfl q_X12_isClosed_101 hg rfl trivial ?_
      exact px_go (ih (i + 1) (by grind) (by grind) (by grind) _ (by first | assumption | (unfold mDL at *; grind))) ⟨rfl, rfl, rfl, rfl, rfl, trivial⟩
    · refine px_igt rfl q_X12_isClosed_31 hg rfl ⟨trivial, (by first | decide | (refine ⟨?_, ?_⟩ <;> grind) | grind)⟩ (fun c39 => ?_) (fun c39 => ?_)
      · refine px_b rfl q_X12_isClosed_101 hg rfl trivial ?_
        exact px_go (ih (i + 1) (by grind) (by grind) (by grind) _ (by first | assumption | (unfold mDL at *; grind))) ⟨rfl, rfl, rfl, rfl, rfl, trivial⟩
      · refine px_ieq rfl q_X12_isClosed_42 hg rfl trivial (fun c45 => ?_) (fun c45 => ?_)
        · refine px_b rfl q_X12_isClosed_101 hg rfl trivial ?_
          exact px_go (ih (i + 1) (by grind) (by grind) (by grind) _ (by first | assumption | (unfold mDL at *; grind))) ⟨rfl, rfl, rfl, rfl, rfl, trivial⟩
        · refine px_cVW (ci := 12) rfl q_X12_isClosed_48 hg rfl ⟨⟨⟨trivial, (by first | decide | (refine ⟨?_, ?_⟩ <;> grind) | grind)⟩, (by first | decide | (refine ⟨?_, ?_⟩ <;> grind) | grind)⟩, (by first | decide | (refine ⟨?_, ?_⟩ <;> grind) | grind)⟩ lk_12_199 nm_X12_bounds (k_bounds hg _ _ _ (by grind)) rfl rfl (px_lit hg rfl) rfl rfl rfl ⟨rfl, rfl⟩ ?_
          intro I71 L71 h71
          obtain ⟨rfl, h71⟩ := h71
          refine px_cVW (ci := 12) rfl q_X12_isClosed_74 hg rfl ⟨⟨⟨trivial, (by first | decide | (refine ⟨?_, ?_⟩ <;> grind) | grind)⟩, (by first | decide | (refine ⟨?_, ?_⟩ <;> grind) | grind)⟩, (by first | decide | (refine ⟨?_, ?_⟩ <;> grind) | grind)⟩ lk_12_199 nm_X12_bounds (k_bounds hg _ _ _ (by grind)) rfl rfl (px_lit hg rfl) rfl rfl rfl ⟨rfl, rfl⟩ ?_
          intro I98 L98 h98
          obtain ⟨rfl, h98⟩ := h98
          refine px_b rfl q_X12_isClosed_101 hg rfl trivial ?_
          exact px_go (ih (i + 1) (by grind) (by grind) (by grind) _ (by first | assumption | (unfold mDL at *; grind))) ⟨rfl, rfl, rfl, rfl, rfl, trivial⟩

theorem q_X12_isClosed_0 : px_bk 12 5 cX12_isClosed 0 [(.aload_n 0, (0, 0, 0, 0, 0), 0, 0), (.aload_n 0, (0, 0, 0, 0, 0), 0, 0), (.getfield 7, (12, 1, 0, 0, 0), 0, 0)] = some 5 ∧ px_tv cX12_isClosed 5 203 = true := by decide +kernel
theorem q_X12_isClosed_8 : px_bk 12 5 cX12_isClosed 8 [(.iconst 0, (0, 0, 0, 0, 0), 0, 0), (.istore 4, (0, 0, 0, 0, 0), 0, 0)] = some 11 := by decide +kernel
set_option maxRecDepth 100000 in
theorem k_isClosed {n : Nat} {I : px_I} {L : px_L} {R : px_R} (hg : px_G n R) (a k w : Int32) (hS : mS I) : px_KS M_X12_isClosed [.ref 103, .int a, .int k, .int w] n I L R (fun r I2 L2 => (r = 0 ∨ r = 1) ∧ I2 = px_u I 103 70 (I 103 1) ∧ mDL L L2) := by
  refine px_of (plainFor_of_name np_RX12) (fun _ _ _ => trivial) rfl ?_
  refine px_cVW (ci := 12) rfl q_X12_isClosed_0 hg rfl trivial lk_12_203 nm_X12_begins (k_begins hg _) rfl rfl (px_lit hg rfl) rfl rfl rfl ⟨rfl, rfl⟩ ?_
  intro I5 L5 h5
  obtain ⟨rfl, h5⟩ := h5
  refine px_b rfl q_X12_isClosed_8 hg rfl trivial ?_
  exact px_go (l_isClosed hg a k w L (by unfold mS at *; simpa [px_ur] using hS) rfl (by simp [px_ur]) (fun r L2 hr h => ⟨rfl, rfl, r, rfl, hr, rfl, h⟩) 0 (by unfold mS at hS; simp [px_ur]; grind) (by decide) _ h5) ⟨rfl, rfl, rfl, rfl, rfl, trivial⟩
