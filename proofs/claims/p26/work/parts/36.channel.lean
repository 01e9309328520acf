/-! what water could flow -/
theorem px_ls {a b : Int64} (h : a ≤ b) (h2 : b ≤ a) : a = b := px_le64 a b h h2
theorem cCl {t : Int64} (h : 1 ≤ t) : 0 ≤ (if 1 + t / 2 < 9 then 1 + t / 2 else 9).toInt32 ∧ (if 1 + t / 2 < 9 then 1 + t / 2 else 9).toInt32 ≤ 9 := by
  by_cases h2 : 1 + t / 2 < 9
  · rw [if_pos h2]
    by_cases h3 : t ≤ 16
    · have := mCls h h3
      exact ⟨this.1, by have := this.2; grind⟩
    · exfalso
      have h4 := Int64.lt_iff_toInt_lt.mp (Int64.not_le.mp h3)
      have h5 := Int64.lt_iff_toInt_lt.mp h2
      have e2 : (2 : Int64).toInt = 2 := by decide
      have e1 : (1 : Int64).toInt = 1 := by decide
      have e16 : (16 : Int64).toInt = 16 := by decide
      have e9 : (9 : Int64).toInt = 9 := by decide
      have e3 : (t / 2).toInt = t.toInt.tdiv 2 := by
        rw [Int64.toInt_div_of_ne_right _ _ (by decide), e2]
      have h6 := t.toInt_lt
      have h7 : t.toInt.tdiv 2 = t.toInt / 2 := Int.tdiv_eq_ediv_of_nonneg (by omega)
      rw [Int64.toInt_add, e1, e3, h7, e9] at h5
      rw [e16] at h4
      rw [Int.bmod_eq_of_le (by omega) (by omega)] at h5
      omega
  · rw [if_neg h2]; decide

theorem q_X0_setRow_0 : px_bk 0 3 cX0_setRow 0 [(.iload_n 1, (0, 0, 0, 0, 0), 0, 0), (.iconst 0, (0, 0, 0, 0, 0), 0, 0), (.bipush 9, (0, 0, 0, 0, 0), 9, 0)] = some 4 ∧ px_tS cX0_setRow 4 26 = true := by decide +kernel
theorem q_X0_setRow_7 : px_bk 0 3 cX0_setRow 7 [] = some 7 ∧ px_t1 cX0_setRow 7 .eq 21 = true := by decide +kernel
theorem q_X0_setRow_21 : px_bk 0 3 cX0_setRow 21 [(.iconst 0, (0, 0, 0, 0, 0), 0, 0)] = some 22 ∧ px_tr cX0_setRow 22 .ireturn = true := by decide +kernel
theorem q_X0_setRow_10 : px_bk 0 3 cX0_setRow 10 [(.iload_n 2, (0, 0, 0, 0, 0), 0, 0), (.iconst 0, (0, 0, 0, 0, 0), 0, 0), (.sipush 1000, (0, 0, 0, 0, 0), 1000, 0)] = some 15 ∧ px_tS cX0_setRow 15 26 = true := by decide +kernel
theorem q_X0_setRow_18 : px_bk 0 3 cX0_setRow 18 [] = some 18 ∧ px_t1 cX0_setRow 18 .ne 23 = true := by decide +kernel
theorem q_X0_setRow_23 : px_bk 0 3 cX0_setRow 23 [(.aload_n 0, (0, 0, 0, 0, 0), 0, 0), (.getfield 11, (0, 1, 3, 102, 0), 0, 0), (.iload_n 1, (0, 0, 0, 0, 0), 0, 0), (.iload_n 2, (0, 0, 0, 0, 0), 0, 0), (.iastore, (0, 0, 0, 0, 0), 0, 0), (.iconst 1, (0, 0, 0, 0, 0), 1, 0)] = some 31 ∧ px_tr cX0_setRow 31 .ireturn = true := by decide +kernel
set_option maxRecDepth 100000 in
theorem c_setRow {n : Nat} {I : px_I} {L : px_L} {R : px_R} (hg : px_G n R) (k v : Int32) : px_KS M_X0_setRow [.ref 101, .int k, .int v] n I L R (fun r I2 L2 => L2 = L ∧ ((((0 ≤ k ∧ k ≤ 9) ∧ (0 ≤ v ∧ v ≤ 1000)) ∧ r = 1 ∧ I2 = px_u I 102 k.toNatClampNeg v) ∨ (¬ ((0 ≤ k ∧ k ≤ 9) ∧ (0 ≤ v ∧ v ≤ 1000)) ∧ r = 0 ∧ I2 = I))) := by
  refine px_of (plainFor_of_name np_RX0) (fun _ _ _ => trivial) rfl ?_
  refine px_cSNP rfl q_X0_setRow_0 hg rfl trivial lk_0_26 nm_X11_within (c_within hg _ _ _) rfl rfl rfl ⟨rfl, rfl⟩ ?_
  intro x4 h4
  refine px_eq rfl q_X0_setRow_7 hg rfl trivial (fun c7 => ?_) (fun c7 => ?_)
  · replace h4 := px_bf h4 c7
    refine px_rzS rfl q_X0_setRow_21 rfl rfl rfl hg rfl trivial ⟨⟨rfl, rfl⟩, (by first | exact Or.inl rfl | exact Or.inr rfl | grind), ?_⟩
    grind
  · replace h4 := px_bt h4 c7
    refine px_cSNP rfl q_X0_setRow_10 hg rfl trivial lk_0_26 nm_X11_within (c_within hg _ _ _) rfl rfl rfl ⟨rfl, rfl⟩ ?_
    intro x15 h15
    refine px_ne rfl q_X0_setRow_18 hg rfl trivial (fun c18 => ?_) (fun c18 => ?_)
    · replace h15 := px_bt h15 c18
      refine px_rzS rfl q_X0_setRow_23 rfl rfl rfl hg rfl ⟨trivial, (by first | decide | (refine ⟨?_, ?_⟩ <;> grind) | grind)⟩ ⟨⟨rfl, rfl⟩, (by first | exact Or.inl rfl | exact Or.inr rfl | grind), ?_⟩
      grind
    · replace h15 := px_bf h15 c18
      refine px_rzS rfl q_X0_setRow_21 rfl rfl rfl hg rfl trivial ⟨⟨rfl, rfl⟩, (by first | exact Or.inl rfl | exact Or.inr rfl | grind), ?_⟩
      grind

theorem q_X0_rowOf_0 : px_bk 0 2 cX0_rowOf 0 [(.iload_n 1, (0, 0, 0, 0, 0), 0, 0), (.iconst 0, (0, 0, 0, 0, 0), 0, 0), (.bipush 9, (0, 0, 0, 0, 0), 9, 0)] = some 4 ∧ px_tS cX0_rowOf 4 26 = true := by decide +kernel
theorem q_X0_rowOf_7 : px_bk 0 2 cX0_rowOf 7 [] = some 7 ∧ px_t1 cX0_rowOf 7 .eq 19 = true := by decide +kernel
theorem q_X0_rowOf_19 : px_bk 0 2 cX0_rowOf 19 [(.iconst (-1), (0, 0, 0, 0, 0), -1, 0)] = some 20 ∧ px_tr cX0_rowOf 20 .ireturn = true := by decide +kernel
theorem q_X0_rowOf_10 : px_bk 0 2 cX0_rowOf 10 [(.aload_n 0, (0, 0, 0, 0, 0), 0, 0), (.getfield 11, (0, 1, 3, 102, 0), 0, 0), (.iload_n 1, (0, 0, 0, 0, 0), 0, 0), (.iaload, (0, 0, 0, 0, 0), 0, 0), (.goto 4, (0, 0, 0, 0, 0), 0, 0)] = some 20 ∧ px_tr cX0_rowOf 20 .ireturn = true := by decide +kernel
set_option maxRecDepth 100000 in
theorem c_rowOf {n : Nat} {I : px_I} {L : px_L} {R : px_R} (hg : px_G n R) (k : Int32) : px_KP M_X0_rowOf [.ref 101, .int k] n I L R (fun r => r = if 0 ≤ k ∧ k ≤ 9 then I 102 k.toNatClampNeg else -1) := by
  refine px_of (plainFor_of_name np_RX0) (fun _ _ _ => trivial) rfl ?_
  refine px_cSNP rfl q_X0_rowOf_0 hg rfl trivial lk_0_26 nm_X11_within (c_within hg _ _ _) rfl rfl rfl ⟨rfl, rfl⟩ ?_
  intro x4 h4
  refine px_eq rfl q_X0_rowOf_7 hg rfl trivial (fun c7 => ?_) (fun c7 => ?_)
  · replace h4 := px_bf h4 c7
    refine px_riP rfl q_X0_rowOf_19 rfl rfl rfl hg rfl trivial ⟨⟨rfl, rfl, rfl, rfl⟩, ?_⟩
    grind
  · replace h4 := px_bt h4 c7
    refine px_riP rfl q_X0_rowOf_10 rfl rfl rfl hg rfl ⟨trivial, (by first | decide | (refine ⟨?_, ?_⟩ <;> grind) | grind)⟩ ⟨⟨rfl, rfl, rfl, rfl⟩, ?_⟩
    grind

theorem q_X0_classOf_0 : px_bk 0 2 cX0_classOf 0 [(.lload_n 0, (0, 0, 0, 0, 0), 0, 0), (.lconst 1, (0, 0, 0, 0, 0), 0, 1), (.lcmp, (0, 0, 0, 0, 0), 0, 0)] = some 3 ∧ px_t1 cX0_classOf 3 .ge 10 = true := by decide +kernel
theorem q_X0_classOf_10 : px_bk 0 2 cX0_classOf 10 [(.ldc2_w 82, (0, 0, 0, 0, 0), 0, 9), (.lconst 1, (0, 0, 0, 0, 0), 0, 1), (.lload_n 0, (0, 0, 0, 0, 0), 0, 0), (.ldc2_w 84, (0, 0, 0, 0, 0), 0, 2), (.ldiv, (0, 0, 0, 0, 0), 0, 0), (.ladd, (0, 0, 0, 0, 0), 0, 0)] = some 20 ∧ px_tS cX0_classOf 20 86 = true := by decide +kernel
theorem q_X0_classOf_23 : px_bk 0 2 cX0_classOf 23 [(.l2i, (0, 0, 0, 0, 0), 0, 0)] = some 24 ∧ px_tr cX0_classOf 24 .ireturn = true := by decide +kernel
theorem q_X0_classOf_6 : px_bk 0 2 cX0_classOf 6 [(.iconst 0, (0, 0, 0, 0, 0), 0, 0), (.goto 17, (0, 0, 0, 0, 0), 0, 0)] = some 24 ∧ px_tr cX0_classOf 24 .ireturn = true := by decide +kernel
set_option maxRecDepth 100000 in
theorem c_classOf {n : Nat} {I : px_I} {L : px_L} {R : px_R} (hg : px_G n R) (t : Int64) : px_KP M_X0_classOf [.long t] n I L R (fun r => 0 ≤ r ∧ r ≤ 9) := by
  refine px_of (plainFor_of_name np_RX0) (fun _ _ _ => trivial) rfl ?_
  refine px_lge rfl q_X0_classOf_0 hg rfl trivial (fun c3 => ?_) (fun c3 => ?_)
  · refine px_cSQ rfl q_X0_classOf_10 hg rfl ⟨trivial, (by decide)⟩ lk_0_86 nm_J9_min_f86c9 (j_minL hg _ _) rfl rfl rfl ⟨rfl, rfl⟩ ?_
    intro x20 h20
    refine px_riP rfl q_X0_classOf_23 rfl rfl rfl hg rfl trivial ⟨⟨rfl, rfl, rfl, rfl⟩, ?_⟩
    first | exact ⟨by decide, by decide⟩ | (rw [h20]; exact cCl (by assumption))
  · refine px_riP rfl q_X0_classOf_6 rfl rfl rfl hg rfl trivial ⟨⟨rfl, rfl, rfl, rfl⟩, ?_⟩
    first | exact ⟨by decide, by decide⟩ | (rw [h20]; exact cCl (by assumption))

theorem q_X0_letThrough_0 : px_bk 0 14 cX0_letThrough 0 [(.aload_n 1, (0, 0, 0, 0, 0), 0, 0), (.iload_n 2, (0, 0, 0, 0, 0), 0, 0)] = some 2 ∧ px_tv cX0_letThrough 2 39 = true := by decide +kernel
theorem q_X0_letThrough_5 : px_bk 0 14 cX0_letThrough 5 [] = some 5 ∧ px_t1 cX0_letThrough 5 .ne 10 = true := by decide +kernel
theorem q_X0_letThrough_10 : px_bk 0 14 cX0_letThrough 10 [(.aload_n 1, (0, 0, 0, 0, 0), 0, 0), (.getfield 43, (1, 0, 3, 42, 56), 0, 0), (.iload_n 2, (0, 0, 0, 0, 0), 0, 0), (.iconst 1, (0, 0, 0, 0, 0), 1, 0), (.isub, (0, 0, 0, 0, 0), 0, 0), (.iaload, (0, 0, 0, 0, 0), 0, 0), (.istore 6, (0, 0, 0, 0, 0), 0, 0), (.aload_n 1, (0, 0, 0, 0, 0), 0, 0), (.getfield 43, (1, 0, 3, 42, 56), 0, 0), (.iload_n 2, (0, 0, 0, 0, 0), 0, 0), (.iaload, (0, 0, 0, 0, 0), 0, 0), (.istore 7, (0, 0, 0, 0, 0), 0, 0), (.iload 5, (0, 0, 0, 0, 0), 0, 0)] = some 30 ∧ px_t1 cX0_letThrough 30 .eq 42 = true := by decide +kernel
theorem q_X0_letThrough_42 : px_bk 0 14 cX0_letThrough 42 [(.aload_n 1, (0, 0, 0, 0, 0), 0, 0), (.getfield 49, (1, 2, 3, 44, 58), 0, 0), (.iload_n 2, (0, 0, 0, 0, 0), 0, 0), (.iaload, (0, 0, 0, 0, 0), 0, 0), (.istore 8, (0, 0, 0, 0, 0), 0, 0), (.iload 6, (0, 0, 0, 0, 0), 0, 0), (.iconst (-1), (0, 0, 0, 0, 0), -1, 0)] = some 53 ∧ px_t2 cX0_letThrough 53 .eq 67 = true := by decide +kernel
theorem q_X0_letThrough_67 : px_bk 0 14 cX0_letThrough 67 [(.iconst (-1), (0, 0, 0, 0, 0), -1, 0)] = some 68 ∧ px_tr cX0_letThrough 68 .ireturn = true := by decide +kernel
theorem q_X0_letThrough_56 : px_bk 0 14 cX0_letThrough 56 [(.iload 7, (0, 0, 0, 0, 0), 0, 0), (.iconst (-1), (0, 0, 0, 0, 0), -1, 0)] = some 59 ∧ px_t2 cX0_letThrough 59 .eq 67 = true := by decide +kernel
theorem q_X0_letThrough_62 : px_bk 0 14 cX0_letThrough 62 [(.iload 8, (0, 0, 0, 0, 0), 0, 0)] = some 64 ∧ px_t1 cX0_letThrough 64 .gt 69 = true := by decide +kernel
theorem q_X0_letThrough_69 : px_bk 0 14 cX0_letThrough 69 [(.aload_n 0, (0, 0, 0, 0, 0), 0, 0), (.getfield 22, (0, 0, 3, 33, 0), 0, 0), (.iconst 2, (0, 0, 0, 0, 0), 2, 0), (.iload 7, (0, 0, 0, 0, 0), 0, 0), (.iload 6, (0, 0, 0, 0, 0), 0, 0), (.iload 4, (0, 0, 0, 0, 0), 0, 0), (.iload 5, (0, 0, 0, 0, 0), 0, 0)] = some 82 ∧ px_tv cX0_letThrough 82 52 = true := by decide +kernel
theorem q_X0_letThrough_85 : px_bk 0 14 cX0_letThrough 85 [(.istore 9, (0, 0, 0, 0, 0), 0, 0), (.iload 9, (0, 0, 0, 0, 0), 0, 0), (.ldc 58, (0, 0, 0, 0, 0), -2000000000, 0)] = some 91 ∧ px_t2 cX0_letThrough 91 .ne 96 = true := by decide +kernel
theorem q_X0_letThrough_96 : px_bk 0 14 cX0_letThrough 96 [(.ldc2_w 59, (0, 0, 0, 0, 0), 0, 1000), (.iload 9, (0, 0, 0, 0, 0), 0, 0), (.i2l, (0, 0, 0, 0, 0), 0, 0), (.lmul, (0, 0, 0, 0, 0), 0, 0), (.iload 8, (0, 0, 0, 0, 0), 0, 0), (.i2l, (0, 0, 0, 0, 0), 0, 0)] = some 106 ∧ px_tS cX0_letThrough 106 61 = true := by decide +kernel
theorem q_X0_letThrough_109 : px_bk 0 14 cX0_letThrough 109 [(.lstore 10, (0, 0, 0, 0, 0), 0, 0), (.aload_n 0, (0, 0, 0, 0, 0), 0, 0), (.getfield 15, (0, 2, 0, 0, 0), 0, 0), (.aload_n 1, (0, 0, 0, 0, 0), 0, 0), (.iload_n 2, (0, 0, 0, 0, 0), 0, 0), (.iload_n 3, (0, 0, 0, 0, 0), 0, 0), (.iload 4, (0, 0, 0, 0, 0), 0, 0)] = some 120 ∧ px_tv cX0_letThrough 120 67 = true := by decide +kernel
theorem q_X0_letThrough_123 : px_bk 0 14 cX0_letThrough 123 [(.imul, (0, 0, 0, 0, 0), 0, 0), (.bipush 100, (0, 0, 0, 0, 0), 100, 0), (.idiv, (0, 0, 0, 0, 0), 0, 0), (.istore 12, (0, 0, 0, 0, 0), 0, 0), (.iconst 0, (0, 0, 0, 0, 0), 0, 0), (.aload_n 1, (0, 0, 0, 0, 0), 0, 0), (.getfield 71, (1, 5, 3, 47, 61), 0, 0), (.iload_n 2, (0, 0, 0, 0, 0), 0, 0), (.iaload, (0, 0, 0, 0, 0), 0, 0), (.iconst 2, (0, 0, 0, 0, 0), 2, 0), (.iload 12, (0, 0, 0, 0, 0), 0, 0), (.imul, (0, 0, 0, 0, 0), 0, 0), (.isub, (0, 0, 0, 0, 0), 0, 0)] = some 141 ∧ px_tS cX0_letThrough 141 74 = true := by decide +kernel
theorem q_X0_letThrough_144 : px_bk 0 14 cX0_letThrough 144 [(.istore 13, (0, 0, 0, 0, 0), 0, 0), (.aload_n 0, (0, 0, 0, 0, 0), 0, 0), (.getfield 11, (0, 1, 3, 102, 0), 0, 0), (.lload 10, (0, 0, 0, 0, 0), 0, 0)] = some 152 ∧ px_tS cX0_letThrough 152 78 = true := by decide +kernel
theorem q_X0_letThrough_155 : px_bk 0 14 cX0_letThrough 155 [(.iaload, (0, 0, 0, 0, 0), 0, 0), (.iload 13, (0, 0, 0, 0, 0), 0, 0), (.imul, (0, 0, 0, 0, 0), 0, 0), (.bipush 100, (0, 0, 0, 0, 0), 100, 0), (.idiv, (0, 0, 0, 0, 0), 0, 0)] = some 162 ∧ px_tr cX0_letThrough 162 .ireturn = true := by decide +kernel
theorem q_X0_letThrough_94 : px_bk 0 14 cX0_letThrough 94 [(.iconst (-1), (0, 0, 0, 0, 0), -1, 0)] = some 95 ∧ px_tr cX0_letThrough 95 .ireturn = true := by decide +kernel
theorem q_X0_letThrough_33 : px_bk 0 14 cX0_letThrough 33 [(.aload_n 1, (0, 0, 0, 0, 0), 0, 0), (.getfield 46, (1, 1, 3, 43, 57), 0, 0), (.iload_n 2, (0, 0, 0, 0, 0), 0, 0), (.iaload, (0, 0, 0, 0, 0), 0, 0), (.goto 9, (0, 0, 0, 0, 0), 0, 0), (.istore 8, (0, 0, 0, 0, 0), 0, 0), (.iload 6, (0, 0, 0, 0, 0), 0, 0), (.iconst (-1), (0, 0, 0, 0, 0), -1, 0)] = some 53 ∧ px_t2 cX0_letThrough 53 .eq 67 = true := by decide +kernel
theorem q_X0_letThrough_8 : px_bk 0 14 cX0_letThrough 8 [(.iconst (-1), (0, 0, 0, 0, 0), -1, 0)] = some 9 ∧ px_tr cX0_letThrough 9 .ireturn = true := by decide +kernel
set_option maxRecDepth 100000 in
theorem c_letA {n : Nat} {I : px_I} {L : px_L} {R : px_R} (hg : px_G n R) (p y k h : Int32) (hp : 0 ≤ I 41 13 ∧ I 41 13 ≤ 20) (hr : I 41 15 ≤ 30) (hs : 0 ≤ I 33 8 ∧ I 33 8 ≤ 80) (hn : I 33 7 ≤ 24) : px_KS M_X0_letThrough [.ref 101, .ref 41, .int p, .int y, .int k, .int h] n I L R (fun r I2 L2 => I2 = I ∧ cDL L L2) := by
  refine px_of (plainFor_of_name np_RX0) (fun _ _ _ => trivial) rfl ?_
  refine px_cVP (ci := 1) rfl q_X0_letThrough_0 hg rfl trivial lk_0_39 nm_X1_hasReach (c_hasReachA hg _) rfl rfl (px_lit hg rfl) rfl rfl rfl ⟨rfl, rfl⟩ ?_
  intro x2 h2
  refine px_ne rfl q_X0_letThrough_5 hg rfl trivial (fun c5 => ?_) (fun c5 => ?_)
  · replace h2 := px_bt h2 c5
    have hpp : 0 ≤ p ∧ p < 20 := by grind
    have hp1 : 0 ≤ p - 1 ∧ p - 1 < 20 := by grind
    refine px_eq rfl q_X0_letThrough_10 hg rfl ⟨⟨trivial, (by first | decide | with_reducible assumption)⟩, (by first | decide | with_reducible assumption)⟩ (fun c30 => ?_) (fun c30 => ?_)
    · refine px_ieq rfl q_X0_letThrough_42 hg rfl ⟨trivial, (by first | decide | with_reducible assumption)⟩ (fun c53 => ?_) (fun c53 => ?_)
      · refine px_riS rfl q_X0_letThrough_67 rfl rfl rfl hg rfl trivial ⟨⟨rfl, rfl⟩, ?_⟩
        first | exact ⟨rfl, h82⟩ | exact ⟨rfl, fun _ _ => rfl⟩
      · refine px_ieq rfl q_X0_letThrough_56 hg rfl trivial (fun c59 => ?_) (fun c59 => ?_)
        · refine px_riS rfl q_X0_letThrough_67 rfl rfl rfl hg rfl trivial ⟨⟨rfl, rfl⟩, ?_⟩
          first | exact ⟨rfl, h82⟩ | exact ⟨rfl, fun _ _ => rfl⟩
        · refine px_gt rfl q_X0_letThrough_62 hg rfl trivial (fun c64 => ?_) (fun c64 => ?_)
          · refine px_cVS (ci := 7) rfl q_X0_letThrough_69 hg rfl trivial lk_0_52 nm_X7_bound (c_bound hg _ _ _ _ _ (by assumption) (by assumption)) rfl rfl (px_lit hg rfl) rfl rfl rfl ⟨rfl, rfl⟩ ?_
            intro x82 I82 L82 h82
            obtain ⟨rfl, h82⟩ := h82
            refine px_ine rfl q_X0_letThrough_85 hg rfl trivial (fun c91 => ?_) (fun c91 => ?_)
            · refine px_cSQ rfl q_X0_letThrough_96 hg rfl trivial lk_0_61 nm_J9_floorDiv_f86c9 (j_floorDiv hg _ _ (px_nz64 (by grind))) rfl rfl rfl ⟨rfl, rfl⟩ ?_
              intro x106 h106
              refine px_cVP (ci := 1) rfl q_X0_letThrough_109 hg rfl trivial lk_0_67 nm_X1_limeYears (c_limeYearsA hg _ _ _ (by assumption)) rfl rfl (px_lit hg rfl) rfl rfl rfl ⟨rfl, rfl⟩ ?_
              intro x120 h120
              refine px_cSP rfl q_X0_letThrough_123 hg rfl ⟨⟨trivial, (by first | decide | with_reducible assumption)⟩, (by first | decide | with_reducible assumption)⟩ lk_0_74 nm_J9_max_7cf53 (j_max hg _ _) rfl rfl rfl ⟨rfl, rfl⟩ ?_
              intro x141 h141
              refine px_cSP rfl q_X0_letThrough_144 hg rfl trivial lk_0_78 nm_X0_classOf (c_classOf hg _) rfl rfl rfl ⟨rfl, rfl⟩ ?_
              intro x152 h152
              have h9 : 0 ≤ x152 ∧ x152 < 10 := by grind
              refine px_riS rfl q_X0_letThrough_155 rfl rfl rfl hg rfl ⟨⟨trivial, (by first | decide | with_reducible assumption)⟩, (by first | decide | with_reducible assumption)⟩ ⟨⟨rfl, rfl⟩, ?_⟩
              first | exact ⟨rfl, h82⟩ | exact ⟨rfl, fun _ _ => rfl⟩
            · refine px_riS rfl q_X0_letThrough_94 rfl rfl rfl hg rfl trivial ⟨⟨rfl, rfl⟩, ?_⟩
              first | exact ⟨rfl, h82⟩ | exact ⟨rfl, fun _ _ => rfl⟩
          · refine px_riS rfl q_X0_letThrough_67 rfl rfl rfl hg rfl trivial ⟨⟨rfl, rfl⟩, ?_⟩
            first | exact ⟨rfl, h82⟩ | exact ⟨rfl, fun _ _ => rfl⟩
    · refine px_ieq rfl q_X0_letThrough_33 hg rfl ⟨trivial, (by first | decide | with_reducible assumption)⟩ (fun c53 => ?_) (fun c53 => ?_)
      · refine px_riS rfl q_X0_letThrough_67 rfl rfl rfl hg rfl trivial ⟨⟨rfl, rfl⟩, ?_⟩
        first | exact ⟨rfl, h82⟩ | exact ⟨rfl, fun _ _ => rfl⟩
      · refine px_ieq rfl q_X0_letThrough_56 hg rfl trivial (fun c59 => ?_) (fun c59 => ?_)
        · refine px_riS rfl q_X0_letThrough_67 rfl rfl rfl hg rfl trivial ⟨⟨rfl, rfl⟩, ?_⟩
          first | exact ⟨rfl, h82⟩ | exact ⟨rfl, fun _ _ => rfl⟩
        · refine px_gt rfl q_X0_letThrough_62 hg rfl trivial (fun c64 => ?_) (fun c64 => ?_)
          · refine px_cVS (ci := 7) rfl q_X0_letThrough_69 hg rfl trivial lk_0_52 nm_X7_bound (c_bound hg _ _ _ _ _ (by assumption) (by assumption)) rfl rfl (px_lit hg rfl) rfl rfl rfl ⟨rfl, rfl⟩ ?_
            intro x82 I82 L82 h82
            obtain ⟨rfl, h82⟩ := h82
            refine px_ine rfl q_X0_letThrough_85 hg rfl trivial (fun c91 => ?_) (fun c91 => ?_)
            · refine px_cSQ rfl q_X0_letThrough_96 hg rfl trivial lk_0_61 nm_J9_floorDiv_f86c9 (j_floorDiv hg _ _ (px_nz64 (by grind))) rfl rfl rfl ⟨rfl, rfl⟩ ?_
              intro x106 h106
              refine px_cVP (ci := 1) rfl q_X0_letThrough_109 hg rfl trivial lk_0_67 nm_X1_limeYears (c_limeYearsA hg _ _ _ (by assumption)) rfl rfl (px_lit hg rfl) rfl rfl rfl ⟨rfl, rfl⟩ ?_
              intro x120 h120
              refine px_cSP rfl q_X0_letThrough_123 hg rfl ⟨⟨trivial, (by first | decide | with_reducible assumption)⟩, (by first | decide | with_reducible assumption)⟩ lk_0_74 nm_J9_max_7cf53 (j_max hg _ _) rfl rfl rfl ⟨rfl, rfl⟩ ?_
              intro x141 h141
              refine px_cSP rfl q_X0_letThrough_144 hg rfl trivial lk_0_78 nm_X0_classOf (c_classOf hg _) rfl rfl rfl ⟨rfl, rfl⟩ ?_
              intro x152 h152
              have h9 : 0 ≤ x152 ∧ x152 < 10 := by grind
              refine px_riS rfl q_X0_letThrough_155 rfl rfl rfl hg rfl ⟨⟨trivial, (by first | decide | with_reducible assumption)⟩, (by first | decide | with_reducible assumption)⟩ ⟨⟨rfl, rfl⟩, ?_⟩
              first | exact ⟨rfl, h82⟩ | exact ⟨rfl, fun _ _ => rfl⟩
            · refine px_riS rfl q_X0_letThrough_94 rfl rfl rfl hg rfl trivial ⟨⟨rfl, rfl⟩, ?_⟩
              first | exact ⟨rfl, h82⟩ | exact ⟨rfl, fun _ _ => rfl⟩
          · refine px_riS rfl q_X0_letThrough_67 rfl rfl rfl hg rfl trivial ⟨⟨rfl, rfl⟩, ?_⟩
            first | exact ⟨rfl, h82⟩ | exact ⟨rfl, fun _ _ => rfl⟩
  · replace h2 := px_bf h2 c5
    refine px_riS rfl q_X0_letThrough_8 rfl rfl rfl hg rfl trivial ⟨⟨rfl, rfl⟩, ?_⟩
    first | exact ⟨rfl, h82⟩ | exact ⟨rfl, fun _ _ => rfl⟩

def cLI (I I2 : px_I) : Prop := ∀ b j, ¬ (b = 101 ∧ j = 3) → I2 b j = I b j
theorem cLI.u {I I1 : px_I} (h : cLI I I1) (v : Int32) : cLI I (px_u I1 101 3 v) := fun b j h3 => by rw [px_ur, ← h b j h3]; grind

theorem q_X0_tightest_6 : px_bk 0 8 cX0_tightest 6 [(.iload 6, (0, 0, 0, 0, 0), 0, 0), (.aload_n 1, (0, 0, 0, 0, 0), 0, 0), (.getfield 30, (1, 13, 0, 0, 0), 0, 0)] = some 12 ∧ px_t2 cX0_tightest 12 .ge 67 = true := by decide +kernel
theorem q_X0_tightest_67 : px_bk 0 8 cX0_tightest 67 [(.iload 5, (0, 0, 0, 0, 0), 0, 0)] = some 69 ∧ px_tr cX0_tightest 69 .ireturn = true := by decide +kernel
theorem q_X0_tightest_15 : px_bk 0 8 cX0_tightest 15 [(.aload_n 0, (0, 0, 0, 0, 0), 0, 0), (.aload_n 1, (0, 0, 0, 0, 0), 0, 0), (.iload 6, (0, 0, 0, 0, 0), 0, 0), (.iload_n 2, (0, 0, 0, 0, 0), 0, 0), (.iload_n 3, (0, 0, 0, 0, 0), 0, 0), (.iload 4, (0, 0, 0, 0, 0), 0, 0)] = some 23 ∧ px_tv cX0_tightest 23 35 = true := by decide +kernel
theorem q_X0_tightest_26 : px_bk 0 8 cX0_tightest 26 [(.istore 7, (0, 0, 0, 0, 0), 0, 0), (.iload 7, (0, 0, 0, 0, 0), 0, 0), (.iconst (-1), (0, 0, 0, 0, 0), -1, 0)] = some 31 ∧ px_t2 cX0_tightest 31 .ne 36 = true := by decide +kernel
theorem q_X0_tightest_36 : px_bk 0 8 cX0_tightest 36 [(.iload 5, (0, 0, 0, 0, 0), 0, 0), (.iconst (-1), (0, 0, 0, 0, 0), -1, 0)] = some 39 ∧ px_t2 cX0_tightest 39 .eq 51 = true := by decide +kernel
theorem q_X0_tightest_51 : px_bk 0 8 cX0_tightest 51 [(.iload 6, (0, 0, 0, 0, 0), 0, 0), (.istore 5, (0, 0, 0, 0, 0), 0, 0), (.aload_n 0, (0, 0, 0, 0, 0), 0, 0), (.iload 7, (0, 0, 0, 0, 0), 0, 0), (.putfield 19, (0, 3, 0, 0, 0), 0, 0), (.iinc 6 1, (0, 0, 0, 0, 0), 1, 0), (.goto (-58), (0, 0, 0, 0, 0), 0, 0)] = some 6 := by decide +kernel
theorem q_X0_tightest_42 : px_bk 0 8 cX0_tightest 42 [(.iload 7, (0, 0, 0, 0, 0), 0, 0), (.aload_n 0, (0, 0, 0, 0, 0), 0, 0), (.getfield 19, (0, 3, 0, 0, 0), 0, 0)] = some 48 ∧ px_t2 cX0_tightest 48 .ge 61 = true := by decide +kernel
theorem q_X0_tightest_61 : px_bk 0 8 cX0_tightest 61 [(.iinc 6 1, (0, 0, 0, 0, 0), 1, 0), (.goto (-58), (0, 0, 0, 0, 0), 0, 0)] = some 6 := by decide +kernel
theorem q_X0_tightest_34 : px_bk 0 8 cX0_tightest 34 [(.iconst (-1), (0, 0, 0, 0, 0), -1, 0)] = some 35 ∧ px_tr cX0_tightest 35 .ireturn = true := by decide +kernel
set_option maxRecDepth 100000 in
theorem l_tightA {n : Nat} {R : px_R} (hg : px_G n R) {Q : px_Q} (y k h : Int32) {I0 : px_I} (L0 : px_L) (hp : 0 ≤ I0 41 13 ∧ I0 41 13 ≤ 20) (hr : I0 41 15 ≤ 30) (hs : 0 ≤ I0 33 8 ∧ I0 33 8 ≤ 80) (hn : I0 33 7 ≤ 24) (hq : ∀ r I2 L2, cLI I0 I2 → cDL L0 L2 → Q (some (.int r)) n I2 L2 R) : ∀ p : Int32, p ≤ 20 → 1 ≤ p → ∀ (t : Int32) (I : px_I) (L : px_L), cLI I0 I → cDL L0 L → px M_X0_tightest 0 0 6 [(0, .ref 101), (1, .ref 41), (2, .int y), (3, .int k), (4, .int h), (5, .int t), (6, .int p)] [] n I L R Q := by
  refine px_up 20 (fun p ih hi => ?_)
  intro h0 t I L h1 h2
  have e13 : I 41 13 = I0 41 13 := h1 41 13 (by decide)
  have hp1 : 0 ≤ I 41 13 ∧ I 41 13 ≤ 20 := by rw [e13]; exact hp
  have hr1 : I 41 15 ≤ 30 := by rw [h1 41 15 (by decide)]; exact hr
  have hs1 : 0 ≤ I 33 8 ∧ I 33 8 ≤ 80 := by rw [h1 33 8 (by decide)]; exact hs
  have hn1 : I 33 7 ≤ 24 := by rw [h1 33 7 (by decide)]; exact hn
  refine px_ige rfl q_X0_tightest_6 hg rfl trivial (fun c12 => ?_) (fun c12 => ?_)
  · refine px_ri rfl q_X0_tightest_67 rfl rfl rfl hg rfl trivial ?_
    first | exact hq _ _ _ h1 h23 | exact hq _ _ _ h1 h2
  · refine px_cVS (ci := 0) rfl q_X0_tightest_15 hg rfl trivial lk_0_35 nm_X0_letThrough (c_letA hg _ _ _ _ hp1 hr1 hs1 hn1) rfl rfl (px_lit hg rfl) rfl rfl rfl ⟨rfl, rfl⟩ ?_
    intro x23 I23 L23 h23
    obtain ⟨rfl, h23⟩ := h23
    replace h23 := h2.trans h23
    refine px_ine rfl q_X0_tightest_26 hg rfl trivial (fun c31 => ?_) (fun c31 => ?_)
    · refine px_ieq rfl q_X0_tightest_36 hg rfl trivial (fun c39 => ?_) (fun c39 => ?_)
      · refine px_b rfl q_X0_tightest_51 hg rfl trivial ?_
        first | exact px_go (ih (p + 1) (by grind) (by grind) (by grind) _ _ _ (h1.u _) h23) ⟨rfl, rfl, rfl, rfl, rfl, rfl, rfl, trivial⟩ | exact px_go (ih (p + 1) (by grind) (by grind) (by grind) _ _ _ h1 h23) ⟨rfl, rfl, rfl, rfl, rfl, rfl, rfl, trivial⟩
      · refine px_ige rfl q_X0_tightest_42 hg rfl trivial (fun c48 => ?_) (fun c48 => ?_)
        · refine px_b rfl q_X0_tightest_61 hg rfl trivial ?_
          first | exact px_go (ih (p + 1) (by grind) (by grind) (by grind) _ _ _ (h1.u _) h23) ⟨rfl, rfl, rfl, rfl, rfl, rfl, rfl, trivial⟩ | exact px_go (ih (p + 1) (by grind) (by grind) (by grind) _ _ _ h1 h23) ⟨rfl, rfl, rfl, rfl, rfl, rfl, rfl, trivial⟩
        · refine px_b rfl q_X0_tightest_51 hg rfl trivial ?_
          first | exact px_go (ih (p + 1) (by grind) (by grind) (by grind) _ _ _ (h1.u _) h23) ⟨rfl, rfl, rfl, rfl, rfl, rfl, rfl, trivial⟩ | exact px_go (ih (p + 1) (by grind) (by grind) (by grind) _ _ _ h1 h23) ⟨rfl, rfl, rfl, rfl, rfl, rfl, rfl, trivial⟩
    · refine px_ri rfl q_X0_tightest_34 rfl rfl rfl hg rfl trivial ?_
      first | exact hq _ _ _ h1 h23 | exact hq _ _ _ h1 h2

theorem q_X0_tightest_0 : px_bk 0 8 cX0_tightest 0 [(.iconst (-1), (0, 0, 0, 0, 0), -1, 0), (.istore 5, (0, 0, 0, 0, 0), 0, 0), (.iconst 1, (0, 0, 0, 0, 0), 1, 0), (.istore 6, (0, 0, 0, 0, 0), 0, 0)] = some 6 := by decide +kernel
set_option maxRecDepth 100000 in
theorem c_tightA {n : Nat} {I : px_I} {L : px_L} {R : px_R} (hg : px_G n R) (y k h : Int32) (hp : 0 ≤ I 41 13 ∧ I 41 13 ≤ 20) (hr : I 41 15 ≤ 30) (hs : 0 ≤ I 33 8 ∧ I 33 8 ≤ 80) (hn : I 33 7 ≤ 24) : px_KS M_X0_tightest [.ref 101, .ref 41, .int y, .int k, .int h] n I L R (fun r I2 L2 => cLI I I2 ∧ cDL L L2) := by
  refine px_of (plainFor_of_name np_RX0) (fun _ _ _ => trivial) rfl ?_
  refine px_b rfl q_X0_tightest_0 hg rfl trivial ?_
  exact px_go (l_tightA hg y k h L hp hr hs hn (fun r I2 L2 h1 h2 => ⟨rfl, rfl, r, rfl, h1, h2⟩) 1 (by decide) (by decide) (-1) I L (fun _ _ _ => rfl) (fun _ _ => rfl)) ⟨rfl, rfl, rfl, rfl, rfl, rfl, rfl, trivial⟩

set_option maxRecDepth 100000 in
theorem c_letB {n : Nat} {I : px_I} {L : px_L} {R : px_R} (hg : px_G n R) (p y k h : Int32) (hp : 0 ≤ I 55 13 ∧ I 55 13 ≤ 20) (hr : I 55 15 ≤ 30) (hs : 0 ≤ I 33 8 ∧ I 33 8 ≤ 80) (hn : I 33 7 ≤ 24) : px_KS M_X0_letThrough [.ref 101, .ref 55, .int p, .int y, .int k, .int h] n I L R (fun r I2 L2 => I2 = I ∧ cDL L L2) := by
  refine px_of (plainFor_of_name np_RX0) (fun _ _ _ => trivial) rfl ?_
  refine px_cVP (ci := 1) rfl q_X0_letThrough_0 hg rfl trivial lk_0_39 nm_X1_hasReach (c_hasReachB hg _) rfl rfl (px_lit hg rfl) rfl rfl rfl ⟨rfl, rfl⟩ ?_
  intro x2 h2
  refine px_ne rfl q_X0_letThrough_5 hg rfl trivial (fun c5 => ?_) (fun c5 => ?_)
  · replace h2 := px_bt h2 c5
    have hpp : 0 ≤ p ∧ p < 20 := by grind
    have hp1 : 0 ≤ p - 1 ∧ p - 1 < 20 := by grind
    refine px_eq rfl q_X0_letThrough_10 hg rfl ⟨⟨trivial, (by first | decide | with_reducible assumption)⟩, (by first | decide | with_reducible assumption)⟩ (fun c30 => ?_) (fun c30 => ?_)
    · refine px_ieq rfl q_X0_letThrough_42 hg rfl ⟨trivial, (by first | decide | with_reducible assumption)⟩ (fun c53 => ?_) (fun c53 => ?_)
      · refine px_riS rfl q_X0_letThrough_67 rfl rfl rfl hg rfl trivial ⟨⟨rfl, rfl⟩, ?_⟩
        first | exact ⟨rfl, h82⟩ | exact ⟨rfl, fun _ _ => rfl⟩
      · refine px_ieq rfl q_X0_letThrough_56 hg rfl trivial (fun c59 => ?_) (fun c59 => ?_)
        · refine px_riS rfl q_X0_letThrough_67 rfl rfl rfl hg rfl trivial ⟨⟨rfl, rfl⟩, ?_⟩
          first | exact ⟨rfl, h82⟩ | exact ⟨rfl, fun _ _ => rfl⟩
        · refine px_gt rfl q_X0_letThrough_62 hg rfl trivial (fun c64 => ?_) (fun c64 => ?_)
          · refine px_cVS (ci := 7) rfl q_X0_letThrough_69 hg rfl trivial lk_0_52 nm_X7_bound (c_bound hg _ _ _ _ _ (by assumption) (by assumption)) rfl rfl (px_lit hg rfl) rfl rfl rfl ⟨rfl, rfl⟩ ?_
            intro x82 I82 L82 h82
            obtain ⟨rfl, h82⟩ := h82
            refine px_ine rfl q_X0_letThrough_85 hg rfl trivial (fun c91 => ?_) (fun c91 => ?_)
            · refine px_cSQ rfl q_X0_letThrough_96 hg rfl trivial lk_0_61 nm_J9_floorDiv_f86c9 (j_floorDiv hg _ _ (px_nz64 (by grind))) rfl rfl rfl ⟨rfl, rfl⟩ ?_
              intro x106 h106
              refine px_cVP (ci := 1) rfl q_X0_letThrough_109 hg rfl trivial lk_0_67 nm_X1_limeYears (c_limeYearsB hg _ _ _ (by assumption)) rfl rfl (px_lit hg rfl) rfl rfl rfl ⟨rfl, rfl⟩ ?_
              intro x120 h120
              refine px_cSP rfl q_X0_letThrough_123 hg rfl ⟨⟨trivial, (by first | decide | with_reducible assumption)⟩, (by first | decide | with_reducible assumption)⟩ lk_0_74 nm_J9_max_7cf53 (j_max hg _ _) rfl rfl rfl ⟨rfl, rfl⟩ ?_
              intro x141 h141
              refine px_cSP rfl q_X0_letThrough_144 hg rfl trivial lk_0_78 nm_X0_classOf (c_classOf hg _) rfl rfl rfl ⟨rfl, rfl⟩ ?_
              intro x152 h152
              have h9 : 0 ≤ x152 ∧ x152 < 10 := by grind
              refine px_riS rfl q_X0_letThrough_155 rfl rfl rfl hg rfl ⟨⟨trivial, (by first | decide | with_reducible assumption)⟩, (by first | decide | with_reducible assumption)⟩ ⟨⟨rfl, rfl⟩, ?_⟩
              first | exact ⟨rfl, h82⟩ | exact ⟨rfl, fun _ _ => rfl⟩
            · refine px_riS rfl q_X0_letThrough_94 rfl rfl rfl hg rfl trivial ⟨⟨rfl, rfl⟩, ?_⟩
              first | exact ⟨rfl, h82⟩ | exact ⟨rfl, fun _ _ => rfl⟩
          · refine px_riS rfl q_X0_letThrough_67 rfl rfl rfl hg rfl trivial ⟨⟨rfl, rfl⟩, ?_⟩
            first | exact ⟨rfl, h82⟩ | exact ⟨rfl, fun _ _ => rfl⟩
    · refine px_ieq rfl q_X0_letThrough_33 hg rfl ⟨trivial, (by first | decide | with_reducible assumption)⟩ (fun c53 => ?_) (fun c53 => ?_)
      · refine px_riS rfl q_X0_letThrough_67 rfl rfl rfl hg rfl trivial ⟨⟨rfl, rfl⟩, ?_⟩
        first | exact ⟨rfl, h82⟩ | exact ⟨rfl, fun _ _ => rfl⟩
      · refine px_ieq rfl q_X0_letThrough_56 hg rfl trivial (fun c59 => ?_) (fun c59 => ?_)
        · refine px_riS rfl q_X0_letThrough_67 rfl rfl rfl hg rfl trivial ⟨⟨rfl, rfl⟩, ?_⟩
          first | exact ⟨rfl, h82⟩ | exact ⟨rfl, fun _ _ => rfl⟩
        · refine px_gt rfl q_X0_letThrough_62 hg rfl trivial (fun c64 => ?_) (fun c64 => ?_)
          · refine px_cVS (ci := 7) rfl q_X0_letThrough_69 hg rfl trivial lk_0_52 nm_X7_bound (c_bound hg _ _ _ _ _ (by assumption) (by assumption)) rfl rfl (px_lit hg rfl) rfl rfl rfl ⟨rfl, rfl⟩ ?_
            intro x82 I82 L82 h82
            obtain ⟨rfl, h82⟩ := h82
            refine px_ine rfl q_X0_letThrough_85 hg rfl trivial (fun c91 => ?_) (fun c91 => ?_)
            · refine px_cSQ rfl q_X0_letThrough_96 hg rfl trivial lk_0_61 nm_J9_floorDiv_f86c9 (j_floorDiv hg _ _ (px_nz64 (by grind))) rfl rfl rfl ⟨rfl, rfl⟩ ?_
              intro x106 h106
              refine px_cVP (ci := 1) rfl q_X0_letThrough_109 hg rfl trivial lk_0_67 nm_X1_limeYears (c_limeYearsB hg _ _ _ (by assumption)) rfl rfl (px_lit hg rfl) rfl rfl rfl ⟨rfl, rfl⟩ ?_
              intro x120 h120
              refine px_cSP rfl q_X0_letThrough_123 hg rfl ⟨⟨trivial, (by first | decide | with_reducible assumption)⟩, (by first | decide | with_reducible assumption)⟩ lk_0_74 nm_J9_max_7cf53 (j_max hg _ _) rfl rfl rfl ⟨rfl, rfl⟩ ?_
              intro x141 h141
              refine px_cSP rfl q_X0_letThrough_144 hg rfl trivial lk_0_78 nm_X0_classOf (c_classOf hg _) rfl rfl rfl ⟨rfl, rfl⟩ ?_
              intro x152 h152
              have h9 : 0 ≤ x152 ∧ x152 < 10 := by grind
              refine px_riS rfl q_X0_letThrough_155 rfl rfl rfl hg rfl ⟨⟨trivial, (by first | decide | with_reducible assumption)⟩, (by first | decide | with_reducible assumption)⟩ ⟨⟨rfl, rfl⟩, ?_⟩
              first | exact ⟨rfl, h82⟩ | exact ⟨rfl, fun _ _ => rfl⟩
            · refine px_riS rfl q_X0_letThrough_94 rfl rfl rfl hg rfl trivial ⟨⟨rfl, rfl⟩, ?_⟩
              first | exact ⟨rfl, h82⟩ | exact ⟨rfl, fun _ _ => rfl⟩
          · refine px_riS rfl q_X0_letThrough_67 rfl rfl rfl hg rfl trivial ⟨⟨rfl, rfl⟩, ?_⟩
            first | exact ⟨rfl, h82⟩ | exact ⟨rfl, fun _ _ => rfl⟩
  · replace h2 := px_bf h2 c5
    refine px_riS rfl q_X0_letThrough_8 rfl rfl rfl hg rfl trivial ⟨⟨rfl, rfl⟩, ?_⟩
    first | exact ⟨rfl, h82⟩ | exact ⟨rfl, fun _ _ => rfl⟩

set_option maxRecDepth 100000 in
theorem l_tightB {n : Nat} {R : px_R} (hg : px_G n R) {Q : px_Q} (y k h : Int32) {I0 : px_I} (L0 : px_L) (hp : 0 ≤ I0 55 13 ∧ I0 55 13 ≤ 20) (hr : I0 55 15 ≤ 30) (hs : 0 ≤ I0 33 8 ∧ I0 33 8 ≤ 80) (hn : I0 33 7 ≤ 24) (hq : ∀ r I2 L2, cLI I0 I2 → cDL L0 L2 → Q (some (.int r)) n I2 L2 R) : ∀ p : Int32, p ≤ 20 → 1 ≤ p → ∀ (t : Int32) (I : px_I) (L : px_L), cLI I0 I → cDL L0 L → px M_X0_tightest 0 0 6 [(0, .ref 101), (1, .ref 55), (2, .int y), (3, .int k), (4, .int h), (5, .int t), (6, .int p)] [] n I L R Q := by
  refine px_up 20 (fun p ih hi => ?_)
  intro h0 t I L h1 h2
  have e13 : I 55 13 = I0 55 13 := h1 55 13 (by decide)
  have hp1 : 0 ≤ I 55 13 ∧ I 55 13 ≤ 20 := by rw [e13]; exact hp
  have hr1 : I 55 15 ≤ 30 := by rw [h1 55 15 (by decide)]; exact hr
  have hs1 : 0 ≤ I 33 8 ∧ I 33 8 ≤ 80 := by rw [h1 33 8 (by decide)]; exact hs
  have hn1 : I 33 7 ≤ 24 := by rw [h1 33 7 (by decide)]; exact hn
  refine px_ige rfl q_X0_tightest_6 hg rfl trivial (fun c12 => ?_) (fun c12 => ?_)
  · refine px_ri rfl q_X0_tightest_67 rfl rfl rfl hg rfl trivial ?_
    first | exact hq _ _ _ h1 h23 | exact hq _ _ _ h1 h2
  · refine px_cVS (ci := 0) rfl q_X0_tightest_15 hg rfl trivial lk_0_35 nm_X0_letThrough (c_letB hg _ _ _ _ hp1 hr1 hs1 hn1) rfl rfl (px_lit hg rfl) rfl rfl rfl ⟨rfl, rfl⟩ ?_
    intro x23 I23 L23 h23
    obtain ⟨rfl, h23⟩ := h23
    replace h23 := h2.trans h23
    refine px_ine rfl q_X0_tightest_26 hg rfl trivial (fun c31 => ?_) (fun c31 => ?_)
    · refine px_ieq rfl q_X0_tightest_36 hg rfl trivial (fun c39 => ?_) (fun c39 => ?_)
      · refine px_b rfl q_X0_tightest_51 hg rfl trivial ?_
        first | exact px_go (ih (p + 1) (by grind) (by grind) (by grind) _ _ _ (h1.u _) h23) ⟨rfl, rfl, rfl, rfl, rfl, rfl, rfl, trivial⟩ | exact px_go (ih (p + 1) (by grind) (by grind) (by grind) _ _ _ h1 h23) ⟨rfl, rfl, rfl, rfl, rfl, rfl, rfl, trivial⟩
      · refine px_ige rfl q_X0_tightest_42 hg rfl trivial (fun c48 => ?_) (fun c48 => ?_)
        · refine px_b rfl q_X0_tightest_61 hg rfl trivial ?_
          first | exact px_go (ih (p + 1) (by grind) (by grind) (by grind) _ _ _ (h1.u _) h23) ⟨rfl, rfl, rfl, rfl, rfl, rfl, rfl, trivial⟩ | exact px_go (ih (p + 1) (by grind) (by grind) (by grind) _ _ _ h1 h23) ⟨rfl, rfl, rfl, rfl, rfl, rfl, rfl, trivial⟩
        · refine px_b rfl q_X0_tightest_51 hg rfl trivial ?_
          first | exact px_go (ih (p + 1) (by grind) (by grind) (by grind) _ _ _ (h1.u _) h23) ⟨rfl, rfl, rfl, rfl, rfl, rfl, rfl, trivial⟩ | exact px_go (ih (p + 1) (by grind) (by grind) (by grind) _ _ _ h1 h23) ⟨rfl, rfl, rfl, rfl, rfl, rfl, rfl, trivial⟩
    · refine px_ri rfl q_X0_tightest_34 rfl rfl rfl hg rfl trivial ?_
      first | exact hq _ _ _ h1 h23 | exact hq _ _ _ h1 h2

set_option maxRecDepth 100000 in
theorem c_tightB {n : Nat} {I : px_I} {L : px_L} {R : px_R} (hg : px_G n R) (y k h : Int32) (hp : 0 ≤ I 55 13 ∧ I 55 13 ≤ 20) (hr : I 55 15 ≤ 30) (hs : 0 ≤ I 33 8 ∧ I 33 8 ≤ 80) (hn : I 33 7 ≤ 24) : px_KS M_X0_tightest [.ref 101, .ref 55, .int y, .int k, .int h] n I L R (fun r I2 L2 => cLI I I2 ∧ cDL L L2) := by
  refine px_of (plainFor_of_name np_RX0) (fun _ _ _ => trivial) rfl ?_
  refine px_b rfl q_X0_tightest_0 hg rfl trivial ?_
  exact px_go (l_tightB hg y k h L hp hr hs hn (fun r I2 L2 h1 h2 => ⟨rfl, rfl, r, rfl, h1, h2⟩) 1 (by decide) (by decide) (-1) I L (fun _ _ _ => rfl) (fun _ _ => rfl)) ⟨rfl, rfl, rfl, rfl, rfl, rfl, rfl, trivial⟩
