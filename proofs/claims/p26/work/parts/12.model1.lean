/-! the reference: small reads and writes -/
theorem px_64 (x y : Int32) : x.toInt64 ≤ y.toInt64 ↔ x ≤ y := by rw [Int64.le_iff_toInt_le, Int32.le_iff_toInt_le, Int32.toInt_toInt64, Int32.toInt_toInt64]
theorem px_64l (x y : Int32) : x.toInt64 < y.toInt64 ↔ x < y := by rw [Int64.lt_iff_toInt_lt, Int32.lt_iff_toInt_lt, Int32.toInt_toInt64, Int32.toInt_toInt64]
theorem px_ur {α : Type} (f : Nat → Nat → α) (a k : Nat) (v : α) (b j : Nat) : px_u f a k v b j = if b = a then (if j = k then v else f b j) else f b j := rfl
theorem px_bt {x : Int32} {P : Prop} (h : (x = 1 ∧ P) ∨ (x = 0 ∧ ¬ P)) (c : ¬ x = 0) : P := h.elim (fun h => h.2) (fun h => absurd h.1 c)
theorem px_bf {x : Int32} {P : Prop} (h : (x = 1 ∧ P) ∨ (x = 0 ∧ ¬ P)) (c : x = 0) : ¬ P := h.elim (fun h => absurd (h.1.symm.trans c) (by decide)) (fun h => h.2)
/-- nothing changes but where S says so -/
def px_fr {α : Type} (S : Nat → Nat → Bool) (f g : Nat → Nat → α) : Prop := ∀ b j, S b j = false → g b j = f b j

theorem q_X12_in_0 : px_bk 12 6 cX12_in 0 [(.lload_n 0, (0, 0, 0, 0, 0), 0, 0), (.lload_n 2, (0, 0, 0, 0, 0), 0, 0), (.lcmp, (0, 0, 0, 0, 0), 0, 0)] = some 3 ∧ px_t1 cX12_in 3 .lt 17 = true := by decide +kernel
theorem q_X12_in_17 : px_bk 12 6 cX12_in 17 [(.iconst 0, (0, 0, 0, 0, 0), 0, 0)] = some 18 ∧ px_tr cX12_in 18 .ireturn = true := by decide +kernel
theorem q_X12_in_6 : px_bk 12 6 cX12_in 6 [(.lload_n 0, (0, 0, 0, 0, 0), 0, 0), (.lload 4, (0, 0, 0, 0, 0), 0, 0), (.lcmp, (0, 0, 0, 0, 0), 0, 0)] = some 10 ∧ px_t1 cX12_in 10 .gt 17 = true := by decide +kernel
theorem q_X12_in_13 : px_bk 12 6 cX12_in 13 [(.iconst 1, (0, 0, 0, 0, 0), 1, 0), (.goto 4, (0, 0, 0, 0, 0), 0, 0)] = some 18 ∧ px_tr cX12_in 18 .ireturn = true := by decide +kernel
set_option maxRecDepth 100000 in
theorem k_in {n : Nat} {I : px_I} {L : px_L} {R : px_R} (hg : px_G n R) (a b c : Int64) : px_KP M_X12_in [.long a, .long b, .long c] n I L R (fun r => (r = 1 ∧ b ≤ a ∧ a ≤ c) ∨ (r = 0 ∧ ¬ (b ≤ a ∧ a ≤ c))) := by
  refine px_of (plainFor_of_name np_RX12) (fun _ _ _ => trivial) rfl ?_
  refine px_llt rfl q_X12_in_0 hg rfl trivial (fun c3 => ?_) (fun c3 => ?_)
  · refine px_rzP rfl q_X12_in_17 rfl rfl rfl hg rfl trivial ⟨⟨rfl, rfl, rfl, rfl⟩, (by first | exact Or.inl rfl | exact Or.inr rfl | grind), ?_⟩
    grind
  · refine px_lgt rfl q_X12_in_6 hg rfl trivial (fun c10 => ?_) (fun c10 => ?_)
    · refine px_rzP rfl q_X12_in_17 rfl rfl rfl hg rfl trivial ⟨⟨rfl, rfl, rfl, rfl⟩, (by first | exact Or.inl rfl | exact Or.inr rfl | grind), ?_⟩
      grind
    · refine px_rzP rfl q_X12_in_13 rfl rfl rfl hg rfl trivial ⟨⟨rfl, rfl, rfl, rfl⟩, (by first | exact Or.inl rfl | exact Or.inr rfl | grind), ?_⟩
      grind

theorem k_inI {n : Nat} {I : px_I} {L : px_L} {R : px_R} (hg : px_G n R) (x lo hi : Int32) {low high : Int64} (h1 : low = lo.toInt64) (h2 : high = hi.toInt64) : px_KP M_X12_in [.long x.toInt64, .long low, .long high] n I L R (fun r => (r = 1 ∧ lo ≤ x ∧ x ≤ hi) ∨ (r = 0 ∧ ¬ (lo ≤ x ∧ x ≤ hi))) := by
  subst h1; subst h2
  exact px_K.mono (k_in hg _ _ _) (fun r n' I' L' R' ⟨h3, h4, x, h5, h6, h7, h8⟩ => ⟨h3, h4, x, h5, h6, h7, by rw [px_64, px_64] at h8; exact h8⟩)

theorem q_X12_isStation_0 : px_bk 12 2 cX12_isStation 0 [(.iload_n 1, (0, 0, 0, 0, 0), 0, 0), (.i2l, (0, 0, 0, 0, 0), 0, 0), (.lconst 0, (0, 0, 0, 0, 0), 0, 0), (.aload_n 0, (0, 0, 0, 0, 0), 0, 0), (.getfield 7, (12, 1, 0, 0, 0), 0, 0), (.iconst 1, (0, 0, 0, 0, 0), 1, 0), (.isub, (0, 0, 0, 0, 0), 0, 0), (.i2l, (0, 0, 0, 0, 0), 0, 0)] = some 10 ∧ px_tS cX12_isStation 10 167 = true := by decide +kernel
theorem q_X12_isStation_13 : px_bk 12 2 cX12_isStation 13 [] = some 13 ∧ px_tr cX12_isStation 13 .ireturn = true := by decide +kernel
set_option maxRecDepth 100000 in
theorem k_isStation {n : Nat} {I : px_I} {L : px_L} {R : px_R} (hg : px_G n R) (x : Int32) : px_KP M_X12_isStation [.ref 103, .int x] n I L R (fun r => (r = 1 ∧ 0 ≤ x ∧ x ≤ I 103 1 - 1) ∨ (r = 0 ∧ ¬ (0 ≤ x ∧ x ≤ I 103 1 - 1))) := by
  refine px_of (plainFor_of_name np_RX12) (fun _ _ _ => trivial) rfl ?_
  refine px_cSP rfl q_X12_isStation_0 hg rfl trivial lk_12_167 nm_X12_in (k_inI hg _ (0) _ (by decide) rfl) rfl rfl rfl ⟨rfl, rfl⟩ ?_
  intro x10 h10
  refine px_rzP rfl q_X12_isStation_13 rfl rfl rfl hg rfl trivial ⟨⟨rfl, rfl, rfl, rfl⟩, (by first | exact Or.inl rfl | exact Or.inr rfl | grind), ?_⟩
  grind

theorem q_X12_isAxis_0 : px_bk 12 1 cX12_isAxis 0 [(.iload_n 0, (0, 0, 0, 0, 0), 0, 0), (.i2l, (0, 0, 0, 0, 0), 0, 0), (.lconst 0, (0, 0, 0, 0, 0), 0, 0), (.ldc2_w 171, (0, 0, 0, 0, 0), 0, 2)] = some 6 ∧ px_tS cX12_isAxis 6 167 = true := by decide +kernel
theorem q_X12_isAxis_9 : px_bk 12 1 cX12_isAxis 9 [] = some 9 ∧ px_tr cX12_isAxis 9 .ireturn = true := by decide +kernel
set_option maxRecDepth 100000 in
theorem k_isAxis {n : Nat} {I : px_I} {L : px_L} {R : px_R} (hg : px_G n R) (x : Int32) : px_KP M_X12_isAxis [.int x] n I L R (fun r => (r = 1 ∧ 0 ≤ x ∧ x ≤ 2) ∨ (r = 0 ∧ ¬ (0 ≤ x ∧ x ≤ 2))) := by
  refine px_of (plainFor_of_name np_RX12) (fun _ _ _ => trivial) rfl ?_
  refine px_cSP rfl q_X12_isAxis_0 hg rfl trivial lk_12_167 nm_X12_in (k_inI hg _ (0) (2) (by decide) (by decide)) rfl rfl rfl ⟨rfl, rfl⟩ ?_
  intro x6 h6
  refine px_rzP rfl q_X12_isAxis_9 rfl rfl rfl hg rfl trivial ⟨⟨rfl, rfl, rfl, rfl⟩, (by first | exact Or.inl rfl | exact Or.inr rfl | grind), ?_⟩
  grind

theorem q_X12_isKnown_0 : px_bk 12 1 cX12_isKnown 0 [(.iload_n 0, (0, 0, 0, 0, 0), 0, 0), (.i2l, (0, 0, 0, 0, 0), 0, 0), (.lconst 0, (0, 0, 0, 0, 0), 0, 0), (.ldc2_w 173, (0, 0, 0, 0, 0), 0, 9999)] = some 6 ∧ px_tS cX12_isKnown 6 167 = true := by decide +kernel
theorem q_X12_isKnown_9 : px_bk 12 1 cX12_isKnown 9 [] = some 9 ∧ px_tr cX12_isKnown 9 .ireturn = true := by decide +kernel
set_option maxRecDepth 100000 in
theorem k_isKnown {n : Nat} {I : px_I} {L : px_L} {R : px_R} (hg : px_G n R) (x : Int32) : px_KP M_X12_isKnown [.int x] n I L R (fun r => (r = 1 ∧ 0 ≤ x ∧ x ≤ 9999) ∨ (r = 0 ∧ ¬ (0 ≤ x ∧ x ≤ 9999))) := by
  refine px_of (plainFor_of_name np_RX12) (fun _ _ _ => trivial) rfl ?_
  refine px_cSP rfl q_X12_isKnown_0 hg rfl trivial lk_12_167 nm_X12_in (k_inI hg _ (0) (9999) (by decide) (by decide)) rfl rfl rfl ⟨rfl, rfl⟩ ?_
  intro x6 h6
  refine px_rzP rfl q_X12_isKnown_9 rfl rfl rfl hg rfl trivial ⟨⟨rfl, rfl, rfl, rfl⟩, (by first | exact Or.inl rfl | exact Or.inr rfl | grind), ?_⟩
  grind

theorem q_X12_isPeg_0 : px_bk 12 3 cX12_isPeg 0 [(.iload_n 1, (0, 0, 0, 0, 0), 0, 0), (.i2l, (0, 0, 0, 0, 0), 0, 0), (.lconst 0, (0, 0, 0, 0, 0), 0, 0), (.lconst 1, (0, 0, 0, 0, 0), 0, 1)] = some 4 ∧ px_tS cX12_isPeg 4 167 = true := by decide +kernel
theorem q_X12_isPeg_7 : px_bk 12 3 cX12_isPeg 7 [] = some 7 ∧ px_t1 cX12_isPeg 7 .eq 32 = true := by decide +kernel
theorem q_X12_isPeg_32 : px_bk 12 3 cX12_isPeg 32 [(.iconst 0, (0, 0, 0, 0, 0), 0, 0)] = some 33 ∧ px_tr cX12_isPeg 33 .ireturn = true := by decide +kernel
theorem q_X12_isPeg_10 : px_bk 12 3 cX12_isPeg 10 [(.iload_n 2, (0, 0, 0, 0, 0), 0, 0), (.i2l, (0, 0, 0, 0, 0), 0, 0), (.lconst 0, (0, 0, 0, 0, 0), 0, 0), (.aload_n 0, (0, 0, 0, 0, 0), 0, 0), (.getfield 32, (12, 9, 3, 110, 0), 0, 0), (.iload_n 1, (0, 0, 0, 0, 0), 0, 0), (.iaload, (0, 0, 0, 0, 0), 0, 0), (.iconst 1, (0, 0, 0, 0, 0), 1, 0), (.isub, (0, 0, 0, 0, 0), 0, 0), (.i2l, (0, 0, 0, 0, 0), 0, 0)] = some 22 ∧ px_tS cX12_isPeg 22 167 = true := by decide +kernel
theorem q_X12_isPeg_25 : px_bk 12 3 cX12_isPeg 25 [] = some 25 ∧ px_t1 cX12_isPeg 25 .eq 32 = true := by decide +kernel
theorem q_X12_isPeg_28 : px_bk 12 3 cX12_isPeg 28 [(.iconst 1, (0, 0, 0, 0, 0), 1, 0), (.goto 4, (0, 0, 0, 0, 0), 0, 0)] = some 33 ∧ px_tr cX12_isPeg 33 .ireturn = true := by decide +kernel
set_option maxRecDepth 100000 in
theorem k_isPeg {n : Nat} {I : px_I} {L : px_L} {R : px_R} (hg : px_G n R) (g p : Int32) : px_KP M_X12_isPeg [.ref 103, .int g, .int p] n I L R (fun r => (r = 1 ∧ 0 ≤ g ∧ g ≤ 1 ∧ 0 ≤ p ∧ p ≤ I 110 g.toNatClampNeg - 1) ∨ (r = 0 ∧ ¬ (0 ≤ g ∧ g ≤ 1 ∧ 0 ≤ p ∧ p ≤ I 110 g.toNatClampNeg - 1))) := by
  refine px_of (plainFor_of_name np_RX12) (fun _ _ _ => trivial) rfl ?_
  refine px_cSP rfl q_X12_isPeg_0 hg rfl trivial lk_12_167 nm_X12_in (k_inI hg _ (0) (1) (by decide) (by decide)) rfl rfl rfl ⟨rfl, rfl⟩ ?_
  intro x4 h4
  refine px_eq rfl q_X12_isPeg_7 hg rfl trivial (fun c7 => ?_) (fun c7 => ?_)
  · replace h4 := px_bf h4 c7
    refine px_rzP rfl q_X12_isPeg_32 rfl rfl rfl hg rfl trivial ⟨⟨rfl, rfl, rfl, rfl⟩, (by first | exact Or.inl rfl | exact Or.inr rfl | grind), ?_⟩
    grind
  · replace h4 := px_bt h4 c7
    refine px_cSP rfl q_X12_isPeg_10 hg rfl ⟨trivial, (by first | decide | (refine ⟨?_, ?_⟩ <;> grind) | grind)⟩ lk_12_167 nm_X12_in (k_inI hg _ (0) _ (by decide) rfl) rfl rfl rfl ⟨rfl, rfl⟩ ?_
    intro x22 h22
    refine px_eq rfl q_X12_isPeg_25 hg rfl trivial (fun c25 => ?_) (fun c25 => ?_)
    · replace h22 := px_bf h22 c25
      refine px_rzP rfl q_X12_isPeg_32 rfl rfl rfl hg rfl trivial ⟨⟨rfl, rfl, rfl, rfl⟩, (by first | exact Or.inl rfl | exact Or.inr rfl | grind), ?_⟩
      grind
    · replace h22 := px_bt h22 c25
      refine px_rzP rfl q_X12_isPeg_28 rfl rfl rfl hg rfl trivial ⟨⟨rfl, rfl, rfl, rfl⟩, (by first | exact Or.inl rfl | exact Or.inr rfl | grind), ?_⟩
      grind

theorem q_X12_days_0 : px_bk 12 2 cX12_days 0 [(.iload_n 1, (0, 0, 0, 0, 0), 0, 0), (.i2l, (0, 0, 0, 0, 0), 0, 0), (.lconst 1, (0, 0, 0, 0, 0), 0, 1), (.ldc2_w 175, (0, 0, 0, 0, 0), 0, 1000)] = some 6 ∧ px_tS cX12_days 6 167 = true := by decide +kernel
theorem q_X12_days_9 : px_bk 12 2 cX12_days 9 [] = some 9 ∧ px_t1 cX12_days 9 .eq 24 = true := by decide +kernel
theorem q_X12_days_24 : px_bk 12 2 cX12_days 24 [(.iconst (-1), (0, 0, 0, 0, 0), -1, 0)] = some 25 ∧ px_tr cX12_days 25 .ireturn = true := by decide +kernel
theorem q_X12_days_12 : px_bk 12 2 cX12_days 12 [(.aload_n 0, (0, 0, 0, 0, 0), 0, 0), (.getfield 177, (12, 0, 0, 0, 0), 0, 0), (.iload_n 1, (0, 0, 0, 0, 0), 0, 0), (.iadd, (0, 0, 0, 0, 0), 0, 0), (.sipush 9999, (0, 0, 0, 0, 0), 9999, 0)] = some 21 ∧ px_t2 cX12_days 21 .le 26 = true := by decide +kernel
theorem q_X12_days_26 : px_bk 12 2 cX12_days 26 [(.aload_n 0, (0, 0, 0, 0, 0), 0, 0), (.dup, (0, 0, 0, 0, 0), 0, 0), (.getfield 177, (12, 0, 0, 0, 0), 0, 0), (.iload_n 1, (0, 0, 0, 0, 0), 0, 0), (.iadd, (0, 0, 0, 0, 0), 0, 0), (.putfield 177, (12, 0, 0, 0, 0), 0, 0), (.aload_n 0, (0, 0, 0, 0, 0), 0, 0), (.getfield 177, (12, 0, 0, 0, 0), 0, 0)] = some 40 ∧ px_tr cX12_days 40 .ireturn = true := by decide +kernel
set_option maxRecDepth 100000 in
theorem k_days {n : Nat} {I : px_I} {L : px_L} {R : px_R} (hg : px_G n R) (x : Int32) : px_KS M_X12_days [.ref 103, .int x] n I L R (fun r I2 L2 => L2 = L ∧ ((1 ≤ x ∧ x ≤ 1000 ∧ I 103 0 + x ≤ 9999 ∧ r = I 103 0 + x ∧ I2 = px_u I 103 0 (I 103 0 + x)) ∨ (¬ (1 ≤ x ∧ x ≤ 1000 ∧ I 103 0 + x ≤ 9999) ∧ r = -1 ∧ I2 = I))) := by
  refine px_of (plainFor_of_name np_RX12) (fun _ _ _ => trivial) rfl ?_
  refine px_cSP rfl q_X12_days_0 hg rfl trivial lk_12_167 nm_X12_in (k_inI hg _ (1) (1000) (by decide) (by decide)) rfl rfl rfl ⟨rfl, rfl⟩ ?_
  intro x6 h6
  refine px_eq rfl q_X12_days_9 hg rfl trivial (fun c9 => ?_) (fun c9 => ?_)
  · replace h6 := px_bf h6 c9
    refine px_riS rfl q_X12_days_24 rfl rfl rfl hg rfl trivial ⟨⟨rfl, rfl⟩, ?_⟩
    grind [px_u_at]
  · replace h6 := px_bt h6 c9
    refine px_ile rfl q_X12_days_12 hg rfl trivial (fun c21 => ?_) (fun c21 => ?_)
    · refine px_riS rfl q_X12_days_26 rfl rfl rfl hg rfl trivial ⟨⟨rfl, rfl⟩, ?_⟩
      grind [px_u_at]
    · refine px_riS rfl q_X12_days_24 rfl rfl rfl hg rfl trivial ⟨⟨rfl, rfl⟩, ?_⟩
      grind [px_u_at]

theorem q_X12_station_0 : px_bk 12 1 cX12_station 0 [(.aload_n 0, (0, 0, 0, 0, 0), 0, 0), (.getfield 7, (12, 1, 0, 0, 0), 0, 0), (.bipush 24, (0, 0, 0, 0, 0), 24, 0)] = some 6 ∧ px_t2 cX12_station 6 .ne 11 = true := by decide +kernel
theorem q_X12_station_11 : px_bk 12 1 cX12_station 11 [(.aload_n 0, (0, 0, 0, 0, 0), 0, 0), (.dup, (0, 0, 0, 0, 0), 0, 0), (.getfield 7, (12, 1, 0, 0, 0), 0, 0), (.iconst 1, (0, 0, 0, 0, 0), 1, 0), (.iadd, (0, 0, 0, 0, 0), 0, 0), (.putfield 7, (12, 1, 0, 0, 0), 0, 0), (.aload_n 0, (0, 0, 0, 0, 0), 0, 0), (.getfield 7, (12, 1, 0, 0, 0), 0, 0), (.iconst 1, (0, 0, 0, 0, 0), 1, 0), (.isub, (0, 0, 0, 0, 0), 0, 0)] = some 27 ∧ px_tr cX12_station 27 .ireturn = true := by decide +kernel
theorem q_X12_station_9 : px_bk 12 1 cX12_station 9 [(.iconst (-1), (0, 0, 0, 0, 0), -1, 0)] = some 10 ∧ px_tr cX12_station 10 .ireturn = true := by decide +kernel
set_option maxRecDepth 100000 in
theorem k_station {n : Nat} {I : px_I} {L : px_L} {R : px_R} (hg : px_G n R)  : px_KS M_X12_station [.ref 103] n I L R (fun r I2 L2 => L2 = L ∧ ((I 103 1 ≠ 24 ∧ r = I 103 1 ∧ I2 = px_u I 103 1 (I 103 1 + 1)) ∨ (I 103 1 = 24 ∧ r = -1 ∧ I2 = I))) := by
  refine px_of (plainFor_of_name np_RX12) (fun _ _ _ => trivial) rfl ?_
  refine px_ine rfl q_X12_station_0 hg rfl trivial (fun c6 => ?_) (fun c6 => ?_)
  · refine px_riS rfl q_X12_station_11 rfl rfl rfl hg rfl trivial ⟨⟨rfl, rfl⟩, ?_⟩
    grind [px_u_at]
  · refine px_riS rfl q_X12_station_9 rfl rfl rfl hg rfl trivial ⟨⟨rfl, rfl⟩, ?_⟩
    grind [px_u_at]

theorem q_X12_sight_0 : px_bk 12 6 cX12_sight 0 [(.iload_n 1, (0, 0, 0, 0, 0), 0, 0)] = some 1 ∧ px_tS cX12_sight 1 180 = true := by decide +kernel
theorem q_X12_sight_4 : px_bk 12 6 cX12_sight 4 [] = some 4 ∧ px_t1 cX12_sight 4 .eq 67 = true := by decide +kernel
theorem q_X12_sight_67 : px_bk 12 6 cX12_sight 67 [(.iconst (-1), (0, 0, 0, 0, 0), -1, 0)] = some 68 ∧ px_tr cX12_sight 68 .ireturn = true := by decide +kernel
theorem q_X12_sight_7 : px_bk 12 6 cX12_sight 7 [(.aload_n 0, (0, 0, 0, 0, 0), 0, 0), (.iload_n 2, (0, 0, 0, 0, 0), 0, 0)] = some 9 ∧ px_tv cX12_sight 9 184 = true := by decide +kernel
theorem q_X12_sight_12 : px_bk 12 6 cX12_sight 12 [] = some 12 ∧ px_t1 cX12_sight 12 .eq 67 = true := by decide +kernel
theorem q_X12_sight_15 : px_bk 12 6 cX12_sight 15 [(.aload_n 0, (0, 0, 0, 0, 0), 0, 0), (.iload_n 3, (0, 0, 0, 0, 0), 0, 0)] = some 17 ∧ px_tv cX12_sight 17 184 = true := by decide +kernel
theorem q_X12_sight_20 : px_bk 12 6 cX12_sight 20 [] = some 20 ∧ px_t1 cX12_sight 20 .eq 67 = true := by decide +kernel
theorem q_X12_sight_23 : px_bk 12 6 cX12_sight 23 [(.iload_n 2, (0, 0, 0, 0, 0), 0, 0), (.iload_n 3, (0, 0, 0, 0, 0), 0, 0)] = some 25 ∧ px_t2 cX12_sight 25 .eq 67 = true := by decide +kernel
theorem q_X12_sight_28 : px_bk 12 6 cX12_sight 28 [(.iload 4, (0, 0, 0, 0, 0), 0, 0), (.i2l, (0, 0, 0, 0, 0), 0, 0), (.ldc2_w 187, (0, 0, 0, 0, 0), 0, -1000000), (.ldc2_w 189, (0, 0, 0, 0, 0), 0, 1000000)] = some 37 ∧ px_tS cX12_sight 37 167 = true := by decide +kernel
theorem q_X12_sight_40 : px_bk 12 6 cX12_sight 40 [] = some 40 ∧ px_t1 cX12_sight 40 .eq 67 = true := by decide +kernel
theorem q_X12_sight_43 : px_bk 12 6 cX12_sight 43 [(.iload 5, (0, 0, 0, 0, 0), 0, 0), (.i2l, (0, 0, 0, 0, 0), 0, 0), (.iload 4, (0, 0, 0, 0, 0), 0, 0), (.i2l, (0, 0, 0, 0, 0), 0, 0), (.ldc2_w 189, (0, 0, 0, 0, 0), 0, 1000000)] = some 52 ∧ px_tS cX12_sight 52 167 = true := by decide +kernel
theorem q_X12_sight_55 : px_bk 12 6 cX12_sight 55 [] = some 55 ∧ px_t1 cX12_sight 55 .eq 67 = true := by decide +kernel
theorem q_X12_sight_58 : px_bk 12 6 cX12_sight 58 [(.aload_n 0, (0, 0, 0, 0, 0), 0, 0), (.getfield 191, (12, 2, 0, 0, 0), 0, 0), (.bipush 80, (0, 0, 0, 0, 0), 80, 0)] = some 64 ∧ px_t2 cX12_sight 64 .ne 69 = true := by decide +kernel
theorem q_X12_sight_69 : px_bk 12 6 cX12_sight 69 [(.aload_n 0, (0, 0, 0, 0, 0), 0, 0), (.getfield 13, (12, 3, 3, 104, 0), 0, 0), (.aload_n 0, (0, 0, 0, 0, 0), 0, 0), (.getfield 191, (12, 2, 0, 0, 0), 0, 0), (.iload_n 1, (0, 0, 0, 0, 0), 0, 0), (.iastore, (0, 0, 0, 0, 0), 0, 0), (.aload_n 0, (0, 0, 0, 0, 0), 0, 0), (.getfield 17, (12, 4, 3, 105, 0), 0, 0), (.aload_n 0, (0, 0, 0, 0, 0), 0, 0), (.getfield 191, (12, 2, 0, 0, 0), 0, 0), (.iload_n 2, (0, 0, 0, 0, 0), 0, 0), (.iastore, (0, 0, 0, 0, 0), 0, 0), (.aload_n 0, (0, 0, 0, 0, 0), 0, 0), (.getfield 20, (12, 5, 3, 106, 0), 0, 0), (.aload_n 0, (0, 0, 0, 0, 0), 0, 0), (.getfield 191, (12, 2, 0, 0, 0), 0, 0), (.iload_n 3, (0, 0, 0, 0, 0), 0, 0), (.iastore, (0, 0, 0, 0, 0), 0, 0), (.aload_n 0, (0, 0, 0, 0, 0), 0, 0), (.getfield 23, (12, 6, 3, 107, 0), 0, 0), (.aload_n 0, (0, 0, 0, 0, 0), 0, 0), (.getfield 191, (12, 2, 0, 0, 0), 0, 0), (.iload 4, (0, 0, 0, 0, 0), 0, 0), (.iastore, (0, 0, 0, 0, 0), 0, 0), (.aload_n 0, (0, 0, 0, 0, 0), 0, 0), (.getfield 26, (12, 7, 3, 108, 0), 0, 0), (.aload_n 0, (0, 0, 0, 0, 0), 0, 0), (.getfield 191, (12, 2, 0, 0, 0), 0, 0), (.iload 5, (0, 0, 0, 0, 0), 0, 0), (.iastore, (0, 0, 0, 0, 0), 0, 0), (.aload_n 0, (0, 0, 0, 0, 0), 0, 0), (.getfield 29, (12, 8, 3, 109, 0), 0, 0), (.aload_n 0, (0, 0, 0, 0, 0), 0, 0), (.getfield 191, (12, 2, 0, 0, 0), 0, 0), (.aload_n 0, (0, 0, 0, 0, 0), 0, 0), (.getfield 177, (12, 0, 0, 0, 0), 0, 0), (.iastore, (0, 0, 0, 0, 0), 0, 0), (.aload_n 0, (0, 0, 0, 0, 0), 0, 0), (.dup, (0, 0, 0, 0, 0), 0, 0), (.getfield 191, (12, 2, 0, 0, 0), 0, 0), (.iconst 1, (0, 0, 0, 0, 0), 1, 0), (.iadd, (0, 0, 0, 0, 0), 0, 0), (.putfield 191, (12, 2, 0, 0, 0), 0, 0), (.aload_n 0, (0, 0, 0, 0, 0), 0, 0), (.getfield 191, (12, 2, 0, 0, 0), 0, 0), (.iconst 1, (0, 0, 0, 0, 0), 1, 0), (.isub, (0, 0, 0, 0, 0), 0, 0)] = some 150 ∧ px_tr cX12_sight 150 .ireturn = true := by decide +kernel
set_option maxRecDepth 100000 in
theorem k_sight {n : Nat} {I : px_I} {L : px_L} {R : px_R} (hg : px_G n R) (a f t lo hi : Int32) (hs : 0 ≤ I 103 2 ∧ I 103 2 ≤ 80) : px_KS M_X12_sight [.ref 103, .int a, .int f, .int t, .int lo, .int hi] n I L R (fun r I2 L2 => L2 = L ∧ ((((0 ≤ a ∧ a ≤ 2) ∧ (0 ≤ f ∧ f ≤ I 103 1 - 1) ∧ (0 ≤ t ∧ t ≤ I 103 1 - 1) ∧ f ≠ t ∧ (-1000000 ≤ lo ∧ lo ≤ 1000000) ∧ (lo ≤ hi ∧ hi ≤ 1000000) ∧ I 103 2 ≠ 80) ∧ r = I 103 2 ∧ I2 = px_u (px_u (px_u (px_u (px_u (px_u (px_u I 104 (I 103 2).toNatClampNeg a) 105 (I 103 2).toNatClampNeg f) 106 (I 103 2).toNatClampNeg t) 107 (I 103 2).toNatClampNeg lo) 108 (I 103 2).toNatClampNeg hi) 109 (I 103 2).toNatClampNeg (I 103 0)) 103 2 (I 103 2 + 1)) ∨
  (¬ ((0 ≤ a ∧ a ≤ 2) ∧ (0 ≤ f ∧ f ≤ I 103 1 - 1) ∧ (0 ≤ t ∧ t ≤ I 103 1 - 1) ∧ f ≠ t ∧ (-1000000 ≤ lo ∧ lo ≤ 1000000) ∧ (lo ≤ hi ∧ hi ≤ 1000000) ∧ I 103 2 ≠ 80) ∧ r = -1 ∧ I2 = I))) := by
  refine px_of (plainFor_of_name np_RX12) (fun _ _ _ => trivial) rfl ?_
  refine px_cSP rfl q_X12_sight_0 hg rfl trivial lk_12_180 nm_X12_isAxis (k_isAxis hg _) rfl rfl rfl ⟨rfl, rfl⟩ ?_
  intro x1 h1
  refine px_eq rfl q_X12_sight_4 hg rfl trivial (fun c4 => ?_) (fun c4 => ?_)
  · replace h1 := px_bf h1 c4
    refine px_riS rfl q_X12_sight_67 rfl rfl rfl hg rfl trivial ⟨⟨rfl, rfl⟩, ?_⟩
    grind
  · replace h1 := px_bt h1 c4
    refine px_cVP (ci := 12) rfl q_X12_sight_7 hg rfl trivial lk_12_184 nm_X12_isStation (k_isStation hg _) rfl rfl (px_lit hg rfl) rfl rfl rfl ⟨rfl, rfl⟩ ?_
    intro x9 h9
    refine px_eq rfl q_X12_sight_12 hg rfl trivial (fun c12 => ?_) (fun c12 => ?_)
    · replace h9 := px_bf h9 c12
      refine px_riS rfl q_X12_sight_67 rfl rfl rfl hg rfl trivial ⟨⟨rfl, rfl⟩, ?_⟩
      grind
    · replace h9 := px_bt h9 c12
      refine px_cVP (ci := 12) rfl q_X12_sight_15 hg rfl trivial lk_12_184 nm_X12_isStation (k_isStation hg _) rfl rfl (px_lit hg rfl) rfl rfl rfl ⟨rfl, rfl⟩ ?_
      intro x17 h17
      refine px_eq rfl q_X12_sight_20 hg rfl trivial (fun c20 => ?_) (fun c20 => ?_)
      · replace h17 := px_bf h17 c20
        refine px_riS rfl q_X12_sight_67 rfl rfl rfl hg rfl trivial ⟨⟨rfl, rfl⟩, ?_⟩
        grind
      · replace h17 := px_bt h17 c20
        refine px_ieq rfl q_X12_sight_23 hg rfl trivial (fun c25 => ?_) (fun c25 => ?_)
        · refine px_riS rfl q_X12_sight_67 rfl rfl rfl hg rfl trivial ⟨⟨rfl, rfl⟩, ?_⟩
          grind
        · refine px_cSP rfl q_X12_sight_28 hg rfl trivial lk_12_167 nm_X12_in (k_inI hg _ (-1000000) (1000000) (by decide) (by decide)) rfl rfl rfl ⟨rfl, rfl⟩ ?_
          intro x37 h37
          refine px_eq rfl q_X12_sight_40 hg rfl trivial (fun c40 => ?_) (fun c40 => ?_)
          · replace h37 := px_bf h37 c40
            refine px_riS rfl q_X12_sight_67 rfl rfl rfl hg rfl trivial ⟨⟨rfl, rfl⟩, ?_⟩
            grind
          · replace h37 := px_bt h37 c40
            refine px_cSP rfl q_X12_sight_43 hg rfl trivial lk_12_167 nm_X12_in (k_inI hg _ _ (1000000) rfl (by decide)) rfl rfl rfl ⟨rfl, rfl⟩ ?_
            intro x52 h52
            refine px_eq rfl q_X12_sight_55 hg rfl trivial (fun c55 => ?_) (fun c55 => ?_)
            · replace h52 := px_bf h52 c55
              refine px_riS rfl q_X12_sight_67 rfl rfl rfl hg rfl trivial ⟨⟨rfl, rfl⟩, ?_⟩
              grind
            · replace h52 := px_bt h52 c55
              refine px_ine rfl q_X12_sight_58 hg rfl trivial (fun c64 => ?_) (fun c64 => ?_)
              · refine px_riS rfl q_X12_sight_69 rfl rfl rfl hg rfl ⟨⟨⟨⟨⟨⟨trivial, (by first | decide | (refine ⟨?_, ?_⟩ <;> grind) | grind)⟩, (by first | decide | (refine ⟨?_, ?_⟩ <;> grind) | grind)⟩, (by first | decide | (refine ⟨?_, ?_⟩ <;> grind) | grind)⟩, (by first | decide | (refine ⟨?_, ?_⟩ <;> grind) | grind)⟩, (by first | decide | (refine ⟨?_, ?_⟩ <;> grind) | grind)⟩, (by first | decide | (refine ⟨?_, ?_⟩ <;> grind) | grind)⟩ ⟨⟨rfl, rfl⟩, ?_⟩
                grind
              · refine px_riS rfl q_X12_sight_67 rfl rfl rfl hg rfl trivial ⟨⟨rfl, rfl⟩, ?_⟩
                grind
