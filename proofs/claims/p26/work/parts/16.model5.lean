/-! the reference: flow, seeking, what is asked about -/
def mRL (L L2 : px_L) : Prop := ∀ b, b ≠ 132 → L2 b = L b
def mNL (L L2 : px_L) : Prop := ∀ b, b ≠ 145 → b ≠ 146 → L2 b = L b
def mF (I : px_I) (g p : Int32) : Prop := (0 ≤ g ∧ g ≤ 1) ∧ 1 ≤ p ∧ p < I 110 g.toNatClampNeg ∧ 0 ≤ I 116 (20 * g + p).toNatClampNeg ∧ 0 ≤ I 116 (20 * g + p - 1).toNatClampNeg
theorem mK2 {g p P : Int32} (h1 : 0 ≤ g) (h2 : g ≤ 1) (h3 : 1 ≤ p) (h4 : p < P) (hP : P ≤ 20) : (0 ≤ 20 * g + p ∧ 20 * g + p < 40) ∧ (0 ≤ 20 * g + p - 1 ∧ 20 * g + p - 1 < 40) := by
  have h5 : p < 20 := by grind
  exact ⟨⟨by grind, by grind⟩, ⟨by grind, by grind⟩⟩
theorem px_le64 (x y : Int64) (h : x ≤ y) (h2 : y ≤ x) : x = y := by
  apply Int64.toInt_inj.mp
  have := Int64.le_iff_toInt_le.mp h
  have := Int64.le_iff_toInt_le.mp h2
  omega
theorem mCls {t : Int64} (h1 : 1 ≤ t) (h2 : t ≤ 16) : 0 ≤ (1 + t / 2).toInt32 ∧ (1 + t / 2).toInt32 < 10 := by
  have h3 := Int64.le_iff_toInt_le.mp h1
  have h4 := Int64.le_iff_toInt_le.mp h2
  have e1 : (1 : Int64).toInt = 1 := by decide
  have e2 : (16 : Int64).toInt = 16 := by decide
  rw [e1] at h3
  rw [e2] at h4
  have h5 : ∀ k : Nat, k < 17 → 1 ≤ k → 0 ≤ (1 + (Int64.ofNat k) / 2).toInt32 ∧ (1 + (Int64.ofNat k) / 2).toInt32 < 10 := by decide
  have h6 : t = Int64.ofNat t.toInt.toNat := by
    apply Int64.toInt_inj.mp
    rw [Int64.toInt_ofNat_of_lt (by omega)]
    omega
  rw [h6]
  exact h5 _ (by omega) (by omega)

theorem q_X12_off_0 : px_bk 12 5 cX12_off 0 [(.iload_n 1, (0, 0, 0, 0, 0), 0, 0), (.iload_n 2, (0, 0, 0, 0, 0), 0, 0), (.iadd, (0, 0, 0, 0, 0), 0, 0), (.istore 4, (0, 0, 0, 0, 0), 0, 0), (.iload_n 3, (0, 0, 0, 0, 0), 0, 0), (.aload_n 0, (0, 0, 0, 0, 0), 0, 0), (.getfield 450, (12, 59, 0, 0, 0), 0, 0)] = some 10 ∧ px_t2 cX12_off 10 .le 16 = true := by decide +kernel
theorem q_X12_off_16 : px_bk 12 5 cX12_off 16 [(.iload 4, (0, 0, 0, 0, 0), 0, 0)] = some 18 ∧ px_t1 cX12_off 18 .le 44 = true := by decide +kernel
theorem q_X12_off_44 : px_bk 12 5 cX12_off 44 [(.iload 4, (0, 0, 0, 0, 0), 0, 0), (.aload_n 0, (0, 0, 0, 0, 0), 0, 0), (.getfield 453, (12, 60, 0, 0, 0), 0, 0), (.ineg, (0, 0, 0, 0, 0), 0, 0)] = some 51 ∧ px_t2 cX12_off 51 .ge 64 = true := by decide +kernel
theorem q_X12_off_64 : px_bk 12 5 cX12_off 64 [(.iconst 0, (0, 0, 0, 0, 0), 0, 0)] = some 65 ∧ px_tr cX12_off 65 .ireturn = true := by decide +kernel
theorem q_X12_off_54 : px_bk 12 5 cX12_off 54 [(.iload 4, (0, 0, 0, 0, 0), 0, 0), (.aload_n 0, (0, 0, 0, 0, 0), 0, 0), (.getfield 453, (12, 60, 0, 0, 0), 0, 0), (.iadd, (0, 0, 0, 0, 0), 0, 0), (.goto 4, (0, 0, 0, 0, 0), 0, 0)] = some 65 ∧ px_tr cX12_off 65 .ireturn = true := by decide +kernel
theorem q_X12_off_21 : px_bk 12 5 cX12_off 21 [(.iload 4, (0, 0, 0, 0, 0), 0, 0), (.aload_n 0, (0, 0, 0, 0, 0), 0, 0), (.getfield 453, (12, 60, 0, 0, 0), 0, 0)] = some 27 ∧ px_t2 cX12_off 27 .le 40 = true := by decide +kernel
theorem q_X12_off_40 : px_bk 12 5 cX12_off 40 [(.iconst 0, (0, 0, 0, 0, 0), 0, 0), (.goto 24, (0, 0, 0, 0, 0), 0, 0)] = some 65 ∧ px_tr cX12_off 65 .ireturn = true := by decide +kernel
theorem q_X12_off_30 : px_bk 12 5 cX12_off 30 [(.iload 4, (0, 0, 0, 0, 0), 0, 0), (.aload_n 0, (0, 0, 0, 0, 0), 0, 0), (.getfield 453, (12, 60, 0, 0, 0), 0, 0), (.isub, (0, 0, 0, 0, 0), 0, 0), (.goto 28, (0, 0, 0, 0, 0), 0, 0)] = some 65 ∧ px_tr cX12_off 65 .ireturn = true := by decide +kernel
theorem q_X12_off_13 : px_bk 12 5 cX12_off 13 [(.iload 4, (0, 0, 0, 0, 0), 0, 0)] = some 15 ∧ px_tr cX12_off 15 .ireturn = true := by decide +kernel
set_option maxRecDepth 100000 in
theorem k_off {n : Nat} {I : px_I} {L : px_L} {R : px_R} (hg : px_G n R) (o b a : Int32) (h1 : -64 ≤ o + b) (h2 : o + b ≤ 64) (hp : 0 ≤ I 103 60) : px_KP M_X12_off [.ref 103, .int o, .int b, .int a] n I L R (fun r => -64 ≤ r ∧ r ≤ 64) := by
  refine px_of (plainFor_of_name np_RX12) (fun _ _ _ => trivial) rfl ?_
  refine px_ile rfl q_X12_off_0 hg rfl trivial (fun c10 => ?_) (fun c10 => ?_)
  · refine px_le rfl q_X12_off_16 hg rfl trivial (fun c18 => ?_) (fun c18 => ?_)
    · refine px_ige rfl q_X12_off_44 hg rfl trivial (fun c51 => ?_) (fun c51 => ?_)
      · refine px_riP rfl q_X12_off_64 rfl rfl rfl hg rfl trivial ⟨⟨rfl, rfl, rfl, rfl⟩, ?_⟩
        refine ⟨?_, ?_⟩ <;> grind
      · refine px_riP rfl q_X12_off_54 rfl rfl rfl hg rfl trivial ⟨⟨rfl, rfl, rfl, rfl⟩, ?_⟩
        refine ⟨?_, ?_⟩ <;> grind
    · refine px_ile rfl q_X12_off_21 hg rfl trivial (fun c27 => ?_) (fun c27 => ?_)
      · refine px_riP rfl q_X12_off_40 rfl rfl rfl hg rfl trivial ⟨⟨rfl, rfl, rfl, rfl⟩, ?_⟩
        refine ⟨?_, ?_⟩ <;> grind
      · refine px_riP rfl q_X12_off_30 rfl rfl rfl hg rfl trivial ⟨⟨rfl, rfl, rfl, rfl⟩, ?_⟩
        refine ⟨?_, ?_⟩ <;> grind
  · refine px_riP rfl q_X12_off_13 rfl rfl rfl hg rfl trivial ⟨⟨rfl, rfl, rfl, rfl⟩, ?_⟩
    refine ⟨?_, ?_⟩ <;> grind

theorem q_X12_along_0 : px_bk 12 4 cX12_along 0 [(.iload_n 0, (0, 0, 0, 0, 0), 0, 0), (.bipush 16, (0, 0, 0, 0, 0), 16, 0), (.irem, (0, 0, 0, 0, 0), 0, 0), (.istore_n 1, (0, 0, 0, 0, 0), 0, 0), (.iload_n 1, (0, 0, 0, 0, 0), 0, 0), (.bipush 8, (0, 0, 0, 0, 0), 8, 0), (.irem, (0, 0, 0, 0, 0), 0, 0), (.istore_n 2, (0, 0, 0, 0, 0), 0, 0), (.iload_n 2, (0, 0, 0, 0, 0), 0, 0)] = some 11 ∧ px_t1 cX12_along 11 .ne 20 = true := by decide +kernel
theorem q_X12_along_20 : px_bk 12 4 cX12_along 20 [(.iload_n 2, (0, 0, 0, 0, 0), 0, 0), (.iconst 1, (0, 0, 0, 0, 0), 1, 0)] = some 22 ∧ px_t2 cX12_along 22 .ne 31 = true := by decide +kernel
theorem q_X12_along_31 : px_bk 12 4 cX12_along 31 [(.iload_n 2, (0, 0, 0, 0, 0), 0, 0), (.iconst 2, (0, 0, 0, 0, 0), 2, 0)] = some 33 ∧ px_t2 cX12_along 33 .ne 42 = true := by decide +kernel
theorem q_X12_along_42 : px_bk 12 4 cX12_along 42 [(.iload_n 2, (0, 0, 0, 0, 0), 0, 0), (.iconst 3, (0, 0, 0, 0, 0), 3, 0)] = some 44 ∧ px_t2 cX12_along 44 .ne 53 = true := by decide +kernel
theorem q_X12_along_53 : px_bk 12 4 cX12_along 53 [(.iload_n 2, (0, 0, 0, 0, 0), 0, 0), (.iconst 4, (0, 0, 0, 0, 0), 4, 0)] = some 55 ∧ px_t2 cX12_along 55 .ne 62 = true := by decide +kernel
theorem q_X12_along_62 : px_bk 12 4 cX12_along 62 [(.iload_n 2, (0, 0, 0, 0, 0), 0, 0), (.iconst 5, (0, 0, 0, 0, 0), 5, 0)] = some 64 ∧ px_t2 cX12_along 64 .ne 73 = true := by decide +kernel
theorem q_X12_along_73 : px_bk 12 4 cX12_along 73 [(.iload_n 2, (0, 0, 0, 0, 0), 0, 0), (.bipush 6, (0, 0, 0, 0, 0), 6, 0)] = some 76 ∧ px_t2 cX12_along 76 .ne 85 = true := by decide +kernel
theorem q_X12_along_85 : px_bk 12 4 cX12_along 85 [(.sipush (-924), (0, 0, 0, 0, 0), -924, 0), (.istore_n 3, (0, 0, 0, 0, 0), 0, 0), (.iload_n 1, (0, 0, 0, 0, 0), 0, 0), (.bipush 8, (0, 0, 0, 0, 0), 8, 0)] = some 92 ∧ px_t2 cX12_along 92 .ge 99 = true := by decide +kernel
theorem q_X12_along_99 : px_bk 12 4 cX12_along 99 [(.iload_n 3, (0, 0, 0, 0, 0), 0, 0), (.ineg, (0, 0, 0, 0, 0), 0, 0)] = some 101 ∧ px_tr cX12_along 101 .ireturn = true := by decide +kernel
theorem q_X12_along_95 : px_bk 12 4 cX12_along 95 [(.iload_n 3, (0, 0, 0, 0, 0), 0, 0), (.goto 5, (0, 0, 0, 0, 0), 0, 0)] = some 101 ∧ px_tr cX12_along 101 .ireturn = true := by decide +kernel
theorem q_X12_along_79 : px_bk 12 4 cX12_along 79 [(.sipush (-707), (0, 0, 0, 0, 0), -707, 0), (.goto 6, (0, 0, 0, 0, 0), 0, 0), (.istore_n 3, (0, 0, 0, 0, 0), 0, 0), (.iload_n 1, (0, 0, 0, 0, 0), 0, 0), (.bipush 8, (0, 0, 0, 0, 0), 8, 0)] = some 92 ∧ px_t2 cX12_along 92 .ge 99 = true := by decide +kernel
theorem q_X12_along_67 : px_bk 12 4 cX12_along 67 [(.sipush (-383), (0, 0, 0, 0, 0), -383, 0), (.goto 18, (0, 0, 0, 0, 0), 0, 0), (.istore_n 3, (0, 0, 0, 0, 0), 0, 0), (.iload_n 1, (0, 0, 0, 0, 0), 0, 0), (.bipush 8, (0, 0, 0, 0, 0), 8, 0)] = some 92 ∧ px_t2 cX12_along 92 .ge 99 = true := by decide +kernel
theorem q_X12_along_58 : px_bk 12 4 cX12_along 58 [(.iconst 0, (0, 0, 0, 0, 0), 0, 0), (.goto 29, (0, 0, 0, 0, 0), 0, 0), (.istore_n 3, (0, 0, 0, 0, 0), 0, 0), (.iload_n 1, (0, 0, 0, 0, 0), 0, 0), (.bipush 8, (0, 0, 0, 0, 0), 8, 0)] = some 92 ∧ px_t2 cX12_along 92 .ge 99 = true := by decide +kernel
theorem q_X12_along_47 : px_bk 12 4 cX12_along 47 [(.sipush 383, (0, 0, 0, 0, 0), 383, 0), (.goto 38, (0, 0, 0, 0, 0), 0, 0), (.istore_n 3, (0, 0, 0, 0, 0), 0, 0), (.iload_n 1, (0, 0, 0, 0, 0), 0, 0), (.bipush 8, (0, 0, 0, 0, 0), 8, 0)] = some 92 ∧ px_t2 cX12_along 92 .ge 99 = true := by decide +kernel
theorem q_X12_along_36 : px_bk 12 4 cX12_along 36 [(.sipush 707, (0, 0, 0, 0, 0), 707, 0), (.goto 49, (0, 0, 0, 0, 0), 0, 0), (.istore_n 3, (0, 0, 0, 0, 0), 0, 0), (.iload_n 1, (0, 0, 0, 0, 0), 0, 0), (.bipush 8, (0, 0, 0, 0, 0), 8, 0)] = some 92 ∧ px_t2 cX12_along 92 .ge 99 = true := by decide +kernel
theorem q_X12_along_25 : px_bk 12 4 cX12_along 25 [(.sipush 924, (0, 0, 0, 0, 0), 924, 0), (.goto 60, (0, 0, 0, 0, 0), 0, 0), (.istore_n 3, (0, 0, 0, 0, 0), 0, 0), (.iload_n 1, (0, 0, 0, 0, 0), 0, 0), (.bipush 8, (0, 0, 0, 0, 0), 8, 0)] = some 92 ∧ px_t2 cX12_along 92 .ge 99 = true := by decide +kernel
theorem q_X12_along_14 : px_bk 12 4 cX12_along 14 [(.sipush 1000, (0, 0, 0, 0, 0), 1000, 0), (.goto 71, (0, 0, 0, 0, 0), 0, 0), (.istore_n 3, (0, 0, 0, 0, 0), 0, 0), (.iload_n 1, (0, 0, 0, 0, 0), 0, 0), (.bipush 8, (0, 0, 0, 0, 0), 8, 0)] = some 92 ∧ px_t2 cX12_along 92 .ge 99 = true := by decide +kernel
set_option maxRecDepth 100000 in
theorem k_along {n : Nat} {I : px_I} {L : px_L} {R : px_R} (hg : px_G n R) (x : Int32) : px_KP M_X12_along [.int x] n I L R (fun r => True) := by
  refine px_of (plainFor_of_name np_RX12) (fun _ _ _ => trivial) rfl ?_
  refine px_ne rfl q_X12_along_0 hg rfl ⟨⟨trivial, (by first | decide | (refine ⟨?_, ?_⟩ <;> grind) | grind)⟩, (by first | decide | (refine ⟨?_, ?_⟩ <;> grind) | grind)⟩ (fun c11 => ?_) (fun c11 => ?_)
  · refine px_ine rfl q_X12_along_20 hg rfl trivial (fun c22 => ?_) (fun c22 => ?_)
    · refine px_ine rfl q_X12_along_31 hg rfl trivial (fun c33 => ?_) (fun c33 => ?_)
      · refine px_ine rfl q_X12_along_42 hg rfl trivial (fun c44 => ?_) (fun c44 => ?_)
        · refine px_ine rfl q_X12_along_53 hg rfl trivial (fun c55 => ?_) (fun c55 => ?_)
          · refine px_ine rfl q_X12_along_62 hg rfl trivial (fun c64 => ?_) (fun c64 => ?_)
            · refine px_ine rfl q_X12_along_73 hg rfl trivial (fun c76 => ?_) (fun c76 => ?_)
              · refine px_ige rfl q_X12_along_85 hg rfl trivial (fun c92 => ?_) (fun c92 => ?_)
                · refine px_riP rfl q_X12_along_99 rfl rfl rfl hg rfl trivial ⟨⟨rfl, rfl, rfl, rfl⟩, ?_⟩
                  trivial
                · refine px_riP rfl q_X12_along_95 rfl rfl rfl hg rfl trivial ⟨⟨rfl, rfl, rfl, rfl⟩, ?_⟩
                  trivial
              · refine px_ige rfl q_X12_along_79 hg rfl trivial (fun c92 => ?_) (fun c92 => ?_)
                · refine px_riP rfl q_X12_along_99 rfl rfl rfl hg rfl trivial ⟨⟨rfl, rfl, rfl, rfl⟩, ?_⟩
                  trivial
                · refine px_riP rfl q_X12_along_95 rfl rfl rfl hg rfl trivial ⟨⟨rfl, rfl, rfl, rfl⟩, ?_⟩
                  trivial
            · refine px_ige rfl q_X12_along_67 hg rfl trivial (fun c92 => ?_) (fun c92 => ?_)
              · refine px_riP rfl q_X12_along_99 rfl rfl rfl hg rfl trivial ⟨⟨rfl, rfl, rfl, rfl⟩, ?_⟩
                trivial
              · refine px_riP rfl q_X12_along_95 rfl rfl rfl hg rfl trivial ⟨⟨rfl, rfl, rfl, rfl⟩, ?_⟩
                trivial
          · refine px_ige rfl q_X12_along_58 hg rfl trivial (fun c92 => ?_) (fun c92 => ?_)
            · refine px_riP rfl q_X12_along_99 rfl rfl rfl hg rfl trivial ⟨⟨rfl, rfl, rfl, rfl⟩, ?_⟩
              trivial
            · refine px_riP rfl q_X12_along_95 rfl rfl rfl hg rfl trivial ⟨⟨rfl, rfl, rfl, rfl⟩, ?_⟩
              trivial
        · refine px_ige rfl q_X12_along_47 hg rfl trivial (fun c92 => ?_) (fun c92 => ?_)
          · refine px_riP rfl q_X12_along_99 rfl rfl rfl hg rfl trivial ⟨⟨rfl, rfl, rfl, rfl⟩, ?_⟩
            trivial
          · refine px_riP rfl q_X12_along_95 rfl rfl rfl hg rfl trivial ⟨⟨rfl, rfl, rfl, rfl⟩, ?_⟩
            trivial
      · refine px_ige rfl q_X12_along_36 hg rfl trivial (fun c92 => ?_) (fun c92 => ?_)
        · refine px_riP rfl q_X12_along_99 rfl rfl rfl hg rfl trivial ⟨⟨rfl, rfl, rfl, rfl⟩, ?_⟩
          trivial
        · refine px_riP rfl q_X12_along_95 rfl rfl rfl hg rfl trivial ⟨⟨rfl, rfl, rfl, rfl⟩, ?_⟩
          trivial
    · refine px_ige rfl q_X12_along_25 hg rfl trivial (fun c92 => ?_) (fun c92 => ?_)
      · refine px_riP rfl q_X12_along_99 rfl rfl rfl hg rfl trivial ⟨⟨rfl, rfl, rfl, rfl⟩, ?_⟩
        trivial
      · refine px_riP rfl q_X12_along_95 rfl rfl rfl hg rfl trivial ⟨⟨rfl, rfl, rfl, rfl⟩, ?_⟩
        trivial
  · refine px_ige rfl q_X12_along_14 hg rfl trivial (fun c92 => ?_) (fun c92 => ?_)
    · refine px_riP rfl q_X12_along_99 rfl rfl rfl hg rfl trivial ⟨⟨rfl, rfl, rfl, rfl⟩, ?_⟩
      trivial
    · refine px_riP rfl q_X12_along_95 rfl rfl rfl hg rfl trivial ⟨⟨rfl, rfl, rfl, rfl⟩, ?_⟩
      trivial

theorem q_X12_up_0 : px_bk 12 4 cX12_up 0 [(.lload_n 0, (0, 0, 0, 0, 0), 0, 0), (.lload_n 2, (0, 0, 0, 0, 0), 0, 0), (.ladd, (0, 0, 0, 0, 0), 0, 0), (.lconst 1, (0, 0, 0, 0, 0), 0, 1), (.lsub, (0, 0, 0, 0, 0), 0, 0), (.lload_n 2, (0, 0, 0, 0, 0), 0, 0), (.ldiv, (0, 0, 0, 0, 0), 0, 0)] = some 7 ∧ px_tr cX12_up 7 .lreturn = true := by decide +kernel
set_option maxRecDepth 100000 in
theorem k_up {n : Nat} {I : px_I} {L : px_L} {R : px_R} (hg : px_G n R) (v b : Int64) (hb : ¬ b = 0) : px_KQ M_X12_up [.long v, .long b] n I L R (fun r => True) := by
  refine px_of (plainFor_of_name np_RX12) (fun _ _ _ => trivial) rfl ?_
  refine px_rlQ rfl q_X12_up_0 rfl rfl rfl hg rfl ⟨trivial, hb⟩ ⟨⟨rfl, rfl, rfl, rfl⟩, ?_⟩
  trivial

theorem q_X12_size_0 : px_bk 12 1 cX12_size 0 [(.iload_n 0, (0, 0, 0, 0, 0), 0, 0)] = some 1 ∧ px_t1 cX12_size 1 .ge 9 = true := by decide +kernel
theorem q_X12_size_9 : px_bk 12 1 cX12_size 9 [(.iload_n 0, (0, 0, 0, 0, 0), 0, 0)] = some 10 ∧ px_tr cX12_size 10 .ireturn = true := by decide +kernel
theorem q_X12_size_4 : px_bk 12 1 cX12_size 4 [(.iload_n 0, (0, 0, 0, 0, 0), 0, 0), (.ineg, (0, 0, 0, 0, 0), 0, 0), (.goto 4, (0, 0, 0, 0, 0), 0, 0)] = some 10 ∧ px_tr cX12_size 10 .ireturn = true := by decide +kernel
set_option maxRecDepth 100000 in
theorem k_size {n : Nat} {I : px_I} {L : px_L} {R : px_R} (hg : px_G n R) (x : Int32) : px_KP M_X12_size [.int x] n I L R (fun r => r = if x < 0 then 0 - x else x) := by
  refine px_of (plainFor_of_name np_RX12) (fun _ _ _ => trivial) rfl ?_
  refine px_ge rfl q_X12_size_0 hg rfl trivial (fun c1 => ?_) (fun c1 => ?_)
  · refine px_riP rfl q_X12_size_9 rfl rfl rfl hg rfl trivial ⟨⟨rfl, rfl, rfl, rfl⟩, ?_⟩
    grind
  · refine px_riP rfl q_X12_size_4 rfl rfl rfl hg rfl trivial ⟨⟨rfl, rfl, rfl, rfl⟩, ?_⟩
    grind

theorem q_X12_down_0 : px_bk 12 4 cX12_down 0 [(.lload_n 0, (0, 0, 0, 0, 0), 0, 0), (.lconst 0, (0, 0, 0, 0, 0), 0, 0), (.lcmp, (0, 0, 0, 0, 0), 0, 0)] = some 3 ∧ px_t1 cX12_down 3 .lt 12 = true := by decide +kernel
theorem q_X12_down_12 : px_bk 12 4 cX12_down 12 [(.lload_n 2, (0, 0, 0, 0, 0), 0, 0), (.lconst 1, (0, 0, 0, 0, 0), 0, 1), (.lsub, (0, 0, 0, 0, 0), 0, 0), (.lload_n 0, (0, 0, 0, 0, 0), 0, 0), (.lsub, (0, 0, 0, 0, 0), 0, 0), (.lload_n 2, (0, 0, 0, 0, 0), 0, 0), (.ldiv, (0, 0, 0, 0, 0), 0, 0), (.lneg, (0, 0, 0, 0, 0), 0, 0)] = some 20 ∧ px_tr cX12_down 20 .lreturn = true := by decide +kernel
theorem q_X12_down_6 : px_bk 12 4 cX12_down 6 [(.lload_n 0, (0, 0, 0, 0, 0), 0, 0), (.lload_n 2, (0, 0, 0, 0, 0), 0, 0), (.ldiv, (0, 0, 0, 0, 0), 0, 0), (.goto 11, (0, 0, 0, 0, 0), 0, 0)] = some 20 ∧ px_tr cX12_down 20 .lreturn = true := by decide +kernel
set_option maxRecDepth 100000 in
theorem k_down {n : Nat} {I : px_I} {L : px_L} {R : px_R} (hg : px_G n R) (v b : Int64) (hb : ¬ b = 0) : px_KQ M_X12_down [.long v, .long b] n I L R (fun r => True) := by
  refine px_of (plainFor_of_name np_RX12) (fun _ _ _ => trivial) rfl ?_
  refine px_llt rfl q_X12_down_0 hg rfl trivial (fun c3 => ?_) (fun c3 => ?_)
  · refine px_rlQ rfl q_X12_down_12 rfl rfl rfl hg rfl ⟨trivial, hb⟩ ⟨⟨rfl, rfl, rfl, rfl⟩, ?_⟩
    trivial
  · refine px_rlQ rfl q_X12_down_6 rfl rfl rfl hg rfl ⟨trivial, hb⟩ ⟨⟨rfl, rfl, rfl, rfl⟩, ?_⟩
    trivial

theorem q_X12_isFirst_0 : px_bk 12 1 cX12_isFirst 0 [(.iload_n 0, (0, 0, 0, 0, 0), 0, 0), (.i2l, (0, 0, 0, 0, 0), 0, 0), (.lconst 0, (0, 0, 0, 0, 0), 0, 0), (.ldc2_w 416, (0, 0, 0, 0, 0), 0, 95)] = some 6 ∧ px_tS cX12_isFirst 6 167 = true := by decide +kernel
theorem q_X12_isFirst_9 : px_bk 12 1 cX12_isFirst 9 [] = some 9 ∧ px_tr cX12_isFirst 9 .ireturn = true := by decide +kernel
set_option maxRecDepth 100000 in
theorem k_isFirst {n : Nat} {I : px_I} {L : px_L} {R : px_R} (hg : px_G n R) (x : Int32) : px_KP M_X12_isFirst [.int x] n I L R (fun r => (r = 1 ∧ 0 ≤ x ∧ x ≤ 95) ∨ (r = 0 ∧ ¬ (0 ≤ x ∧ x ≤ 95))) := by
  refine px_of (plainFor_of_name np_RX12) (fun _ _ _ => trivial) rfl ?_
  refine px_cSP rfl q_X12_isFirst_0 hg rfl trivial lk_12_167 nm_X12_in (k_inI hg _ (0) (95) (by decide) (by decide)) rfl rfl rfl ⟨rfl, rfl⟩ ?_
  intro x6 h6
  refine px_rzP rfl q_X12_isFirst_9 rfl rfl rfl hg rfl trivial ⟨⟨rfl, rfl, rfl, rfl⟩, (by first | exact Or.inl rfl | exact Or.inr rfl | grind), ?_⟩
  grind

theorem q_X12_isWay_0 : px_bk 12 2 cX12_isWay 0 [(.iload_n 1, (0, 0, 0, 0, 0), 0, 0), (.i2l, (0, 0, 0, 0, 0), 0, 0), (.lconst 0, (0, 0, 0, 0, 0), 0, 0), (.ldc2_w 364, (0, 0, 0, 0, 0), 0, 5)] = some 6 ∧ px_tS cX12_isWay 6 167 = true := by decide +kernel
theorem q_X12_isWay_9 : px_bk 12 2 cX12_isWay 9 [] = some 9 ∧ px_t1 cX12_isWay 9 .eq 26 = true := by decide +kernel
theorem q_X12_isWay_26 : px_bk 12 2 cX12_isWay 26 [(.iconst 0, (0, 0, 0, 0, 0), 0, 0)] = some 27 ∧ px_tr cX12_isWay 27 .ireturn = true := by decide +kernel
theorem q_X12_isWay_12 : px_bk 12 2 cX12_isWay 12 [(.aload_n 0, (0, 0, 0, 0, 0), 0, 0), (.getfield 97, (12, 44, 3, 129, 0), 0, 0), (.iload_n 1, (0, 0, 0, 0, 0), 0, 0), (.iaload, (0, 0, 0, 0, 0), 0, 0), (.iconst 1, (0, 0, 0, 0, 0), 1, 0)] = some 19 ∧ px_t2 cX12_isWay 19 .ne 26 = true := by decide +kernel
theorem q_X12_isWay_22 : px_bk 12 2 cX12_isWay 22 [(.iconst 1, (0, 0, 0, 0, 0), 1, 0), (.goto 4, (0, 0, 0, 0, 0), 0, 0)] = some 27 ∧ px_tr cX12_isWay 27 .ireturn = true := by decide +kernel
set_option maxRecDepth 100000 in
theorem k_isWay {n : Nat} {I : px_I} {L : px_L} {R : px_R} (hg : px_G n R) (x : Int32) : px_KP M_X12_isWay [.ref 103, .int x] n I L R (fun r => (r = 1 ∧ (0 ≤ x ∧ x ≤ 5) ∧ I 129 x.toNatClampNeg = 1) ∨ (r = 0 ∧ ¬ ((0 ≤ x ∧ x ≤ 5) ∧ I 129 x.toNatClampNeg = 1))) := by
  refine px_of (plainFor_of_name np_RX12) (fun _ _ _ => trivial) rfl ?_
  refine px_cSP rfl q_X12_isWay_0 hg rfl trivial lk_12_167 nm_X12_in (k_inI hg _ (0) (5) (by decide) (by decide)) rfl rfl rfl ⟨rfl, rfl⟩ ?_
  intro x6 h6
  refine px_eq rfl q_X12_isWay_9 hg rfl trivial (fun c9 => ?_) (fun c9 => ?_)
  · replace h6 := px_bf h6 c9
    refine px_rzP rfl q_X12_isWay_26 rfl rfl rfl hg rfl trivial ⟨⟨rfl, rfl, rfl, rfl⟩, (by first | exact Or.inl rfl | exact Or.inr rfl | grind), ?_⟩
    grind
  · replace h6 := px_bt h6 c9
    refine px_ine rfl q_X12_isWay_12 hg rfl ⟨trivial, (by first | decide | (refine ⟨?_, ?_⟩ <;> grind) | grind)⟩ (fun c19 => ?_) (fun c19 => ?_)
    · refine px_rzP rfl q_X12_isWay_26 rfl rfl rfl hg rfl trivial ⟨⟨rfl, rfl, rfl, rfl⟩, (by first | exact Or.inl rfl | exact Or.inr rfl | grind), ?_⟩
      grind
    · refine px_rzP rfl q_X12_isWay_22 rfl rfl rfl hg rfl trivial ⟨⟨rfl, rfl, rfl, rfl⟩, (by first | exact Or.inl rfl | exact Or.inr rfl | grind), ?_⟩
      grind

theorem q_X12_areAsked_0 : px_bk 12 5 cX12_areAsked 0 [(.iload_n 1, (0, 0, 0, 0, 0), 0, 0)] = some 1 ∧ px_tS cX12_areAsked 1 424 = true := by decide +kernel
theorem q_X12_areAsked_4 : px_bk 12 5 cX12_areAsked 4 [] = some 4 ∧ px_t1 cX12_areAsked 4 .eq 57 = true := by decide +kernel
theorem q_X12_areAsked_57 : px_bk 12 5 cX12_areAsked 57 [(.iconst 0, (0, 0, 0, 0, 0), 0, 0)] = some 58 ∧ px_tr cX12_areAsked 58 .ireturn = true := by decide +kernel
theorem q_X12_areAsked_7 : px_bk 12 5 cX12_areAsked 7 [(.iload_n 3, (0, 0, 0, 0, 0), 0, 0)] = some 8 ∧ px_tS cX12_areAsked 8 424 = true := by decide +kernel
theorem q_X12_areAsked_11 : px_bk 12 5 cX12_areAsked 11 [] = some 11 ∧ px_t1 cX12_areAsked 11 .eq 57 = true := by decide +kernel
theorem q_X12_areAsked_14 : px_bk 12 5 cX12_areAsked 14 [(.aload_n 0, (0, 0, 0, 0, 0), 0, 0), (.iload_n 1, (0, 0, 0, 0, 0), 0, 0), (.bipush 16, (0, 0, 0, 0, 0), 16, 0), (.idiv, (0, 0, 0, 0, 0), 0, 0)] = some 19 ∧ px_tv cX12_areAsked 19 406 = true := by decide +kernel
theorem q_X12_areAsked_22 : px_bk 12 5 cX12_areAsked 22 [] = some 22 ∧ px_t1 cX12_areAsked 22 .eq 57 = true := by decide +kernel
theorem q_X12_areAsked_25 : px_bk 12 5 cX12_areAsked 25 [(.aload_n 0, (0, 0, 0, 0, 0), 0, 0), (.iload_n 3, (0, 0, 0, 0, 0), 0, 0), (.bipush 16, (0, 0, 0, 0, 0), 16, 0), (.idiv, (0, 0, 0, 0, 0), 0, 0)] = some 30 ∧ px_tv cX12_areAsked 30 406 = true := by decide +kernel
theorem q_X12_areAsked_33 : px_bk 12 5 cX12_areAsked 33 [] = some 33 ∧ px_t1 cX12_areAsked 33 .eq 57 = true := by decide +kernel
theorem q_X12_areAsked_36 : px_bk 12 5 cX12_areAsked 36 [(.aload_n 0, (0, 0, 0, 0, 0), 0, 0), (.iload_n 2, (0, 0, 0, 0, 0), 0, 0)] = some 38 ∧ px_tv cX12_areAsked 38 184 = true := by decide +kernel
theorem q_X12_areAsked_41 : px_bk 12 5 cX12_areAsked 41 [] = some 41 ∧ px_t1 cX12_areAsked 41 .eq 57 = true := by decide +kernel
theorem q_X12_areAsked_44 : px_bk 12 5 cX12_areAsked 44 [(.aload_n 0, (0, 0, 0, 0, 0), 0, 0), (.iload 4, (0, 0, 0, 0, 0), 0, 0)] = some 47 ∧ px_tv cX12_areAsked 47 184 = true := by decide +kernel
theorem q_X12_areAsked_50 : px_bk 12 5 cX12_areAsked 50 [] = some 50 ∧ px_t1 cX12_areAsked 50 .eq 57 = true := by decide +kernel
theorem q_X12_areAsked_53 : px_bk 12 5 cX12_areAsked 53 [(.iconst 1, (0, 0, 0, 0, 0), 1, 0), (.goto 4, (0, 0, 0, 0, 0), 0, 0)] = some 58 ∧ px_tr cX12_areAsked 58 .ireturn = true := by decide +kernel
set_option maxRecDepth 100000 in
theorem k_areAsked {n : Nat} {I : px_I} {L : px_L} {R : px_R} (hg : px_G n R) (a f b t : Int32) : px_KP M_X12_areAsked [.ref 103, .int a, .int f, .int b, .int t] n I L R (fun r => (r = 1 ∧ (0 ≤ a ∧ a ≤ 95) ∧ (0 ≤ b ∧ b ≤ 95) ∧ ((0 ≤ a / 16 ∧ a / 16 ≤ 5) ∧ I 129 (a / 16).toNatClampNeg = 1) ∧ ((0 ≤ b / 16 ∧ b / 16 ≤ 5) ∧ I 129 (b / 16).toNatClampNeg = 1) ∧ (0 ≤ f ∧ f ≤ I 103 1 - 1) ∧ (0 ≤ t ∧ t ≤ I 103 1 - 1)) ∨ (r = 0 ∧ ¬ ((0 ≤ a ∧ a ≤ 95) ∧ (0 ≤ b ∧ b ≤ 95) ∧ ((0 ≤ a / 16 ∧ a / 16 ≤ 5) ∧ I 129 (a / 16).toNatClampNeg = 1) ∧ ((0 ≤ b / 16 ∧ b / 16 ≤ 5) ∧ I 129 (b / 16).toNatClampNeg = 1) ∧ (0 ≤ f ∧ f ≤ I 103 1 - 1) ∧ (0 ≤ t ∧ t ≤ I 103 1 - 1)))) := by
  refine px_of (plainFor_of_name np_RX12) (fun _ _ _ => trivial) rfl ?_
  refine px_cSP rfl q_X12_areAsked_0 hg rfl trivial lk_12_424 nm_X12_isFirst (k_isFirst hg _) rfl rfl rfl ⟨rfl, rfl⟩ ?_
  intro x1 h1
  refine px_eq rfl q_X12_areAsked_4 hg rfl trivial (fun c4 => ?_) (fun c4 => ?_)
  · replace h1 := px_bf h1 c4
    refine px_rzP rfl q_X12_areAsked_57 rfl rfl rfl hg rfl trivial ⟨⟨rfl, rfl, rfl, rfl⟩, (by first | exact Or.inl rfl | exact Or.inr rfl | grind), ?_⟩
    first | exact Or.inl ⟨rfl, by with_reducible assumption, by with_reducible assumption, by with_reducible assumption, by with_reducible assumption, by with_reducible assumption, by with_reducible assumption⟩ | exact Or.inr ⟨rfl, fun ⟨z1, z2, z3, z4, z5, z6⟩ => by contradiction⟩
  · replace h1 := px_bt h1 c4
    refine px_cSP rfl q_X12_areAsked_7 hg rfl trivial lk_12_424 nm_X12_isFirst (k_isFirst hg _) rfl rfl rfl ⟨rfl, rfl⟩ ?_
    intro x8 h8
    refine px_eq rfl q_X12_areAsked_11 hg rfl trivial (fun c11 => ?_) (fun c11 => ?_)
    · replace h8 := px_bf h8 c11
      refine px_rzP rfl q_X12_areAsked_57 rfl rfl rfl hg rfl trivial ⟨⟨rfl, rfl, rfl, rfl⟩, (by first | exact Or.inl rfl | exact Or.inr rfl | grind), ?_⟩
      first | exact Or.inl ⟨rfl, by with_reducible assumption, by with_reducible assumption, by with_reducible assumption, by with_reducible assumption, by with_reducible assumption, by with_reducible assumption⟩ | exact Or.inr ⟨rfl, fun ⟨z1, z2, z3, z4, z5, z6⟩ => by contradiction⟩
    · replace h8 := px_bt h8 c11
      refine px_cVP (ci := 12) rfl q_X12_areAsked_14 hg rfl ⟨trivial, (by decide)⟩ lk_12_406 nm_X12_isWay (k_isWay hg _) rfl rfl (px_lit hg rfl) rfl rfl rfl ⟨rfl, rfl⟩ ?_
      intro x19 h19
      refine px_eq rfl q_X12_areAsked_22 hg rfl trivial (fun c22 => ?_) (fun c22 => ?_)
      · replace h19 := px_bf h19 c22
        refine px_rzP rfl q_X12_areAsked_57 rfl rfl rfl hg rfl trivial ⟨⟨rfl, rfl, rfl, rfl⟩, (by first | exact Or.inl rfl | exact Or.inr rfl | grind), ?_⟩
        first | exact Or.inl ⟨rfl, by with_reducible assumption, by with_reducible assumption, by with_reducible assumption, by with_reducible assumption, by with_reducible assumption, by with_reducible assumption⟩ | exact Or.inr ⟨rfl, fun ⟨z1, z2, z3, z4, z5, z6⟩ => by contradiction⟩
      · replace h19 := px_bt h19 c22
        refine px_cVP (ci := 12) rfl q_X12_areAsked_25 hg rfl ⟨trivial, (by decide)⟩ lk_12_406 nm_X12_isWay (k_isWay hg _) rfl rfl (px_lit hg rfl) rfl rfl rfl ⟨rfl, rfl⟩ ?_
        intro x30 h30
        refine px_eq rfl q_X12_areAsked_33 hg rfl trivial (fun c33 => ?_) (fun c33 => ?_)
        · replace h30 := px_bf h30 c33
          refine px_rzP rfl q_X12_areAsked_57 rfl rfl rfl hg rfl trivial ⟨⟨rfl, rfl, rfl, rfl⟩, (by first | exact Or.inl rfl | exact Or.inr rfl | grind), ?_⟩
          first | exact Or.inl ⟨rfl, by with_reducible assumption, by with_reducible assumption, by with_reducible assumption, by with_reducible assumption, by with_reducible assumption, by with_reducible assumption⟩ | exact Or.inr ⟨rfl, fun ⟨z1, z2, z3, z4, z5, z6⟩ => by contradiction⟩
        · replace h30 := px_bt h30 c33
          refine px_cVP (ci := 12) rfl q_X12_areAsked_36 hg rfl trivial lk_12_184 nm_X12_isStation (k_isStation hg _) rfl rfl (px_lit hg rfl) rfl rfl rfl ⟨rfl, rfl⟩ ?_
          intro x38 h38
          refine px_eq rfl q_X12_areAsked_41 hg rfl trivial (fun c41 => ?_) (fun c41 => ?_)
          · replace h38 := px_bf h38 c41
            refine px_rzP rfl q_X12_areAsked_57 rfl rfl rfl hg rfl trivial ⟨⟨rfl, rfl, rfl, rfl⟩, (by first | exact Or.inl rfl | exact Or.inr rfl | grind), ?_⟩
            first | exact Or.inl ⟨rfl, by with_reducible assumption, by with_reducible assumption, by with_reducible assumption, by with_reducible assumption, by with_reducible assumption, by with_reducible assumption⟩ | exact Or.inr ⟨rfl, fun ⟨z1, z2, z3, z4, z5, z6⟩ => by contradiction⟩
          · replace h38 := px_bt h38 c41
            refine px_cVP (ci := 12) rfl q_X12_areAsked_44 hg rfl trivial lk_12_184 nm_X12_isStation (k_isStation hg _) rfl rfl (px_lit hg rfl) rfl rfl rfl ⟨rfl, rfl⟩ ?_
            intro x47 h47
            refine px_eq rfl q_X12_areAsked_50 hg rfl trivial (fun c50 => ?_) (fun c50 => ?_)
            · replace h47 := px_bf h47 c50
              refine px_rzP rfl q_X12_areAsked_57 rfl rfl rfl hg rfl trivial ⟨⟨rfl, rfl, rfl, rfl⟩, (by first | exact Or.inl rfl | exact Or.inr rfl | grind), ?_⟩
              first | exact Or.inl ⟨rfl, by with_reducible assumption, by with_reducible assumption, by with_reducible assumption, by with_reducible assumption, by with_reducible assumption, by with_reducible assumption⟩ | exact Or.inr ⟨rfl, fun ⟨z1, z2, z3, z4, z5, z6⟩ => by contradiction⟩
            · replace h47 := px_bt h47 c50
              refine px_rzP rfl q_X12_areAsked_53 rfl rfl rfl hg rfl trivial ⟨⟨rfl, rfl, rfl, rfl⟩, (by first | exact Or.inl rfl | exact Or.inr rfl | grind), ?_⟩
              first | exact Or.inl ⟨rfl, by with_reducible assumption, by with_reducible assumption, by with_reducible assumption, by with_reducible assumption, by with_reducible assumption, by with_reducible assumption⟩ | exact Or.inr ⟨rfl, fun ⟨z1, z2, z3, z4, z5, z6⟩ => by contradiction⟩

theorem q_X12_lets_0 : px_bk 12 5 cX12_lets 0 [(.lload_n 1, (0, 0, 0, 0, 0), 0, 0), (.lconst 1, (0, 0, 0, 0, 0), 0, 1), (.lcmp, (0, 0, 0, 0, 0), 0, 0)] = some 3 ∧ px_t1 cX12_lets 3 .ge 10 = true := by decide +kernel
theorem q_X12_lets_10 : px_bk 12 5 cX12_lets 10 [(.lload_n 1, (0, 0, 0, 0, 0), 0, 0), (.ldc2_w 390, (0, 0, 0, 0, 0), 0, 16), (.lcmp, (0, 0, 0, 0, 0), 0, 0)] = some 15 ∧ px_t1 cX12_lets 15 .le 23 = true := by decide +kernel
theorem q_X12_lets_23 : px_bk 12 5 cX12_lets 23 [(.lconst 1, (0, 0, 0, 0, 0), 0, 1), (.lload_n 1, (0, 0, 0, 0, 0), 0, 0), (.ldc2_w 171, (0, 0, 0, 0, 0), 0, 2), (.ldiv, (0, 0, 0, 0, 0), 0, 0), (.ladd, (0, 0, 0, 0, 0), 0, 0), (.l2i, (0, 0, 0, 0, 0), 0, 0), (.istore 4, (0, 0, 0, 0, 0), 0, 0), (.aload_n 0, (0, 0, 0, 0, 0), 0, 0), (.getfield 140, (12, 62, 3, 138, 0), 0, 0), (.iload 4, (0, 0, 0, 0, 0), 0, 0), (.iaload, (0, 0, 0, 0, 0), 0, 0), (.iload_n 3, (0, 0, 0, 0, 0), 0, 0), (.imul, (0, 0, 0, 0, 0), 0, 0), (.bipush 100, (0, 0, 0, 0, 0), 100, 0), (.idiv, (0, 0, 0, 0, 0), 0, 0)] = some 45 ∧ px_tr cX12_lets 45 .ireturn = true := by decide +kernel
theorem q_X12_lets_18 : px_bk 12 5 cX12_lets 18 [(.bipush 9, (0, 0, 0, 0, 0), 9, 0), (.goto 11, (0, 0, 0, 0, 0), 0, 0), (.istore 4, (0, 0, 0, 0, 0), 0, 0), (.aload_n 0, (0, 0, 0, 0, 0), 0, 0), (.getfield 140, (12, 62, 3, 138, 0), 0, 0), (.iload 4, (0, 0, 0, 0, 0), 0, 0), (.iaload, (0, 0, 0, 0, 0), 0, 0), (.iload_n 3, (0, 0, 0, 0, 0), 0, 0), (.imul, (0, 0, 0, 0, 0), 0, 0), (.bipush 100, (0, 0, 0, 0, 0), 100, 0), (.idiv, (0, 0, 0, 0, 0), 0, 0)] = some 45 ∧ px_tr cX12_lets 45 .ireturn = true := by decide +kernel
theorem q_X12_lets_6 : px_bk 12 5 cX12_lets 6 [(.iconst 0, (0, 0, 0, 0, 0), 0, 0), (.goto 24, (0, 0, 0, 0, 0), 0, 0), (.istore 4, (0, 0, 0, 0, 0), 0, 0), (.aload_n 0, (0, 0, 0, 0, 0), 0, 0), (.getfield 140, (12, 62, 3, 138, 0), 0, 0), (.iload 4, (0, 0, 0, 0, 0), 0, 0), (.iaload, (0, 0, 0, 0, 0), 0, 0), (.iload_n 3, (0, 0, 0, 0, 0), 0, 0), (.imul, (0, 0, 0, 0, 0), 0, 0), (.bipush 100, (0, 0, 0, 0, 0), 100, 0), (.idiv, (0, 0, 0, 0, 0), 0, 0)] = some 45 ∧ px_tr cX12_lets 45 .ireturn = true := by decide +kernel
set_option maxRecDepth 100000 in
theorem k_lets {n : Nat} {I : px_I} {L : px_L} {R : px_R} (hg : px_G n R) (t : Int64) (w : Int32) : px_KP M_X12_lets [.ref 103, .long t, .int w] n I L R (fun r => True) := by
  refine px_of (plainFor_of_name np_RX12) (fun _ _ _ => trivial) rfl ?_
  refine px_lge rfl q_X12_lets_0 hg rfl trivial (fun c3 => ?_) (fun c3 => ?_)
  · refine px_lle rfl q_X12_lets_10 hg rfl trivial (fun c15 => ?_) (fun c15 => ?_)
    · refine px_riP rfl q_X12_lets_23 rfl rfl rfl hg rfl ⟨⟨⟨trivial, (by first | decide | exact mCls (by grind) (by grind))⟩, (by first | decide | exact mCls (by grind) (by grind))⟩, (by first | decide | exact mCls (by grind) (by grind))⟩ ⟨⟨rfl, rfl, rfl, rfl⟩, ?_⟩
      trivial
    · refine px_riP rfl q_X12_lets_18 rfl rfl rfl hg rfl ⟨⟨trivial, (by first | decide | exact mCls (by grind) (by grind))⟩, (by first | decide | exact mCls (by grind) (by grind))⟩ ⟨⟨rfl, rfl, rfl, rfl⟩, ?_⟩
      trivial
  · refine px_riP rfl q_X12_lets_6 rfl rfl rfl hg rfl ⟨⟨trivial, (by first | decide | exact mCls (by grind) (by grind))⟩, (by first | decide | exact mCls (by grind) (by grind))⟩ ⟨⟨rfl, rfl, rfl, rfl⟩, ?_⟩
    trivial

theorem q_X12_widthOf_6 : px_bk 12 8 cX12_widthOf 6 [(.iload 6, (0, 0, 0, 0, 0), 0, 0), (.aload_n 0, (0, 0, 0, 0, 0), 0, 0), (.getfield 469, (12, 63, 0, 0, 0), 0, 0)] = some 12 ∧ px_t2 cX12_widthOf 12 .ge 104 = true := by decide +kernel
theorem q_X12_widthOf_104 : px_bk 12 8 cX12_widthOf 104 [(.aload_n 0, (0, 0, 0, 0, 0), 0, 0), (.getfield 47, (12, 14, 3, 115, 0), 0, 0), (.bipush 20, (0, 0, 0, 0, 0), 20, 0), (.iload_n 1, (0, 0, 0, 0, 0), 0, 0), (.imul, (0, 0, 0, 0, 0), 0, 0), (.iload_n 2, (0, 0, 0, 0, 0), 0, 0), (.iadd, (0, 0, 0, 0, 0), 0, 0), (.iaload, (0, 0, 0, 0, 0), 0, 0), (.iconst 2, (0, 0, 0, 0, 0), 2, 0), (.aload_n 0, (0, 0, 0, 0, 0), 0, 0), (.getfield 472, (12, 68, 0, 0, 0), 0, 0), (.iload_n 3, (0, 0, 0, 0, 0), 0, 0), (.iload 5, (0, 0, 0, 0, 0), 0, 0), (.isub, (0, 0, 0, 0, 0), 0, 0), (.imul, (0, 0, 0, 0, 0), 0, 0), (.bipush 100, (0, 0, 0, 0, 0), 100, 0), (.idiv, (0, 0, 0, 0, 0), 0, 0), (.imul, (0, 0, 0, 0, 0), 0, 0), (.isub, (0, 0, 0, 0, 0), 0, 0), (.istore 6, (0, 0, 0, 0, 0), 0, 0), (.iload 6, (0, 0, 0, 0, 0), 0, 0)] = some 134 ∧ px_t1 cX12_widthOf 134 .ge 141 = true := by decide +kernel
theorem q_X12_widthOf_141 : px_bk 12 8 cX12_widthOf 141 [(.iload 6, (0, 0, 0, 0, 0), 0, 0)] = some 143 ∧ px_tr cX12_widthOf 143 .ireturn = true := by decide +kernel
theorem q_X12_widthOf_137 : px_bk 12 8 cX12_widthOf 137 [(.iconst 0, (0, 0, 0, 0, 0), 0, 0), (.goto 5, (0, 0, 0, 0, 0), 0, 0)] = some 143 ∧ px_tr cX12_widthOf 143 .ireturn = true := by decide +kernel
theorem q_X12_widthOf_15 : px_bk 12 8 cX12_widthOf 15 [(.aload_n 0, (0, 0, 0, 0, 0), 0, 0), (.getfield 143, (12, 64, 3, 139, 0), 0, 0), (.iload 6, (0, 0, 0, 0, 0), 0, 0), (.iaload, (0, 0, 0, 0, 0), 0, 0), (.iload_n 1, (0, 0, 0, 0, 0), 0, 0)] = some 23 ∧ px_t2 cX12_widthOf 23 .ne 64 = true := by decide +kernel
theorem q_X12_widthOf_64 : px_bk 12 8 cX12_widthOf 64 [(.iconst 0, (0, 0, 0, 0, 0), 0, 0), (.istore 7, (0, 0, 0, 0, 0), 0, 0), (.iload 7, (0, 0, 0, 0, 0), 0, 0)] = some 69 ∧ px_t1 cX12_widthOf 69 .eq 94 = true := by decide +kernel
theorem q_X12_widthOf_94 : px_bk 12 8 cX12_widthOf 94 [(.iload 5, (0, 0, 0, 0, 0), 0, 0), (.istore 5, (0, 0, 0, 0, 0), 0, 0), (.iinc 6 1, (0, 0, 0, 0, 0), 1, 0), (.goto (-95), (0, 0, 0, 0, 0), 0, 0)] = some 6 := by decide +kernel
theorem q_X12_widthOf_72 : px_bk 12 8 cX12_widthOf 72 [(.aload_n 0, (0, 0, 0, 0, 0), 0, 0), (.getfield 149, (12, 66, 3, 141, 0), 0, 0), (.iload 6, (0, 0, 0, 0, 0), 0, 0), (.iaload, (0, 0, 0, 0, 0), 0, 0), (.iload 5, (0, 0, 0, 0, 0), 0, 0)] = some 81 ∧ px_t2 cX12_widthOf 81 .le 94 = true := by decide +kernel
theorem q_X12_widthOf_84 : px_bk 12 8 cX12_widthOf 84 [(.aload_n 0, (0, 0, 0, 0, 0), 0, 0), (.getfield 149, (12, 66, 3, 141, 0), 0, 0), (.iload 6, (0, 0, 0, 0, 0), 0, 0), (.iaload, (0, 0, 0, 0, 0), 0, 0), (.goto 5, (0, 0, 0, 0, 0), 0, 0), (.istore 5, (0, 0, 0, 0, 0), 0, 0), (.iinc 6 1, (0, 0, 0, 0, 0), 1, 0), (.goto (-95), (0, 0, 0, 0, 0), 0, 0)] = some 6 := by decide +kernel
theorem q_X12_widthOf_26 : px_bk 12 8 cX12_widthOf 26 [(.aload_n 0, (0, 0, 0, 0, 0), 0, 0), (.getfield 146, (12, 65, 3, 140, 0), 0, 0), (.iload 6, (0, 0, 0, 0, 0), 0, 0), (.iaload, (0, 0, 0, 0, 0), 0, 0), (.iload_n 2, (0, 0, 0, 0, 0), 0, 0)] = some 34 ∧ px_t2 cX12_widthOf 34 .ne 64 = true := by decide +kernel
theorem q_X12_widthOf_37 : px_bk 12 8 cX12_widthOf 37 [(.aload_n 0, (0, 0, 0, 0, 0), 0, 0), (.getfield 152, (12, 67, 3, 142, 0), 0, 0), (.iload 6, (0, 0, 0, 0, 0), 0, 0), (.iaload, (0, 0, 0, 0, 0), 0, 0), (.iload 4, (0, 0, 0, 0, 0), 0, 0)] = some 46 ∧ px_t2 cX12_widthOf 46 .gt 64 = true := by decide +kernel
theorem q_X12_widthOf_49 : px_bk 12 8 cX12_widthOf 49 [(.aload_n 0, (0, 0, 0, 0, 0), 0, 0), (.getfield 149, (12, 66, 3, 141, 0), 0, 0), (.iload 6, (0, 0, 0, 0, 0), 0, 0), (.iaload, (0, 0, 0, 0, 0), 0, 0), (.iload_n 3, (0, 0, 0, 0, 0), 0, 0)] = some 57 ∧ px_t2 cX12_widthOf 57 .gt 64 = true := by decide +kernel
theorem q_X12_widthOf_60 : px_bk 12 8 cX12_widthOf 60 [(.iconst 1, (0, 0, 0, 0, 0), 1, 0), (.goto 4, (0, 0, 0, 0, 0), 0, 0), (.istore 7, (0, 0, 0, 0, 0), 0, 0), (.iload 7, (0, 0, 0, 0, 0), 0, 0)] = some 69 ∧ px_t1 cX12_widthOf 69 .eq 94 = true := by decide +kernel
set_option maxRecDepth 100000 in
theorem l_widthOf {n : Nat} {R : px_R} (hg : px_G n R) {Q : px_Q} (g p y k : Int32) {I : px_I} {L : px_L} (hr : 0 ≤ I 103 63 ∧ I 103 63 ≤ 30) (hk : 0 ≤ 20 * g + p ∧ 20 * g + p < 40) (hq : ∀ r, Q (some (.int r)) n I L R) : ∀ i : Int32, i ≤ I 103 63 → 0 ≤ i → ∀ f : Int32, px M_X12_widthOf 0 0 6 [(0, .ref 103), (1, .int g), (2, .int p), (3, .int y), (4, .int k), (5, .int f), (6, .int i)] [] n I L R Q := by
  refine px_up _ (fun i ih hi => ?_)
  intro h0 f
  refine px_ige rfl q_X12_widthOf_6 hg rfl trivial (fun c12 => ?_) (fun c12 => ?_)
  · refine px_ge rfl q_X12_widthOf_104 hg rfl ⟨⟨trivial, (by first | decide | with_reducible assumption | (refine ⟨?_, ?_⟩ <;> grind))⟩, (by first | decide | with_reducible assumption | (refine ⟨?_, ?_⟩ <;> grind))⟩ (fun c134 => ?_) (fun c134 => ?_)
    · refine px_ri rfl q_X12_widthOf_141 rfl rfl rfl hg rfl trivial ?_
      exact hq _
    · refine px_ri rfl q_X12_widthOf_137 rfl rfl rfl hg rfl trivial ?_
      exact hq _
  · refine px_ine rfl q_X12_widthOf_15 hg rfl ⟨trivial, (by first | decide | with_reducible assumption | (refine ⟨?_, ?_⟩ <;> grind))⟩ (fun c23 => ?_) (fun c23 => ?_)
    · refine px_eq rfl q_X12_widthOf_64 hg rfl trivial (fun c69 => ?_) (fun c69 => ?_)
      · refine px_b rfl q_X12_widthOf_94 hg rfl trivial ?_
        exact px_go (ih (i + 1) (by grind) (by grind) (by grind) _) ⟨rfl, rfl, rfl, rfl, rfl, rfl, rfl, trivial⟩
      · refine px_ile rfl q_X12_widthOf_72 hg rfl ⟨trivial, (by first | decide | with_reducible assumption | (refine ⟨?_, ?_⟩ <;> grind))⟩ (fun c81 => ?_) (fun c81 => ?_)
        · refine px_b rfl q_X12_widthOf_94 hg rfl trivial ?_
          exact px_go (ih (i + 1) (by grind) (by grind) (by grind) _) ⟨rfl, rfl, rfl, rfl, rfl, rfl, rfl, trivial⟩
        · refine px_b rfl q_X12_widthOf_84 hg rfl ⟨trivial, (by first | decide | with_reducible assumption | (refine ⟨?_, ?_⟩ <;> grind))⟩ ?_
          exact px_go (ih (i + 1) (by grind) (by grind) (by grind) _) ⟨rfl, rfl, rfl, rfl, rfl, rfl, rfl, trivial⟩
    · refine px_ine rfl q_X12_widthOf_26 hg rfl ⟨trivial, (by first | decide | with_reducible assumption | (refine ⟨?_, ?_⟩ <;> grind))⟩ (fun c34 => ?_) (fun c34 => ?_)
      · refine px_eq rfl q_X12_widthOf_64 hg rfl trivial (fun c69 => ?_) (fun c69 => ?_)
        · refine px_b rfl q_X12_widthOf_94 hg rfl trivial ?_
          exact px_go (ih (i + 1) (by grind) (by grind) (by grind) _) ⟨rfl, rfl, rfl, rfl, rfl, rfl, rfl, trivial⟩
        · refine px_ile rfl q_X12_widthOf_72 hg rfl ⟨trivial, (by first | decide | with_reducible assumption | (refine ⟨?_, ?_⟩ <;> grind))⟩ (fun c81 => ?_) (fun c81 => ?_)
          · refine px_b rfl q_X12_widthOf_94 hg rfl trivial ?_
            exact px_go (ih (i + 1) (by grind) (by grind) (by grind) _) ⟨rfl, rfl, rfl, rfl, rfl, rfl, rfl, trivial⟩
          · refine px_b rfl q_X12_widthOf_84 hg rfl ⟨trivial, (by first | decide | with_reducible assumption | (refine ⟨?_, ?_⟩ <;> grind))⟩ ?_
            exact px_go (ih (i + 1) (by grind) (by grind) (by grind) _) ⟨rfl, rfl, rfl, rfl, rfl, rfl, rfl, trivial⟩
      · refine px_igt rfl q_X12_widthOf_37 hg rfl ⟨trivial, (by first | decide | with_reducible assumption | (refine ⟨?_, ?_⟩ <;> grind))⟩ (fun c46 => ?_) (fun c46 => ?_)
        · refine px_eq rfl q_X12_widthOf_64 hg rfl trivial (fun c69 => ?_) (fun c69 => ?_)
          · refine px_b rfl q_X12_widthOf_94 hg rfl trivial ?_
            exact px_go (ih (i + 1) (by grind) (by grind) (by grind) _) ⟨rfl, rfl, rfl, rfl, rfl, rfl, rfl, trivial⟩
          · refine px_ile rfl q_X12_widthOf_72 hg rfl ⟨trivial, (by first | decide | with_reducible assumption | (refine ⟨?_, ?_⟩ <;> grind))⟩ (fun c81 => ?_) (fun c81 => ?_)
            · refine px_b rfl q_X12_widthOf_94 hg rfl trivial ?_
              exact px_go (ih (i + 1) (by grind) (by grind) (by grind) _) ⟨rfl, rfl, rfl, rfl, rfl, rfl, rfl, trivial⟩
            · refine px_b rfl q_X12_widthOf_84 hg rfl ⟨trivial, (by first | decide | with_reducible assumption | (refine ⟨?_, ?_⟩ <;> grind))⟩ ?_
              exact px_go (ih (i + 1) (by grind) (by grind) (by grind) _) ⟨rfl, rfl, rfl, rfl, rfl, rfl, rfl, trivial⟩
        · refine px_igt rfl q_X12_widthOf_49 hg rfl ⟨trivial, (by first | decide | with_reducible assumption | (refine ⟨?_, ?_⟩ <;> grind))⟩ (fun c57 => ?_) (fun c57 => ?_)
          · refine px_eq rfl q_X12_widthOf_64 hg rfl trivial (fun c69 => ?_) (fun c69 => ?_)
            · refine px_b rfl q_X12_widthOf_94 hg rfl trivial ?_
              exact px_go (ih (i + 1) (by grind) (by grind) (by grind) _) ⟨rfl, rfl, rfl, rfl, rfl, rfl, rfl, trivial⟩
            · refine px_ile rfl q_X12_widthOf_72 hg rfl ⟨trivial, (by first | decide | with_reducible assumption | (refine ⟨?_, ?_⟩ <;> grind))⟩ (fun c81 => ?_) (fun c81 => ?_)
              · refine px_b rfl q_X12_widthOf_94 hg rfl trivial ?_
                exact px_go (ih (i + 1) (by grind) (by grind) (by grind) _) ⟨rfl, rfl, rfl, rfl, rfl, rfl, rfl, trivial⟩
              · refine px_b rfl q_X12_widthOf_84 hg rfl ⟨trivial, (by first | decide | with_reducible assumption | (refine ⟨?_, ?_⟩ <;> grind))⟩ ?_
                exact px_go (ih (i + 1) (by grind) (by grind) (by grind) _) ⟨rfl, rfl, rfl, rfl, rfl, rfl, rfl, trivial⟩
          · refine px_eq rfl q_X12_widthOf_60 hg rfl trivial (fun c69 => ?_) (fun c69 => ?_)
            · refine px_b rfl q_X12_widthOf_94 hg rfl trivial ?_
              exact px_go (ih (i + 1) (by grind) (by grind) (by grind) _) ⟨rfl, rfl, rfl, rfl, rfl, rfl, rfl, trivial⟩
            · refine px_ile rfl q_X12_widthOf_72 hg rfl ⟨trivial, (by first | decide | with_reducible assumption | (refine ⟨?_, ?_⟩ <;> grind))⟩ (fun c81 => ?_) (fun c81 => ?_)
              · refine px_b rfl q_X12_widthOf_94 hg rfl trivial ?_
                exact px_go (ih (i + 1) (by grind) (by grind) (by grind) _) ⟨rfl, rfl, rfl, rfl, rfl, rfl, rfl, trivial⟩
              · refine px_b rfl q_X12_widthOf_84 hg rfl ⟨trivial, (by first | decide | with_reducible assumption | (refine ⟨?_, ?_⟩ <;> grind))⟩ ?_
                exact px_go (ih (i + 1) (by grind) (by grind) (by grind) _) ⟨rfl, rfl, rfl, rfl, rfl, rfl, rfl, trivial⟩

theorem q_X12_widthOf_0 : px_bk 12 8 cX12_widthOf 0 [(.iconst 0, (0, 0, 0, 0, 0), 0, 0), (.istore 5, (0, 0, 0, 0, 0), 0, 0), (.iconst 0, (0, 0, 0, 0, 0), 0, 0), (.istore 6, (0, 0, 0, 0, 0), 0, 0)] = some 6 := by decide +kernel
set_option maxRecDepth 100000 in
theorem k_widthOf {n : Nat} {I : px_I} {L : px_L} {R : px_R} (hg : px_G n R) (g p y k : Int32) (hr : 0 ≤ I 103 63 ∧ I 103 63 ≤ 30) (hk : 0 ≤ 20 * g + p ∧ 20 * g + p < 40) : px_KP M_X12_widthOf [.ref 103, .int g, .int p, .int y, .int k] n I L R (fun r => True) := by
  refine px_of (plainFor_of_name np_RX12) (fun _ _ _ => trivial) rfl ?_
  refine px_b rfl q_X12_widthOf_0 hg rfl trivial ?_
  exact px_go (l_widthOf hg g p y k hr hk (fun r => ⟨rfl, rfl, r, rfl, rfl, rfl, trivial⟩) 0 hr.1 (by decide) 0) ⟨rfl, rfl, rfl, rfl, rfl, rfl, rfl, trivial⟩

theorem q_X12_letsBy_0 : px_bk 12 9 cX12_letsBy 0 [(.bipush 20, (0, 0, 0, 0, 0), 20, 0), (.iload_n 1, (0, 0, 0, 0, 0), 0, 0), (.imul, (0, 0, 0, 0, 0), 0, 0), (.iload_n 2, (0, 0, 0, 0, 0), 0, 0), (.iadd, (0, 0, 0, 0, 0), 0, 0), (.istore 6, (0, 0, 0, 0, 0), 0, 0), (.aload_n 0, (0, 0, 0, 0, 0), 0, 0), (.aload_n 0, (0, 0, 0, 0, 0), 0, 0), (.getfield 50, (12, 15, 3, 116, 0), 0, 0), (.iload 6, (0, 0, 0, 0, 0), 0, 0), (.iaload, (0, 0, 0, 0, 0), 0, 0), (.aload_n 0, (0, 0, 0, 0, 0), 0, 0), (.getfield 50, (12, 15, 3, 116, 0), 0, 0), (.iload 6, (0, 0, 0, 0, 0), 0, 0), (.iconst 1, (0, 0, 0, 0, 0), 1, 0), (.isub, (0, 0, 0, 0, 0), 0, 0), (.iaload, (0, 0, 0, 0, 0), 0, 0), (.iload 5, (0, 0, 0, 0, 0), 0, 0)] = some 27 ∧ px_tv cX12_letsBy 27 219 = true := by decide +kernel
theorem q_X12_letsBy_30 : px_bk 12 9 cX12_letsBy 30 [(.i2l, (0, 0, 0, 0, 0), 0, 0), (.lstore 7, (0, 0, 0, 0, 0), 0, 0), (.aload_n 0, (0, 0, 0, 0, 0), 0, 0), (.ldc2_w 175, (0, 0, 0, 0, 0), 0, 1000), (.lload 7, (0, 0, 0, 0, 0), 0, 0), (.lmul, (0, 0, 0, 0, 0), 0, 0), (.iload 5, (0, 0, 0, 0, 0), 0, 0)] = some 42 ∧ px_t1 cX12_letsBy 42 .eq 56 = true := by decide +kernel
theorem q_X12_letsBy_56 : px_bk 12 9 cX12_letsBy 56 [(.aload_n 0, (0, 0, 0, 0, 0), 0, 0), (.getfield 38, (12, 11, 3, 112, 0), 0, 0), (.iload 6, (0, 0, 0, 0, 0), 0, 0), (.iaload, (0, 0, 0, 0, 0), 0, 0), (.i2l, (0, 0, 0, 0, 0), 0, 0)] = some 64 ∧ px_tS cX12_letsBy 64 475 = true := by decide +kernel
theorem q_X12_letsBy_67 : px_bk 12 9 cX12_letsBy 67 [(.aload_n 0, (0, 0, 0, 0, 0), 0, 0), (.iload_n 1, (0, 0, 0, 0, 0), 0, 0), (.iload_n 2, (0, 0, 0, 0, 0), 0, 0), (.iload_n 3, (0, 0, 0, 0, 0), 0, 0), (.iload 4, (0, 0, 0, 0, 0), 0, 0)] = some 73 ∧ px_tv cX12_letsBy 73 478 = true := by decide +kernel
theorem q_X12_letsBy_76 : px_bk 12 9 cX12_letsBy 76 [] = some 76 ∧ px_tv cX12_letsBy 76 481 = true := by decide +kernel
theorem q_X12_letsBy_79 : px_bk 12 9 cX12_letsBy 79 [] = some 79 ∧ px_tr cX12_letsBy 79 .ireturn = true := by decide +kernel
theorem q_X12_letsBy_45 : px_bk 12 9 cX12_letsBy 45 [(.aload_n 0, (0, 0, 0, 0, 0), 0, 0), (.getfield 35, (12, 10, 3, 111, 0), 0, 0), (.iload 6, (0, 0, 0, 0, 0), 0, 0), (.iaload, (0, 0, 0, 0, 0), 0, 0), (.i2l, (0, 0, 0, 0, 0), 0, 0), (.goto 11, (0, 0, 0, 0, 0), 0, 0)] = some 64 ∧ px_tS cX12_letsBy 64 475 = true := by decide +kernel
set_option maxRecDepth 100000 in
theorem k_letsBy {n : Nat} {I : px_I} {L : px_L} {R : px_R} (hg : px_G n R) (g p y k h : Int32) (hr : 0 ≤ I 103 63 ∧ I 103 63 ≤ 30) (hG : mG I) (hT : mT I) (hF : mF I g p) : px_KP M_X12_letsBy [.ref 103, .int g, .int p, .int y, .int k, .int h] n I L R (fun r => True) := by
  refine px_of (plainFor_of_name np_RX12) (fun _ _ _ => trivial) rfl ?_
  obtain ⟨⟨f1, f2⟩, f3, f4, f5, f6⟩ := hF
  obtain ⟨hG1, hG2⟩ := hG g f1 f2
  have hK := mK2 f1 f2 f3 f4 hG1.2
  have hk := hK.1
  have hk1 := hK.2
  obtain ⟨g1, g2, -, -⟩ := hG2 p f3 f4
  have t1 := hT _ hk.1 hk.2
  have t2 := hT _ hk1.1 hk1.2
  have u1 : 0 ≤ I 116 (20 * g + p).toNatClampNeg ∧ I 116 (20 * g + p).toNatClampNeg < 24 := ⟨f5, t1.2⟩
  have u2 : 0 ≤ I 116 (20 * g + p - 1).toNatClampNeg ∧ I 116 (20 * g + p - 1).toNatClampNeg < 24 := ⟨f6, t2.2⟩
  have z1 := px_nz64 g1
  have z2 := px_nz64 g2
  refine px_cVP (ci := 12) rfl q_X12_letsBy_0 hg rfl ⟨⟨trivial, (by with_reducible assumption)⟩, (by with_reducible assumption)⟩ lk_12_219 nm_X12_gapOf (k_gapOf hg _ _ _ u1 u2) rfl rfl (px_lit hg rfl) rfl rfl rfl ⟨rfl, rfl⟩ ?_
  intro x27 h27
  refine px_eq rfl q_X12_letsBy_30 hg rfl trivial (fun c42 => ?_) (fun c42 => ?_)
  · refine px_cSQ rfl q_X12_letsBy_56 hg rfl ⟨trivial, (by with_reducible assumption)⟩ lk_12_475 nm_X12_down (k_down hg _ _ (by assumption)) rfl rfl rfl ⟨rfl, rfl⟩ ?_
    intro x64 h64
    refine px_cVP (ci := 12) rfl q_X12_letsBy_67 hg rfl trivial lk_12_478 nm_X12_widthOf (k_widthOf hg _ _ _ _ (by assumption) (by assumption)) rfl rfl (px_lit hg rfl) rfl rfl rfl ⟨rfl, rfl⟩ ?_
    intro x73 h73
    refine px_cVP (ci := 12) rfl q_X12_letsBy_76 hg rfl trivial lk_12_481 nm_X12_lets (k_lets hg _ _) rfl rfl (px_lit hg rfl) rfl rfl rfl ⟨rfl, rfl⟩ ?_
    intro x76 h76
    refine px_riP rfl q_X12_letsBy_79 rfl rfl rfl hg rfl trivial ⟨⟨rfl, rfl, rfl, rfl⟩, ?_⟩
    trivial
  · refine px_cSQ rfl q_X12_letsBy_45 hg rfl ⟨trivial, (by with_reducible assumption)⟩ lk_12_475 nm_X12_down (k_down hg _ _ (by assumption)) rfl rfl rfl ⟨rfl, rfl⟩ ?_
    intro x64 h64
    refine px_cVP (ci := 12) rfl q_X12_letsBy_67 hg rfl trivial lk_12_478 nm_X12_widthOf (k_widthOf hg _ _ _ _ (by assumption) (by assumption)) rfl rfl (px_lit hg rfl) rfl rfl rfl ⟨rfl, rfl⟩ ?_
    intro x73 h73
    refine px_cVP (ci := 12) rfl q_X12_letsBy_76 hg rfl trivial lk_12_481 nm_X12_lets (k_lets hg _ _) rfl rfl (px_lit hg rfl) rfl rfl rfl ⟨rfl, rfl⟩ ?_
    intro x76 h76
    refine px_riP rfl q_X12_letsBy_79 rfl rfl rfl hg rfl trivial ⟨⟨rfl, rfl, rfl, rfl⟩, ?_⟩
    trivial

theorem q_X12_narrowest_6 : px_bk 12 7 cX12_narrowest 6 [(.iload 6, (0, 0, 0, 0, 0), 0, 0), (.aload_n 0, (0, 0, 0, 0, 0), 0, 0), (.getfield 32, (12, 9, 3, 110, 0), 0, 0), (.iload_n 1, (0, 0, 0, 0, 0), 0, 0), (.iaload, (0, 0, 0, 0, 0), 0, 0)] = some 14 ∧ px_t2 cX12_narrowest 14 .ge 57 = true := by decide +kernel
theorem q_X12_narrowest_57 : px_bk 12 7 cX12_narrowest 57 [(.iload 5, (0, 0, 0, 0, 0), 0, 0)] = some 59 ∧ px_tr cX12_narrowest 59 .ireturn = true := by decide +kernel
theorem q_X12_narrowest_17 : px_bk 12 7 cX12_narrowest 17 [(.aload_n 0, (0, 0, 0, 0, 0), 0, 0), (.iload_n 1, (0, 0, 0, 0, 0), 0, 0), (.iload 6, (0, 0, 0, 0, 0), 0, 0), (.iload_n 2, (0, 0, 0, 0, 0), 0, 0), (.iload_n 3, (0, 0, 0, 0, 0), 0, 0), (.iload 4, (0, 0, 0, 0, 0), 0, 0)] = some 25 ∧ px_tv cX12_narrowest 25 485 = true := by decide +kernel
theorem q_X12_narrowest_28 : px_bk 12 7 cX12_narrowest 28 [(.aload_n 0, (0, 0, 0, 0, 0), 0, 0), (.iload_n 1, (0, 0, 0, 0, 0), 0, 0), (.iload 5, (0, 0, 0, 0, 0), 0, 0), (.iload_n 2, (0, 0, 0, 0, 0), 0, 0), (.iload_n 3, (0, 0, 0, 0, 0), 0, 0), (.iload 4, (0, 0, 0, 0, 0), 0, 0)] = some 36 ∧ px_tv cX12_narrowest 36 485 = true := by decide +kernel
theorem q_X12_narrowest_39 : px_bk 12 7 cX12_narrowest 39 [] = some 39 ∧ px_t2 cX12_narrowest 39 .ge 47 = true := by decide +kernel
theorem q_X12_narrowest_47 : px_bk 12 7 cX12_narrowest 47 [(.iload 5, (0, 0, 0, 0, 0), 0, 0), (.istore 5, (0, 0, 0, 0, 0), 0, 0), (.iinc 6 1, (0, 0, 0, 0, 0), 1, 0), (.goto (-48), (0, 0, 0, 0, 0), 0, 0)] = some 6 := by decide +kernel
theorem q_X12_narrowest_42 : px_bk 12 7 cX12_narrowest 42 [(.iload 6, (0, 0, 0, 0, 0), 0, 0), (.goto 5, (0, 0, 0, 0, 0), 0, 0), (.istore 5, (0, 0, 0, 0, 0), 0, 0), (.iinc 6 1, (0, 0, 0, 0, 0), 1, 0), (.goto (-48), (0, 0, 0, 0, 0), 0, 0)] = some 6 := by decide +kernel
set_option maxRecDepth 100000 in
theorem l_narrowest {n : Nat} {R : px_R} (hg : px_G n R) {Q : px_Q} (g y k h : Int32) {I : px_I} {L : px_L} (hr : 0 ≤ I 103 63 ∧ I 103 63 ≤ 30) (hG : mG I) (hT : mT I) (hg1 : 0 ≤ g ∧ g ≤ 1) (hF : ∀ p, 1 ≤ p → p < I 110 g.toNatClampNeg → mF I g p) (hP : I 110 g.toNatClampNeg ≤ 20) (hq : ∀ r, 1 ≤ r → r < I 110 g.toNatClampNeg → Q (some (.int r)) n I L R) : ∀ i : Int32, i ≤ I 110 g.toNatClampNeg → 1 ≤ i → ∀ f : Int32, 1 ≤ f → f < I 110 g.toNatClampNeg → px M_X12_narrowest 0 0 6 [(0, .ref 103), (1, .int g), (2, .int y), (3, .int k), (4, .int h), (5, .int f), (6, .int i)] [] n I L R Q := by
  refine px_up _ (fun i ih hi => ?_)
  intro h0 f h1 h2
  have hf := hF f h1 h2
  refine px_ige rfl q_X12_narrowest_6 hg rfl ⟨trivial, (by first | decide | (refine ⟨?_, ?_⟩ <;> grind) | grind)⟩ (fun c14 => ?_) (fun c14 => ?_)
  · refine px_ri rfl q_X12_narrowest_57 rfl rfl rfl hg rfl trivial ?_
    exact hq _ h1 h2
  · have hi2 := hF i h0 (by grind)
    refine px_cVP (ci := 12) rfl q_X12_narrowest_17 hg rfl trivial lk_12_485 nm_X12_letsBy (k_letsBy hg _ _ _ _ _ (by assumption) (by assumption) (by assumption) (by assumption)) rfl rfl (px_lit hg rfl) rfl rfl rfl ⟨rfl, rfl⟩ ?_
    intro x25 h25
    refine px_cVP (ci := 12) rfl q_X12_narrowest_28 hg rfl trivial lk_12_485 nm_X12_letsBy (k_letsBy hg _ _ _ _ _ (by assumption) (by assumption) (by assumption) (by assumption)) rfl rfl (px_lit hg rfl) rfl rfl rfl ⟨rfl, rfl⟩ ?_
    intro x36 h36
    refine px_ige rfl q_X12_narrowest_39 hg rfl trivial (fun c39 => ?_) (fun c39 => ?_)
    · refine px_b rfl q_X12_narrowest_47 hg rfl trivial ?_
      exact px_go (ih (i + 1) (by grind) (by grind) (by grind) _ (by assumption) (by grind)) ⟨rfl, rfl, rfl, rfl, rfl, rfl, rfl, trivial⟩
    · refine px_b rfl q_X12_narrowest_42 hg rfl trivial ?_
      exact px_go (ih (i + 1) (by grind) (by grind) (by grind) _ (by assumption) (by grind)) ⟨rfl, rfl, rfl, rfl, rfl, rfl, rfl, trivial⟩

theorem q_X12_narrowest_0 : px_bk 12 7 cX12_narrowest 0 [(.iconst 1, (0, 0, 0, 0, 0), 1, 0), (.istore 5, (0, 0, 0, 0, 0), 0, 0), (.iconst 2, (0, 0, 0, 0, 0), 2, 0), (.istore 6, (0, 0, 0, 0, 0), 0, 0)] = some 6 := by decide +kernel
set_option maxRecDepth 100000 in
theorem k_narrowest {n : Nat} {I : px_I} {L : px_L} {R : px_R} (hg : px_G n R) (g y k h : Int32) (hr : 0 ≤ I 103 63 ∧ I 103 63 ≤ 30) (hG : mG I) (hT : mT I) (hg1 : 0 ≤ g ∧ g ≤ 1) (h1 : 1 < I 110 g.toNatClampNeg) (hF : ∀ p, 1 ≤ p → p < I 110 g.toNatClampNeg → mF I g p) : px_KP M_X12_narrowest [.ref 103, .int g, .int y, .int k, .int h] n I L R (fun r => 1 ≤ r ∧ r < I 110 g.toNatClampNeg) := by
  refine px_of (plainFor_of_name np_RX12) (fun _ _ _ => trivial) rfl ?_
  refine px_b rfl q_X12_narrowest_0 hg rfl trivial ?_
  exact px_go (l_narrowest hg g y k h hr hG hT hg1 hF (hG g hg1.1 hg1.2).1.2 (fun r h1 h2 => ⟨rfl, rfl, r, rfl, rfl, rfl, h1, h2⟩) 2 (by grind) (by decide) 1 (by decide) h1) ⟨rfl, rfl, rfl, rfl, rfl, rfl, rfl, trivial⟩

theorem q_X12_about_28 : px_bk 12 4 cX12_about 28 [(.iload_n 3, (0, 0, 0, 0, 0), 0, 0), (.bipush 6, (0, 0, 0, 0, 0), 6, 0)] = some 31 ∧ px_t2 cX12_about 31 .ge 51 = true := by decide +kernel
theorem q_X12_about_51 : px_bk 12 4 cX12_about 51 [(.iload_n 1, (0, 0, 0, 0, 0), 0, 0)] = some 52 := by decide +kernel
theorem q_X12_about_52S : decode cX12_about 52 = .ok (.tableswitch 116 0 10 #[60, 65, 70, 75, 82, 89, 94, 99, 101, 106, 111], 60) := by decide +kernel
theorem q_X12_about_112 : px_bk 12 4 cX12_about 112 [(.aload_n 0, (0, 0, 0, 0, 0), 0, 0), (.getfield 177, (12, 0, 0, 0, 0), 0, 0)] = some 116 ∧ px_tr cX12_about 116 .ireturn = true := by decide +kernel
theorem q_X12_about_117 : px_bk 12 4 cX12_about 117 [(.aload_n 0, (0, 0, 0, 0, 0), 0, 0), (.getfield 7, (12, 1, 0, 0, 0), 0, 0)] = some 121 ∧ px_tr cX12_about 121 .ireturn = true := by decide +kernel
theorem q_X12_about_122 : px_bk 12 4 cX12_about 122 [(.aload_n 0, (0, 0, 0, 0, 0), 0, 0), (.getfield 191, (12, 2, 0, 0, 0), 0, 0)] = some 126 ∧ px_tr cX12_about 126 .ireturn = true := by decide +kernel
theorem q_X12_about_127 : px_bk 12 4 cX12_about 127 [(.aload_n 0, (0, 0, 0, 0, 0), 0, 0), (.getfield 32, (12, 9, 3, 110, 0), 0, 0), (.iconst 0, (0, 0, 0, 0, 0), 0, 0), (.iaload, (0, 0, 0, 0, 0), 0, 0)] = some 133 ∧ px_tr cX12_about 133 .ireturn = true := by decide +kernel
theorem q_X12_about_134 : px_bk 12 4 cX12_about 134 [(.aload_n 0, (0, 0, 0, 0, 0), 0, 0), (.getfield 32, (12, 9, 3, 110, 0), 0, 0), (.iconst 1, (0, 0, 0, 0, 0), 1, 0), (.iaload, (0, 0, 0, 0, 0), 0, 0)] = some 140 ∧ px_tr cX12_about 140 .ireturn = true := by decide +kernel
theorem q_X12_about_141 : px_bk 12 4 cX12_about 141 [(.aload_n 0, (0, 0, 0, 0, 0), 0, 0), (.getfield 239, (12, 16, 0, 0, 0), 0, 0)] = some 145 ∧ px_tr cX12_about 145 .ireturn = true := by decide +kernel
theorem q_X12_about_146 : px_bk 12 4 cX12_about 146 [(.aload_n 0, (0, 0, 0, 0, 0), 0, 0), (.getfield 249, (12, 21, 0, 0, 0), 0, 0)] = some 150 ∧ px_tr cX12_about 150 .ireturn = true := by decide +kernel
theorem q_X12_about_151 : px_bk 12 4 cX12_about 151 [(.iload_n 2, (0, 0, 0, 0, 0), 0, 0)] = some 152 ∧ px_tr cX12_about 152 .ireturn = true := by decide +kernel
theorem q_X12_about_153 : px_bk 12 4 cX12_about 153 [(.aload_n 0, (0, 0, 0, 0, 0), 0, 0), (.getfield 469, (12, 63, 0, 0, 0), 0, 0)] = some 157 ∧ px_tr cX12_about 157 .ireturn = true := by decide +kernel
theorem q_X12_about_158 : px_bk 12 4 cX12_about 158 [(.aload_n 0, (0, 0, 0, 0, 0), 0, 0), (.getfield 472, (12, 68, 0, 0, 0), 0, 0)] = some 162 ∧ px_tr cX12_about 162 .ireturn = true := by decide +kernel
theorem q_X12_about_163 : px_bk 12 4 cX12_about 163 [(.aload_n 0, (0, 0, 0, 0, 0), 0, 0), (.getfield 259, (12, 25, 0, 0, 0), 0, 0)] = some 167 ∧ px_tr cX12_about 167 .ireturn = true := by decide +kernel
theorem q_X12_about_168 : px_bk 12 4 cX12_about 168 [(.iconst (-1), (0, 0, 0, 0, 0), -1, 0)] = some 169 ∧ px_tr cX12_about 169 .ireturn = true := by decide +kernel
theorem q_X12_about_34 : px_bk 12 4 cX12_about 34 [(.iload_n 2, (0, 0, 0, 0, 0), 0, 0), (.aload_n 0, (0, 0, 0, 0, 0), 0, 0), (.getfield 97, (12, 44, 3, 129, 0), 0, 0), (.iload_n 3, (0, 0, 0, 0, 0), 0, 0), (.iaload, (0, 0, 0, 0, 0), 0, 0), (.iload_n 3, (0, 0, 0, 0, 0), 0, 0), (.ishl, (0, 0, 0, 0, 0), 0, 0), (.ior, (0, 0, 0, 0, 0), 0, 0), (.istore_n 2, (0, 0, 0, 0, 0), 0, 0), (.iinc 3 1, (0, 0, 0, 0, 0), 1, 0), (.goto (-20), (0, 0, 0, 0, 0), 0, 0)] = some 28 := by decide +kernel
set_option maxRecDepth 100000 in
theorem l_about {n : Nat} {R : px_R} (hg : px_G n R) {Q : px_Q} (w : Int32) {I : px_I} {L : px_L} (hq : ∀ r, Q (some (.int r)) n I L R) : ∀ i : Int32, i ≤ 6 → 0 ≤ i → ∀ f : Int32, px M_X12_about 0 0 28 [(0, .ref 103), (1, .int w), (2, .int f), (3, .int i)] [] n I L R Q := by
  refine px_up _ (fun i ih hi => ?_)
  intro h0 f
  refine px_ige rfl q_X12_about_28 hg rfl trivial (fun c31 => ?_) (fun c31 => ?_)
  · refine px_b rfl q_X12_about_51 hg rfl trivial ?_
    by_cases s52_0 : w = 0
    · refine px_swI (tgt := 112) (off := 60) q_X12_about_52S s52_0 (by decide) (by decide) (by decide) (by decide) ?_
      refine px_ri rfl q_X12_about_112 rfl rfl rfl hg rfl trivial ?_
      exact hq _
    by_cases s52_1 : w = 1
    · refine px_swI (tgt := 117) (off := 65) q_X12_about_52S s52_1 (by decide) (by decide) (by decide) (by decide) ?_
      refine px_ri rfl q_X12_about_117 rfl rfl rfl hg rfl trivial ?_
      exact hq _
    by_cases s52_2 : w = 2
    · refine px_swI (tgt := 122) (off := 70) q_X12_about_52S s52_2 (by decide) (by decide) (by decide) (by decide) ?_
      refine px_ri rfl q_X12_about_122 rfl rfl rfl hg rfl trivial ?_
      exact hq _
    by_cases s52_3 : w = 3
    · refine px_swI (tgt := 127) (off := 75) q_X12_about_52S s52_3 (by decide) (by decide) (by decide) (by decide) ?_
      refine px_ri rfl q_X12_about_127 rfl rfl rfl hg rfl ⟨trivial, (by first | decide | (refine ⟨?_, ?_⟩ <;> grind) | grind)⟩ ?_
      exact hq _
    by_cases s52_4 : w = 4
    · refine px_swI (tgt := 134) (off := 82) q_X12_about_52S s52_4 (by decide) (by decide) (by decide) (by decide) ?_
      refine px_ri rfl q_X12_about_134 rfl rfl rfl hg rfl ⟨trivial, (by first | decide | (refine ⟨?_, ?_⟩ <;> grind) | grind)⟩ ?_
      exact hq _
    by_cases s52_5 : w = 5
    · refine px_swI (tgt := 141) (off := 89) q_X12_about_52S s52_5 (by decide) (by decide) (by decide) (by decide) ?_
      refine px_ri rfl q_X12_about_141 rfl rfl rfl hg rfl trivial ?_
      exact hq _
    by_cases s52_6 : w = 6
    · refine px_swI (tgt := 146) (off := 94) q_X12_about_52S s52_6 (by decide) (by decide) (by decide) (by decide) ?_
      refine px_ri rfl q_X12_about_146 rfl rfl rfl hg rfl trivial ?_
      exact hq _
    by_cases s52_7 : w = 7
    · refine px_swI (tgt := 151) (off := 99) q_X12_about_52S s52_7 (by decide) (by decide) (by decide) (by decide) ?_
      refine px_ri rfl q_X12_about_151 rfl rfl rfl hg rfl trivial ?_
      exact hq _
    by_cases s52_8 : w = 8
    · refine px_swI (tgt := 153) (off := 101) q_X12_about_52S s52_8 (by decide) (by decide) (by decide) (by decide) ?_
      refine px_ri rfl q_X12_about_153 rfl rfl rfl hg rfl trivial ?_
      exact hq _
    by_cases s52_9 : w = 9
    · refine px_swI (tgt := 158) (off := 106) q_X12_about_52S s52_9 (by decide) (by decide) (by decide) (by decide) ?_
      refine px_ri rfl q_X12_about_158 rfl rfl rfl hg rfl trivial ?_
      exact hq _
    by_cases s52_10 : w = 10
    · refine px_swI (tgt := 163) (off := 111) q_X12_about_52S s52_10 (by decide) (by decide) (by decide) (by decide) ?_
      refine px_ri rfl q_X12_about_163 rfl rfl rfl hg rfl trivial ?_
      exact hq _
    refine px_swO (tgt := 168) q_X12_about_52S (px_out 0 10 (by decide) (fun k9 h8 h9 => ?_)) (by decide) ?_
    · match k9, h8, h9 with
      | 0, _, _ => exact s52_0
      | 1, _, _ => exact s52_1
      | 2, _, _ => exact s52_2
      | 3, _, _ => exact s52_3
      | 4, _, _ => exact s52_4
      | 5, _, _ => exact s52_5
      | 6, _, _ => exact s52_6
      | 7, _, _ => exact s52_7
      | 8, _, _ => exact s52_8
      | 9, _, _ => exact s52_9
      | 10, _, _ => exact s52_10
      | k9 + 11, _, h9 => exact absurd h9 (by omega)
    refine px_ri rfl q_X12_about_168 rfl rfl rfl hg rfl trivial ?_
    exact hq _
  · refine px_b rfl q_X12_about_34 hg rfl ⟨trivial, (by first | decide | (refine ⟨?_, ?_⟩ <;> grind) | grind)⟩ ?_
    exact px_go (ih (i + 1) (by grind) (by grind) (by grind) _) ⟨rfl, rfl, rfl, rfl, trivial⟩

theorem q_X12_about_0 : px_bk 12 4 cX12_about 0 [(.iload_n 1, (0, 0, 0, 0, 0), 0, 0), (.i2l, (0, 0, 0, 0, 0), 0, 0), (.ldc2_w 448, (0, 0, 0, 0, 0), 0, 20), (.ldc2_w 495, (0, 0, 0, 0, 0), 0, 29)] = some 8 ∧ px_tS cX12_about 8 167 = true := by decide +kernel
theorem q_X12_about_11 : px_bk 12 4 cX12_about 11 [] = some 11 ∧ px_t1 cX12_about 11 .eq 24 = true := by decide +kernel
theorem q_X12_about_24 : px_bk 12 4 cX12_about 24 [(.iconst 0, (0, 0, 0, 0, 0), 0, 0), (.istore_n 2, (0, 0, 0, 0, 0), 0, 0), (.iconst 0, (0, 0, 0, 0, 0), 0, 0), (.istore_n 3, (0, 0, 0, 0, 0), 0, 0)] = some 28 := by decide +kernel
theorem q_X12_about_14 : px_bk 12 4 cX12_about 14 [(.aload_n 0, (0, 0, 0, 0, 0), 0, 0), (.getfield 140, (12, 62, 3, 138, 0), 0, 0), (.iload_n 1, (0, 0, 0, 0, 0), 0, 0), (.bipush 20, (0, 0, 0, 0, 0), 20, 0), (.isub, (0, 0, 0, 0, 0), 0, 0), (.iaload, (0, 0, 0, 0, 0), 0, 0)] = some 23 ∧ px_tr cX12_about 23 .ireturn = true := by decide +kernel
set_option maxRecDepth 100000 in
theorem k_about {n : Nat} {I : px_I} {L : px_L} {R : px_R} (hg : px_G n R) (w : Int32) : px_KP M_X12_about [.ref 103, .int w] n I L R (fun r => True) := by
  refine px_of (plainFor_of_name np_RX12) (fun _ _ _ => trivial) rfl ?_
  refine px_cSP rfl q_X12_about_0 hg rfl trivial lk_12_167 nm_X12_in (k_inI hg _ (20) (29) (by decide) (by decide)) rfl rfl rfl ⟨rfl, rfl⟩ ?_
  intro x8 h8
  refine px_eq rfl q_X12_about_11 hg rfl trivial (fun c11 => ?_) (fun c11 => ?_)
  · replace h8 := px_bf h8 c11
    refine px_b rfl q_X12_about_24 hg rfl trivial ?_
    exact px_go (l_about hg w (fun r => ⟨rfl, rfl, r, rfl, rfl, rfl, trivial⟩) 0 (by decide) (by decide) 0) ⟨rfl, rfl, rfl, rfl, trivial⟩
  · replace h8 := px_bt h8 c11
    refine px_riP rfl q_X12_about_14 rfl rfl rfl hg rfl ⟨trivial, (by first | decide | (refine ⟨?_, ?_⟩ <;> grind) | grind)⟩ ⟨⟨rfl, rfl, rfl, rfl⟩, ?_⟩
    trivial
