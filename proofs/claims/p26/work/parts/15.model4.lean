def mP0 (I : px_I) (g : Int32) : Int32 := if I 110 g.toNatClampNeg = 0 then 1 else I 110 g.toNatClampNeg
def mReach (I : px_I) (g lo hi sl fa w st : Int32) : px_I := px_u (px_u (px_u (px_u (px_u (px_u (px_u (px_u I 110 g.toNatClampNeg (mP0 I g)) 111 (20 * g + mP0 I g).toNatClampNeg lo) 112 (20 * g + mP0 I g).toNatClampNeg hi) 113 (20 * g + mP0 I g).toNatClampNeg sl) 114 (20 * g + mP0 I g).toNatClampNeg fa) 115 (20 * g + mP0 I g).toNatClampNeg w) 116 (20 * g + mP0 I g).toNatClampNeg st) 110 g.toNatClampNeg (mP0 I g + 1)
def mReachOk (I : px_I) (g lo hi sl fa w st : Int32) : Prop := (0 ≤ g ∧ g ≤ 1) ∧ (1 ≤ lo ∧ lo ≤ 1000000) ∧ (lo ≤ hi ∧ hi ≤ 1000000) ∧ (1 ≤ sl ∧ sl ≤ 10000) ∧ (sl ≤ fa ∧ fa ≤ 10000) ∧ (100 ≤ w ∧ w ≤ 5000) ∧ (st = -1 ∨ (0 ≤ st ∧ st ≤ I 103 1 - 1)) ∧ I 110 g.toNatClampNeg ≠ 20
def mMark (I : px_I) (g p f t : Int32) : px_I := px_u (px_u (px_u (px_u (px_u I 117 (I 103 16).toNatClampNeg g) 118 (I 103 16).toNatClampNeg p) 119 (I 103 16).toNatClampNeg f) 120 (I 103 16).toNatClampNeg t) 103 16 (I 103 16 + 1)
def mPegOk (I : px_I) (g p : Int32) : Prop := 0 ≤ g ∧ g ≤ 1 ∧ 0 ≤ p ∧ p ≤ I 110 g.toNatClampNeg - 1
def mLo (I : px_I) (L : px_L) (u lo : Int32) : Int64 := if 0 < I 103 21 ∧ (1000 * lo.toInt64 + u.toInt64 - 1) / u.toInt64 < L 103 22 then L 103 22 else (1000 * lo.toInt64 + u.toInt64 - 1) / u.toInt64
def mHi (I : px_I) (L : px_L) (u hi : Int32) : Int64 := if 0 < I 103 21 ∧ L 103 23 < 1000 * hi.toInt64 / u.toInt64 then L 103 23 else 1000 * hi.toInt64 / u.toInt64
def mCountOk (I : px_I) (L : px_L) (u lo hi : Int32) : Prop := (1 ≤ u ∧ u ≤ 9999) ∧ (1 ≤ lo ∧ lo ≤ 2000000) ∧ (lo ≤ hi ∧ hi ≤ 2000000) ∧ I 103 21 ≠ 30 ∧ mLo I L u lo ≤ mHi I L u hi
def mB (x : Int32) : Int32 := x.toInt8.toInt32.toInt8.toInt32
def mPut (I : px_I) (x : Int32) : px_I := px_u (px_u (px_u (px_u (px_u I 121 (I 103 25).toNatClampNeg (mB (x >>> (24 &&& 31)))) 121 (I 103 25 + 1).toNatClampNeg (mB (x >>> (16 &&& 31)))) 121 (I 103 25 + 2).toNatClampNeg (mB (x >>> (8 &&& 31)))) 121 (I 103 25 + 3).toNatClampNeg (mB x)) 103 25 (I 103 25 + 4)
theorem mPut_25 (I : px_I) (x : Int32) : mPut I x 103 25 = I 103 25 + 4 := by simp [mPut, px_ur]
theorem mK {g p P : Int32} (h : 0 ≤ g ∧ g ≤ 1 ∧ 0 ≤ p ∧ p ≤ P - 1) (hP : 0 ≤ P ∧ P ≤ 20) : (0 ≤ 20 * g + p ∧ 20 * g + p < 40) ∧ p < P := by
  have h1 : p < P := by grind
  have h2 : p < 20 := by grind
  exact ⟨⟨by grind, by grind⟩, h1⟩
theorem px_nz64 {x : Int32} (h : 1 ≤ x) : ¬ x.toInt64 = 0 := by
  intro h2
  have h3 : x.toInt64.toInt = 0 := by rw [h2]; rfl
  rw [Int32.toInt_toInt64] at h3
  have := Int32.le_iff_toInt_le.mp h
  rw [h3] at this
  exact absurd this (by decide)

theorem q_X12_reach_0 : px_bk 12 9 cX12_reach 0 [(.iload_n 1, (0, 0, 0, 0, 0), 0, 0), (.i2l, (0, 0, 0, 0, 0), 0, 0), (.lconst 0, (0, 0, 0, 0, 0), 0, 0), (.lconst 1, (0, 0, 0, 0, 0), 0, 1)] = some 4 ∧ px_tS cX12_reach 4 167 = true := by decide +kernel
theorem q_X12_reach_7 : px_bk 12 9 cX12_reach 7 [] = some 7 ∧ px_t1 cX12_reach 7 .eq 104 = true := by decide +kernel
theorem q_X12_reach_104 : px_bk 12 9 cX12_reach 104 [(.iconst (-1), (0, 0, 0, 0, 0), -1, 0)] = some 105 ∧ px_tr cX12_reach 105 .ireturn = true := by decide +kernel
theorem q_X12_reach_10 : px_bk 12 9 cX12_reach 10 [(.iload_n 2, (0, 0, 0, 0, 0), 0, 0), (.i2l, (0, 0, 0, 0, 0), 0, 0), (.lconst 1, (0, 0, 0, 0, 0), 0, 1), (.ldc2_w 189, (0, 0, 0, 0, 0), 0, 1000000)] = some 16 ∧ px_tS cX12_reach 16 167 = true := by decide +kernel
theorem q_X12_reach_19 : px_bk 12 9 cX12_reach 19 [] = some 19 ∧ px_t1 cX12_reach 19 .eq 104 = true := by decide +kernel
theorem q_X12_reach_22 : px_bk 12 9 cX12_reach 22 [(.iload_n 3, (0, 0, 0, 0, 0), 0, 0), (.i2l, (0, 0, 0, 0, 0), 0, 0), (.iload_n 2, (0, 0, 0, 0, 0), 0, 0), (.i2l, (0, 0, 0, 0, 0), 0, 0), (.ldc2_w 189, (0, 0, 0, 0, 0), 0, 1000000)] = some 29 ∧ px_tS cX12_reach 29 167 = true := by decide +kernel
theorem q_X12_reach_32 : px_bk 12 9 cX12_reach 32 [] = some 32 ∧ px_t1 cX12_reach 32 .eq 104 = true := by decide +kernel
theorem q_X12_reach_35 : px_bk 12 9 cX12_reach 35 [(.iload 4, (0, 0, 0, 0, 0), 0, 0), (.i2l, (0, 0, 0, 0, 0), 0, 0), (.lconst 1, (0, 0, 0, 0, 0), 0, 1), (.ldc2_w 227, (0, 0, 0, 0, 0), 0, 10000)] = some 42 ∧ px_tS cX12_reach 42 167 = true := by decide +kernel
theorem q_X12_reach_45 : px_bk 12 9 cX12_reach 45 [] = some 45 ∧ px_t1 cX12_reach 45 .eq 104 = true := by decide +kernel
theorem q_X12_reach_48 : px_bk 12 9 cX12_reach 48 [(.iload 5, (0, 0, 0, 0, 0), 0, 0), (.i2l, (0, 0, 0, 0, 0), 0, 0), (.iload 4, (0, 0, 0, 0, 0), 0, 0), (.i2l, (0, 0, 0, 0, 0), 0, 0), (.ldc2_w 227, (0, 0, 0, 0, 0), 0, 10000)] = some 57 ∧ px_tS cX12_reach 57 167 = true := by decide +kernel
theorem q_X12_reach_60 : px_bk 12 9 cX12_reach 60 [] = some 60 ∧ px_t1 cX12_reach 60 .eq 104 = true := by decide +kernel
theorem q_X12_reach_63 : px_bk 12 9 cX12_reach 63 [(.iload 6, (0, 0, 0, 0, 0), 0, 0), (.i2l, (0, 0, 0, 0, 0), 0, 0), (.ldc2_w 229, (0, 0, 0, 0, 0), 0, 100), (.ldc2_w 231, (0, 0, 0, 0, 0), 0, 5000)] = some 72 ∧ px_tS cX12_reach 72 167 = true := by decide +kernel
theorem q_X12_reach_75 : px_bk 12 9 cX12_reach 75 [] = some 75 ∧ px_t1 cX12_reach 75 .eq 104 = true := by decide +kernel
theorem q_X12_reach_78 : px_bk 12 9 cX12_reach 78 [(.iload 7, (0, 0, 0, 0, 0), 0, 0), (.iconst (-1), (0, 0, 0, 0, 0), -1, 0)] = some 81 ∧ px_t2 cX12_reach 81 .eq 93 = true := by decide +kernel
theorem q_X12_reach_93 : px_bk 12 9 cX12_reach 93 [(.aload_n 0, (0, 0, 0, 0, 0), 0, 0), (.getfield 32, (12, 9, 3, 110, 0), 0, 0), (.iload_n 1, (0, 0, 0, 0, 0), 0, 0), (.iaload, (0, 0, 0, 0, 0), 0, 0), (.bipush 20, (0, 0, 0, 0, 0), 20, 0)] = some 101 ∧ px_t2 cX12_reach 101 .ne 106 = true := by decide +kernel
theorem q_X12_reach_106 : px_bk 12 9 cX12_reach 106 [(.aload_n 0, (0, 0, 0, 0, 0), 0, 0), (.getfield 32, (12, 9, 3, 110, 0), 0, 0), (.iload_n 1, (0, 0, 0, 0, 0), 0, 0), (.aload_n 0, (0, 0, 0, 0, 0), 0, 0), (.getfield 32, (12, 9, 3, 110, 0), 0, 0), (.iload_n 1, (0, 0, 0, 0, 0), 0, 0), (.iaload, (0, 0, 0, 0, 0), 0, 0)] = some 117 ∧ px_t1 cX12_reach 117 .ne 124 = true := by decide +kernel
theorem q_X12_reach_124 : px_bk 12 9 cX12_reach 124 [(.aload_n 0, (0, 0, 0, 0, 0), 0, 0), (.getfield 32, (12, 9, 3, 110, 0), 0, 0), (.iload_n 1, (0, 0, 0, 0, 0), 0, 0), (.iaload, (0, 0, 0, 0, 0), 0, 0), (.iastore, (0, 0, 0, 0, 0), 0, 0), (.bipush 20, (0, 0, 0, 0, 0), 20, 0), (.iload_n 1, (0, 0, 0, 0, 0), 0, 0), (.imul, (0, 0, 0, 0, 0), 0, 0), (.aload_n 0, (0, 0, 0, 0, 0), 0, 0), (.getfield 32, (12, 9, 3, 110, 0), 0, 0), (.iload_n 1, (0, 0, 0, 0, 0), 0, 0), (.iaload, (0, 0, 0, 0, 0), 0, 0), (.iadd, (0, 0, 0, 0, 0), 0, 0), (.istore 8, (0, 0, 0, 0, 0), 0, 0), (.aload_n 0, (0, 0, 0, 0, 0), 0, 0), (.getfield 35, (12, 10, 3, 111, 0), 0, 0), (.iload 8, (0, 0, 0, 0, 0), 0, 0), (.iload_n 2, (0, 0, 0, 0, 0), 0, 0), (.iastore, (0, 0, 0, 0, 0), 0, 0), (.aload_n 0, (0, 0, 0, 0, 0), 0, 0), (.getfield 38, (12, 11, 3, 112, 0), 0, 0), (.iload 8, (0, 0, 0, 0, 0), 0, 0), (.iload_n 3, (0, 0, 0, 0, 0), 0, 0), (.iastore, (0, 0, 0, 0, 0), 0, 0), (.aload_n 0, (0, 0, 0, 0, 0), 0, 0), (.getfield 41, (12, 12, 3, 113, 0), 0, 0), (.iload 8, (0, 0, 0, 0, 0), 0, 0), (.iload 4, (0, 0, 0, 0, 0), 0, 0), (.iastore, (0, 0, 0, 0, 0), 0, 0), (.aload_n 0, (0, 0, 0, 0, 0), 0, 0), (.getfield 44, (12, 13, 3, 114, 0), 0, 0), (.iload 8, (0, 0, 0, 0, 0), 0, 0), (.iload 5, (0, 0, 0, 0, 0), 0, 0), (.iastore, (0, 0, 0, 0, 0), 0, 0), (.aload_n 0, (0, 0, 0, 0, 0), 0, 0), (.getfield 47, (12, 14, 3, 115, 0), 0, 0), (.iload 8, (0, 0, 0, 0, 0), 0, 0), (.iload 6, (0, 0, 0, 0, 0), 0, 0), (.iastore, (0, 0, 0, 0, 0), 0, 0), (.aload_n 0, (0, 0, 0, 0, 0), 0, 0), (.getfield 50, (12, 15, 3, 116, 0), 0, 0), (.iload 8, (0, 0, 0, 0, 0), 0, 0), (.iload 7, (0, 0, 0, 0, 0), 0, 0), (.iastore, (0, 0, 0, 0, 0), 0, 0), (.aload_n 0, (0, 0, 0, 0, 0), 0, 0), (.getfield 32, (12, 9, 3, 110, 0), 0, 0), (.iload_n 1, (0, 0, 0, 0, 0), 0, 0), (.dup2, (0, 0, 0, 0, 0), 0, 0), (.iaload, (0, 0, 0, 0, 0), 0, 0), (.iconst 1, (0, 0, 0, 0, 0), 1, 0), (.iadd, (0, 0, 0, 0, 0), 0, 0), (.iastore, (0, 0, 0, 0, 0), 0, 0), (.aload_n 0, (0, 0, 0, 0, 0), 0, 0), (.getfield 32, (12, 9, 3, 110, 0), 0, 0), (.iload_n 1, (0, 0, 0, 0, 0), 0, 0), (.iaload, (0, 0, 0, 0, 0), 0, 0), (.iconst 1, (0, 0, 0, 0, 0), 1, 0), (.isub, (0, 0, 0, 0, 0), 0, 0)] = some 214 ∧ px_tr cX12_reach 214 .ireturn = true := by decide +kernel
theorem q_X12_reach_120 : px_bk 12 9 cX12_reach 120 [(.iconst 1, (0, 0, 0, 0, 0), 1, 0), (.goto 9, (0, 0, 0, 0, 0), 0, 0), (.iastore, (0, 0, 0, 0, 0), 0, 0), (.bipush 20, (0, 0, 0, 0, 0), 20, 0), (.iload_n 1, (0, 0, 0, 0, 0), 0, 0), (.imul, (0, 0, 0, 0, 0), 0, 0), (.aload_n 0, (0, 0, 0, 0, 0), 0, 0), (.getfield 32, (12, 9, 3, 110, 0), 0, 0), (.iload_n 1, (0, 0, 0, 0, 0), 0, 0), (.iaload, (0, 0, 0, 0, 0), 0, 0), (.iadd, (0, 0, 0, 0, 0), 0, 0), (.istore 8, (0, 0, 0, 0, 0), 0, 0), (.aload_n 0, (0, 0, 0, 0, 0), 0, 0), (.getfield 35, (12, 10, 3, 111, 0), 0, 0), (.iload 8, (0, 0, 0, 0, 0), 0, 0), (.iload_n 2, (0, 0, 0, 0, 0), 0, 0), (.iastore, (0, 0, 0, 0, 0), 0, 0), (.aload_n 0, (0, 0, 0, 0, 0), 0, 0), (.getfield 38, (12, 11, 3, 112, 0), 0, 0), (.iload 8, (0, 0, 0, 0, 0), 0, 0), (.iload_n 3, (0, 0, 0, 0, 0), 0, 0), (.iastore, (0, 0, 0, 0, 0), 0, 0), (.aload_n 0, (0, 0, 0, 0, 0), 0, 0), (.getfield 41, (12, 12, 3, 113, 0), 0, 0), (.iload 8, (0, 0, 0, 0, 0), 0, 0), (.iload 4, (0, 0, 0, 0, 0), 0, 0), (.iastore, (0, 0, 0, 0, 0), 0, 0), (.aload_n 0, (0, 0, 0, 0, 0), 0, 0), (.getfield 44, (12, 13, 3, 114, 0), 0, 0), (.iload 8, (0, 0, 0, 0, 0), 0, 0), (.iload 5, (0, 0, 0, 0, 0), 0, 0), (.iastore, (0, 0, 0, 0, 0), 0, 0), (.aload_n 0, (0, 0, 0, 0, 0), 0, 0), (.getfield 47, (12, 14, 3, 115, 0), 0, 0), (.iload 8, (0, 0, 0, 0, 0), 0, 0), (.iload 6, (0, 0, 0, 0, 0), 0, 0), (.iastore, (0, 0, 0, 0, 0), 0, 0), (.aload_n 0, (0, 0, 0, 0, 0), 0, 0), (.getfield 50, (12, 15, 3, 116, 0), 0, 0), (.iload 8, (0, 0, 0, 0, 0), 0, 0), (.iload 7, (0, 0, 0, 0, 0), 0, 0), (.iastore, (0, 0, 0, 0, 0), 0, 0), (.aload_n 0, (0, 0, 0, 0, 0), 0, 0), (.getfield 32, (12, 9, 3, 110, 0), 0, 0), (.iload_n 1, (0, 0, 0, 0, 0), 0, 0), (.dup2, (0, 0, 0, 0, 0), 0, 0), (.iaload, (0, 0, 0, 0, 0), 0, 0), (.iconst 1, (0, 0, 0, 0, 0), 1, 0), (.iadd, (0, 0, 0, 0, 0), 0, 0), (.iastore, (0, 0, 0, 0, 0), 0, 0), (.aload_n 0, (0, 0, 0, 0, 0), 0, 0), (.getfield 32, (12, 9, 3, 110, 0), 0, 0), (.iload_n 1, (0, 0, 0, 0, 0), 0, 0), (.iaload, (0, 0, 0, 0, 0), 0, 0), (.iconst 1, (0, 0, 0, 0, 0), 1, 0), (.isub, (0, 0, 0, 0, 0), 0, 0)] = some 214 ∧ px_tr cX12_reach 214 .ireturn = true := by decide +kernel
theorem q_X12_reach_84 : px_bk 12 9 cX12_reach 84 [(.aload_n 0, (0, 0, 0, 0, 0), 0, 0), (.iload 7, (0, 0, 0, 0, 0), 0, 0)] = some 87 ∧ px_tv cX12_reach 87 184 = true := by decide +kernel
theorem q_X12_reach_90 : px_bk 12 9 cX12_reach 90 [] = some 90 ∧ px_t1 cX12_reach 90 .eq 104 = true := by decide +kernel
set_option maxRecDepth 100000 in
theorem k_reach {n : Nat} {I : px_I} {L : px_L} {R : px_R} (hg : px_G n R) (g lo hi sl fa w st : Int32) (hG : mG I) : px_KS M_X12_reach [.ref 103, .int g, .int lo, .int hi, .int sl, .int fa, .int w, .int st] n I L R (fun r I2 L2 => L2 = L ∧ ((mReachOk I g lo hi sl fa w st ∧ r = mP0 I g ∧ I2 = mReach I g lo hi sl fa w st) ∨ (¬ mReachOk I g lo hi sl fa w st ∧ r = -1 ∧ I2 = I))) := by
  refine px_of (plainFor_of_name np_RX12) (fun _ _ _ => trivial) rfl ?_
  refine px_cSP rfl q_X12_reach_0 hg rfl trivial lk_12_167 nm_X12_in (k_inI hg _ (0) (1) (by decide) (by decide)) rfl rfl rfl ⟨rfl, rfl⟩ ?_
  intro x4 h4
  refine px_eq rfl q_X12_reach_7 hg rfl trivial (fun c7 => ?_) (fun c7 => ?_)
  · replace h4 := px_bf h4 c7
    refine px_riS rfl q_X12_reach_104 rfl rfl rfl hg rfl trivial ⟨⟨rfl, rfl⟩, ?_⟩
    refine ⟨rfl, Or.inr ⟨?_, rfl, rfl⟩⟩
    unfold mReachOk
    grind only
  · replace h4 := px_bt h4 c7
    refine px_cSP rfl q_X12_reach_10 hg rfl trivial lk_12_167 nm_X12_in (k_inI hg _ (1) (1000000) (by decide) (by decide)) rfl rfl rfl ⟨rfl, rfl⟩ ?_
    intro x16 h16
    refine px_eq rfl q_X12_reach_19 hg rfl trivial (fun c19 => ?_) (fun c19 => ?_)
    · replace h16 := px_bf h16 c19
      refine px_riS rfl q_X12_reach_104 rfl rfl rfl hg rfl trivial ⟨⟨rfl, rfl⟩, ?_⟩
      refine ⟨rfl, Or.inr ⟨?_, rfl, rfl⟩⟩
      unfold mReachOk
      grind only
    · replace h16 := px_bt h16 c19
      refine px_cSP rfl q_X12_reach_22 hg rfl trivial lk_12_167 nm_X12_in (k_inI hg _ _ (1000000) rfl (by decide)) rfl rfl rfl ⟨rfl, rfl⟩ ?_
      intro x29 h29
      refine px_eq rfl q_X12_reach_32 hg rfl trivial (fun c32 => ?_) (fun c32 => ?_)
      · replace h29 := px_bf h29 c32
        refine px_riS rfl q_X12_reach_104 rfl rfl rfl hg rfl trivial ⟨⟨rfl, rfl⟩, ?_⟩
        refine ⟨rfl, Or.inr ⟨?_, rfl, rfl⟩⟩
        unfold mReachOk
        grind only
      · replace h29 := px_bt h29 c32
        refine px_cSP rfl q_X12_reach_35 hg rfl trivial lk_12_167 nm_X12_in (k_inI hg _ (1) (10000) (by decide) (by decide)) rfl rfl rfl ⟨rfl, rfl⟩ ?_
        intro x42 h42
        refine px_eq rfl q_X12_reach_45 hg rfl trivial (fun c45 => ?_) (fun c45 => ?_)
        · replace h42 := px_bf h42 c45
          refine px_riS rfl q_X12_reach_104 rfl rfl rfl hg rfl trivial ⟨⟨rfl, rfl⟩, ?_⟩
          refine ⟨rfl, Or.inr ⟨?_, rfl, rfl⟩⟩
          unfold mReachOk
          grind only
        · replace h42 := px_bt h42 c45
          refine px_cSP rfl q_X12_reach_48 hg rfl trivial lk_12_167 nm_X12_in (k_inI hg _ _ (10000) rfl (by decide)) rfl rfl rfl ⟨rfl, rfl⟩ ?_
          intro x57 h57
          refine px_eq rfl q_X12_reach_60 hg rfl trivial (fun c60 => ?_) (fun c60 => ?_)
          · replace h57 := px_bf h57 c60
            refine px_riS rfl q_X12_reach_104 rfl rfl rfl hg rfl trivial ⟨⟨rfl, rfl⟩, ?_⟩
            refine ⟨rfl, Or.inr ⟨?_, rfl, rfl⟩⟩
            unfold mReachOk
            grind only
          · replace h57 := px_bt h57 c60
            refine px_cSP rfl q_X12_reach_63 hg rfl trivial lk_12_167 nm_X12_in (k_inI hg _ (100) (5000) (by decide) (by decide)) rfl rfl rfl ⟨rfl, rfl⟩ ?_
            intro x72 h72
            refine px_eq rfl q_X12_reach_75 hg rfl trivial (fun c75 => ?_) (fun c75 => ?_)
            · replace h72 := px_bf h72 c75
              refine px_riS rfl q_X12_reach_104 rfl rfl rfl hg rfl trivial ⟨⟨rfl, rfl⟩, ?_⟩
              refine ⟨rfl, Or.inr ⟨?_, rfl, rfl⟩⟩
              unfold mReachOk
              grind only
            · replace h72 := px_bt h72 c75
              refine px_ieq rfl q_X12_reach_78 hg rfl trivial (fun c81 => ?_) (fun c81 => ?_)
              · obtain ⟨hG1, -⟩ := hG g h4.1 h4.2
                have hg2 : 0 ≤ g ∧ g < 2 := by grind
                refine px_ine rfl q_X12_reach_93 hg rfl ⟨trivial, (by first | with_reducible assumption | (simp only [px_ur, ↓reduceIte]; with_reducible assumption))⟩ (fun c101 => ?_) (fun c101 => ?_)
                · refine px_ne rfl q_X12_reach_106 hg rfl ⟨trivial, (by first | with_reducible assumption | (simp only [px_ur, ↓reduceIte]; with_reducible assumption))⟩ (fun c117 => ?_) (fun c117 => ?_)
                  · have e : mP0 I g = I 110 g.toNatClampNeg := by unfold mP0; grind
                    have hk9 : 0 ≤ 20 * g + I 110 g.toNatClampNeg ∧ 20 * g + I 110 g.toNatClampNeg < 40 := by grind
                    refine px_riS rfl q_X12_reach_124 rfl rfl rfl hg rfl ⟨⟨⟨⟨⟨⟨⟨⟨⟨⟨⟨⟨trivial, (by first | with_reducible assumption | (simp only [px_ur, ↓reduceIte]; with_reducible assumption))⟩, (by first | with_reducible assumption | (simp only [px_ur, ↓reduceIte]; with_reducible assumption))⟩, (by first | with_reducible assumption | (simp only [px_ur, ↓reduceIte]; with_reducible assumption))⟩, (by first | with_reducible assumption | (simp only [px_ur, ↓reduceIte]; with_reducible assumption))⟩, (by first | with_reducible assumption | (simp only [px_ur, ↓reduceIte]; with_reducible assumption))⟩, (by first | with_reducible assumption | (simp only [px_ur, ↓reduceIte]; with_reducible assumption))⟩, (by first | with_reducible assumption | (simp only [px_ur, ↓reduceIte]; with_reducible assumption))⟩, (by first | with_reducible assumption | (simp only [px_ur, ↓reduceIte]; with_reducible assumption))⟩, (by first | with_reducible assumption | (simp only [px_ur, ↓reduceIte]; with_reducible assumption))⟩, (by first | with_reducible assumption | (simp only [px_ur, ↓reduceIte]; with_reducible assumption))⟩, (by first | with_reducible assumption | (simp only [px_ur, ↓reduceIte]; with_reducible assumption))⟩, (by first | with_reducible assumption | (simp only [px_ur, ↓reduceIte]; with_reducible assumption))⟩ ⟨⟨rfl, rfl⟩, ?_⟩
                    refine ⟨rfl, Or.inl ⟨by unfold mReachOk; grind, by simp [px_ur, e], by unfold mReach; simp [px_ur, e]⟩⟩
                  · have e : mP0 I g = 1 := by unfold mP0; grind
                    have hk9 : 0 ≤ 20 * g + 1 ∧ 20 * g + 1 < 40 := by grind
                    refine px_riS rfl q_X12_reach_120 rfl rfl rfl hg rfl ⟨⟨⟨⟨⟨⟨⟨⟨⟨⟨⟨trivial, (by first | with_reducible assumption | (simp only [px_ur, ↓reduceIte]; with_reducible assumption))⟩, (by first | with_reducible assumption | (simp only [px_ur, ↓reduceIte]; with_reducible assumption))⟩, (by first | with_reducible assumption | (simp only [px_ur, ↓reduceIte]; with_reducible assumption))⟩, (by first | with_reducible assumption | (simp only [px_ur, ↓reduceIte]; with_reducible assumption))⟩, (by first | with_reducible assumption | (simp only [px_ur, ↓reduceIte]; with_reducible assumption))⟩, (by first | with_reducible assumption | (simp only [px_ur, ↓reduceIte]; with_reducible assumption))⟩, (by first | with_reducible assumption | (simp only [px_ur, ↓reduceIte]; with_reducible assumption))⟩, (by first | with_reducible assumption | (simp only [px_ur, ↓reduceIte]; with_reducible assumption))⟩, (by first | with_reducible assumption | (simp only [px_ur, ↓reduceIte]; with_reducible assumption))⟩, (by first | with_reducible assumption | (simp only [px_ur, ↓reduceIte]; with_reducible assumption))⟩, (by first | with_reducible assumption | (simp only [px_ur, ↓reduceIte]; with_reducible assumption))⟩ ⟨⟨rfl, rfl⟩, ?_⟩
                    refine ⟨rfl, Or.inl ⟨by unfold mReachOk; grind, by simp [px_ur, e], by unfold mReach; simp [px_ur, e]⟩⟩
                · refine px_riS rfl q_X12_reach_104 rfl rfl rfl hg rfl trivial ⟨⟨rfl, rfl⟩, ?_⟩
                  refine ⟨rfl, Or.inr ⟨?_, rfl, rfl⟩⟩
                  unfold mReachOk
                  grind only
              · refine px_cVP (ci := 12) rfl q_X12_reach_84 hg rfl trivial lk_12_184 nm_X12_isStation (k_isStation hg _) rfl rfl (px_lit hg rfl) rfl rfl rfl ⟨rfl, rfl⟩ ?_
                intro x87 h87
                refine px_eq rfl q_X12_reach_90 hg rfl trivial (fun c90 => ?_) (fun c90 => ?_)
                · replace h87 := px_bf h87 c90
                  refine px_riS rfl q_X12_reach_104 rfl rfl rfl hg rfl trivial ⟨⟨rfl, rfl⟩, ?_⟩
                  refine ⟨rfl, Or.inr ⟨?_, rfl, rfl⟩⟩
                  unfold mReachOk
                  grind only
                · replace h87 := px_bt h87 c90
                  obtain ⟨hG1, -⟩ := hG g h4.1 h4.2
                  have hg2 : 0 ≤ g ∧ g < 2 := by grind
                  refine px_ine rfl q_X12_reach_93 hg rfl ⟨trivial, (by first | with_reducible assumption | (simp only [px_ur, ↓reduceIte]; with_reducible assumption))⟩ (fun c101 => ?_) (fun c101 => ?_)
                  · refine px_ne rfl q_X12_reach_106 hg rfl ⟨trivial, (by first | with_reducible assumption | (simp only [px_ur, ↓reduceIte]; with_reducible assumption))⟩ (fun c117 => ?_) (fun c117 => ?_)
                    · have e : mP0 I g = I 110 g.toNatClampNeg := by unfold mP0; grind
                      have hk9 : 0 ≤ 20 * g + I 110 g.toNatClampNeg ∧ 20 * g + I 110 g.toNatClampNeg < 40 := by grind
                      refine px_riS rfl q_X12_reach_124 rfl rfl rfl hg rfl ⟨⟨⟨⟨⟨⟨⟨⟨⟨⟨⟨⟨trivial, (by first | with_reducible assumption | (simp only [px_ur, ↓reduceIte]; with_reducible assumption))⟩, (by first | with_reducible assumption | (simp only [px_ur, ↓reduceIte]; with_reducible assumption))⟩, (by first | with_reducible assumption | (simp only [px_ur, ↓reduceIte]; with_reducible assumption))⟩, (by first | with_reducible assumption | (simp only [px_ur, ↓reduceIte]; with_reducible assumption))⟩, (by first | with_reducible assumption | (simp only [px_ur, ↓reduceIte]; with_reducible assumption))⟩, (by first | with_reducible assumption | (simp only [px_ur, ↓reduceIte]; with_reducible assumption))⟩, (by first | with_reducible assumption | (simp only [px_ur, ↓reduceIte]; with_reducible assumption))⟩, (by first | with_reducible assumption | (simp only [px_ur, ↓reduceIte]; with_reducible assumption))⟩, (by first | with_reducible assumption | (simp only [px_ur, ↓reduceIte]; with_reducible assumption))⟩, (by first | with_reducible assumption | (simp only [px_ur, ↓reduceIte]; with_reducible assumption))⟩, (by first | with_reducible assumption | (simp only [px_ur, ↓reduceIte]; with_reducible assumption))⟩, (by first | with_reducible assumption | (simp only [px_ur, ↓reduceIte]; with_reducible assumption))⟩ ⟨⟨rfl, rfl⟩, ?_⟩
                      refine ⟨rfl, Or.inl ⟨by unfold mReachOk; grind, by simp [px_ur, e], by unfold mReach; simp [px_ur, e]⟩⟩
                    · have e : mP0 I g = 1 := by unfold mP0; grind
                      have hk9 : 0 ≤ 20 * g + 1 ∧ 20 * g + 1 < 40 := by grind
                      refine px_riS rfl q_X12_reach_120 rfl rfl rfl hg rfl ⟨⟨⟨⟨⟨⟨⟨⟨⟨⟨⟨trivial, (by first | with_reducible assumption | (simp only [px_ur, ↓reduceIte]; with_reducible assumption))⟩, (by first | with_reducible assumption | (simp only [px_ur, ↓reduceIte]; with_reducible assumption))⟩, (by first | with_reducible assumption | (simp only [px_ur, ↓reduceIte]; with_reducible assumption))⟩, (by first | with_reducible assumption | (simp only [px_ur, ↓reduceIte]; with_reducible assumption))⟩, (by first | with_reducible assumption | (simp only [px_ur, ↓reduceIte]; with_reducible assumption))⟩, (by first | with_reducible assumption | (simp only [px_ur, ↓reduceIte]; with_reducible assumption))⟩, (by first | with_reducible assumption | (simp only [px_ur, ↓reduceIte]; with_reducible assumption))⟩, (by first | with_reducible assumption | (simp only [px_ur, ↓reduceIte]; with_reducible assumption))⟩, (by first | with_reducible assumption | (simp only [px_ur, ↓reduceIte]; with_reducible assumption))⟩, (by first | with_reducible assumption | (simp only [px_ur, ↓reduceIte]; with_reducible assumption))⟩, (by first | with_reducible assumption | (simp only [px_ur, ↓reduceIte]; with_reducible assumption))⟩ ⟨⟨rfl, rfl⟩, ?_⟩
                      refine ⟨rfl, Or.inl ⟨by unfold mReachOk; grind, by simp [px_ur, e], by unfold mReach; simp [px_ur, e]⟩⟩
                  · refine px_riS rfl q_X12_reach_104 rfl rfl rfl hg rfl trivial ⟨⟨rfl, rfl⟩, ?_⟩
                    refine ⟨rfl, Or.inr ⟨?_, rfl, rfl⟩⟩
                    unfold mReachOk
                    grind only

theorem q_X12_mouth_0 : px_bk 12 3 cX12_mouth 0 [(.iload_n 1, (0, 0, 0, 0, 0), 0, 0), (.i2l, (0, 0, 0, 0, 0), 0, 0), (.lconst 0, (0, 0, 0, 0, 0), 0, 0), (.lconst 1, (0, 0, 0, 0, 0), 0, 1)] = some 4 ∧ px_tS cX12_mouth 4 167 = true := by decide +kernel
theorem q_X12_mouth_7 : px_bk 12 3 cX12_mouth 7 [] = some 7 ∧ px_t1 cX12_mouth 7 .eq 18 = true := by decide +kernel
theorem q_X12_mouth_18 : px_bk 12 3 cX12_mouth 18 [(.iconst 0, (0, 0, 0, 0, 0), 0, 0)] = some 19 ∧ px_tr cX12_mouth 19 .ireturn = true := by decide +kernel
theorem q_X12_mouth_10 : px_bk 12 3 cX12_mouth 10 [(.aload_n 0, (0, 0, 0, 0, 0), 0, 0), (.iload_n 2, (0, 0, 0, 0, 0), 0, 0)] = some 12 ∧ px_tv cX12_mouth 12 184 = true := by decide +kernel
theorem q_X12_mouth_15 : px_bk 12 3 cX12_mouth 15 [] = some 15 ∧ px_t1 cX12_mouth 15 .ne 20 = true := by decide +kernel
theorem q_X12_mouth_20 : px_bk 12 3 cX12_mouth 20 [(.aload_n 0, (0, 0, 0, 0, 0), 0, 0), (.getfield 50, (12, 15, 3, 116, 0), 0, 0), (.bipush 20, (0, 0, 0, 0, 0), 20, 0), (.iload_n 1, (0, 0, 0, 0, 0), 0, 0), (.imul, (0, 0, 0, 0, 0), 0, 0), (.iload_n 2, (0, 0, 0, 0, 0), 0, 0), (.iastore, (0, 0, 0, 0, 0), 0, 0), (.iconst 1, (0, 0, 0, 0, 0), 1, 0)] = some 31 ∧ px_tr cX12_mouth 31 .ireturn = true := by decide +kernel
set_option maxRecDepth 100000 in
theorem k_mouth {n : Nat} {I : px_I} {L : px_L} {R : px_R} (hg : px_G n R) (g st : Int32) : px_KS M_X12_mouth [.ref 103, .int g, .int st] n I L R (fun r I2 L2 => L2 = L ∧ (((0 ≤ g ∧ g ≤ 1) ∧ (0 ≤ st ∧ st ≤ I 103 1 - 1) ∧ r = 1 ∧ I2 = px_u I 116 (20 * g).toNatClampNeg st) ∨ (¬ ((0 ≤ g ∧ g ≤ 1) ∧ (0 ≤ st ∧ st ≤ I 103 1 - 1)) ∧ r = 0 ∧ I2 = I))) := by
  refine px_of (plainFor_of_name np_RX12) (fun _ _ _ => trivial) rfl ?_
  refine px_cSP rfl q_X12_mouth_0 hg rfl trivial lk_12_167 nm_X12_in (k_inI hg _ (0) (1) (by decide) (by decide)) rfl rfl rfl ⟨rfl, rfl⟩ ?_
  intro x4 h4
  refine px_eq rfl q_X12_mouth_7 hg rfl trivial (fun c7 => ?_) (fun c7 => ?_)
  · replace h4 := px_bf h4 c7
    refine px_rzS rfl q_X12_mouth_18 rfl rfl rfl hg rfl trivial ⟨⟨rfl, rfl⟩, (by first | exact Or.inl rfl | exact Or.inr rfl | grind), ?_⟩
    grind
  · replace h4 := px_bt h4 c7
    refine px_cVP (ci := 12) rfl q_X12_mouth_10 hg rfl trivial lk_12_184 nm_X12_isStation (k_isStation hg _) rfl rfl (px_lit hg rfl) rfl rfl rfl ⟨rfl, rfl⟩ ?_
    intro x12 h12
    refine px_ne rfl q_X12_mouth_15 hg rfl trivial (fun c15 => ?_) (fun c15 => ?_)
    · replace h12 := px_bt h12 c15
      refine px_rzS rfl q_X12_mouth_20 rfl rfl rfl hg rfl ⟨trivial, (by first | decide | (refine ⟨?_, ?_⟩ <;> grind) | grind)⟩ ⟨⟨rfl, rfl⟩, (by first | exact Or.inl rfl | exact Or.inr rfl | grind), ?_⟩
      grind
    · replace h12 := px_bf h12 c15
      refine px_rzS rfl q_X12_mouth_18 rfl rfl rfl hg rfl trivial ⟨⟨rfl, rfl⟩, (by first | exact Or.inl rfl | exact Or.inr rfl | grind), ?_⟩
      grind

theorem q_X12_mark_0 : px_bk 12 5 cX12_mark 0 [(.aload_n 0, (0, 0, 0, 0, 0), 0, 0), (.iload_n 1, (0, 0, 0, 0, 0), 0, 0), (.iload_n 2, (0, 0, 0, 0, 0), 0, 0)] = some 3 ∧ px_tv cX12_mark 3 233 = true := by decide +kernel
theorem q_X12_mark_6 : px_bk 12 5 cX12_mark 6 [] = some 6 ∧ px_t1 cX12_mark 6 .eq 44 = true := by decide +kernel
theorem q_X12_mark_44 : px_bk 12 5 cX12_mark 44 [(.iconst (-1), (0, 0, 0, 0, 0), -1, 0)] = some 45 ∧ px_tr cX12_mark 45 .ireturn = true := by decide +kernel
theorem q_X12_mark_9 : px_bk 12 5 cX12_mark 9 [(.iload_n 3, (0, 0, 0, 0, 0), 0, 0), (.i2l, (0, 0, 0, 0, 0), 0, 0), (.lconst 0, (0, 0, 0, 0, 0), 0, 0), (.ldc2_w 237, (0, 0, 0, 0, 0), 0, 20000)] = some 15 ∧ px_tS cX12_mark 15 167 = true := by decide +kernel
theorem q_X12_mark_18 : px_bk 12 5 cX12_mark 18 [] = some 18 ∧ px_t1 cX12_mark 18 .eq 44 = true := by decide +kernel
theorem q_X12_mark_21 : px_bk 12 5 cX12_mark 21 [(.iload 4, (0, 0, 0, 0, 0), 0, 0), (.i2l, (0, 0, 0, 0, 0), 0, 0), (.iload_n 3, (0, 0, 0, 0, 0), 0, 0), (.i2l, (0, 0, 0, 0, 0), 0, 0), (.ldc2_w 237, (0, 0, 0, 0, 0), 0, 20000)] = some 29 ∧ px_tS cX12_mark 29 167 = true := by decide +kernel
theorem q_X12_mark_32 : px_bk 12 5 cX12_mark 32 [] = some 32 ∧ px_t1 cX12_mark 32 .eq 44 = true := by decide +kernel
theorem q_X12_mark_35 : px_bk 12 5 cX12_mark 35 [(.aload_n 0, (0, 0, 0, 0, 0), 0, 0), (.getfield 239, (12, 16, 0, 0, 0), 0, 0), (.bipush 40, (0, 0, 0, 0, 0), 40, 0)] = some 41 ∧ px_t2 cX12_mark 41 .ne 46 = true := by decide +kernel
theorem q_X12_mark_46 : px_bk 12 5 cX12_mark 46 [(.aload_n 0, (0, 0, 0, 0, 0), 0, 0), (.getfield 53, (12, 17, 3, 117, 0), 0, 0), (.aload_n 0, (0, 0, 0, 0, 0), 0, 0), (.getfield 239, (12, 16, 0, 0, 0), 0, 0), (.iload_n 1, (0, 0, 0, 0, 0), 0, 0), (.iastore, (0, 0, 0, 0, 0), 0, 0), (.aload_n 0, (0, 0, 0, 0, 0), 0, 0), (.getfield 56, (12, 18, 3, 118, 0), 0, 0), (.aload_n 0, (0, 0, 0, 0, 0), 0, 0), (.getfield 239, (12, 16, 0, 0, 0), 0, 0), (.iload_n 2, (0, 0, 0, 0, 0), 0, 0), (.iastore, (0, 0, 0, 0, 0), 0, 0), (.aload_n 0, (0, 0, 0, 0, 0), 0, 0), (.getfield 59, (12, 19, 3, 119, 0), 0, 0), (.aload_n 0, (0, 0, 0, 0, 0), 0, 0), (.getfield 239, (12, 16, 0, 0, 0), 0, 0), (.iload_n 3, (0, 0, 0, 0, 0), 0, 0), (.iastore, (0, 0, 0, 0, 0), 0, 0), (.aload_n 0, (0, 0, 0, 0, 0), 0, 0), (.getfield 62, (12, 20, 3, 120, 0), 0, 0), (.aload_n 0, (0, 0, 0, 0, 0), 0, 0), (.getfield 239, (12, 16, 0, 0, 0), 0, 0), (.iload 4, (0, 0, 0, 0, 0), 0, 0), (.iastore, (0, 0, 0, 0, 0), 0, 0), (.aload_n 0, (0, 0, 0, 0, 0), 0, 0), (.dup, (0, 0, 0, 0, 0), 0, 0), (.getfield 239, (12, 16, 0, 0, 0), 0, 0), (.iconst 1, (0, 0, 0, 0, 0), 1, 0), (.iadd, (0, 0, 0, 0, 0), 0, 0), (.putfield 239, (12, 16, 0, 0, 0), 0, 0), (.aload_n 0, (0, 0, 0, 0, 0), 0, 0), (.getfield 239, (12, 16, 0, 0, 0), 0, 0)] = some 101 ∧ px_tr cX12_mark 101 .ireturn = true := by decide +kernel
set_option maxRecDepth 100000 in
theorem k_mark {n : Nat} {I : px_I} {L : px_L} {R : px_R} (hg : px_G n R) (g p f t : Int32) (hm : 0 ≤ I 103 16 ∧ I 103 16 ≤ 40) : px_KS M_X12_mark [.ref 103, .int g, .int p, .int f, .int t] n I L R (fun r I2 L2 => L2 = L ∧ (((mPegOk I g p ∧ (0 ≤ f ∧ f ≤ 20000) ∧ (f ≤ t ∧ t ≤ 20000) ∧ I 103 16 ≠ 40) ∧ r = I 103 16 + 1 ∧ I2 = mMark I g p f t) ∨ (¬ (mPegOk I g p ∧ (0 ≤ f ∧ f ≤ 20000) ∧ (f ≤ t ∧ t ≤ 20000) ∧ I 103 16 ≠ 40) ∧ r = -1 ∧ I2 = I))) := by
  refine px_of (plainFor_of_name np_RX12) (fun _ _ _ => trivial) rfl ?_
  refine px_cVP (ci := 12) rfl q_X12_mark_0 hg rfl trivial lk_12_233 nm_X12_isPeg (k_isPeg hg _ _) rfl rfl (px_lit hg rfl) rfl rfl rfl ⟨rfl, rfl⟩ ?_
  intro x3 h3
  refine px_eq rfl q_X12_mark_6 hg rfl trivial (fun c6 => ?_) (fun c6 => ?_)
  · replace h3 := px_bf h3 c6
    refine px_riS rfl q_X12_mark_44 rfl rfl rfl hg rfl trivial ⟨⟨rfl, rfl⟩, ?_⟩
    first | exact ⟨rfl, Or.inl ⟨by unfold mPegOk; grind, rfl, rfl⟩⟩ | exact ⟨rfl, Or.inr ⟨by unfold mPegOk; grind, rfl, rfl⟩⟩
  · replace h3 := px_bt h3 c6
    refine px_cSP rfl q_X12_mark_9 hg rfl trivial lk_12_167 nm_X12_in (k_inI hg _ (0) (20000) (by decide) (by decide)) rfl rfl rfl ⟨rfl, rfl⟩ ?_
    intro x15 h15
    refine px_eq rfl q_X12_mark_18 hg rfl trivial (fun c18 => ?_) (fun c18 => ?_)
    · replace h15 := px_bf h15 c18
      refine px_riS rfl q_X12_mark_44 rfl rfl rfl hg rfl trivial ⟨⟨rfl, rfl⟩, ?_⟩
      first | exact ⟨rfl, Or.inl ⟨by unfold mPegOk; grind, rfl, rfl⟩⟩ | exact ⟨rfl, Or.inr ⟨by unfold mPegOk; grind, rfl, rfl⟩⟩
    · replace h15 := px_bt h15 c18
      refine px_cSP rfl q_X12_mark_21 hg rfl trivial lk_12_167 nm_X12_in (k_inI hg _ _ (20000) rfl (by decide)) rfl rfl rfl ⟨rfl, rfl⟩ ?_
      intro x29 h29
      refine px_eq rfl q_X12_mark_32 hg rfl trivial (fun c32 => ?_) (fun c32 => ?_)
      · replace h29 := px_bf h29 c32
        refine px_riS rfl q_X12_mark_44 rfl rfl rfl hg rfl trivial ⟨⟨rfl, rfl⟩, ?_⟩
        first | exact ⟨rfl, Or.inl ⟨by unfold mPegOk; grind, rfl, rfl⟩⟩ | exact ⟨rfl, Or.inr ⟨by unfold mPegOk; grind, rfl, rfl⟩⟩
      · replace h29 := px_bt h29 c32
        refine px_ine rfl q_X12_mark_35 hg rfl trivial (fun c41 => ?_) (fun c41 => ?_)
        · refine px_riS rfl q_X12_mark_46 rfl rfl rfl hg rfl ⟨⟨⟨⟨trivial, (by first | decide | (refine ⟨?_, ?_⟩ <;> grind) | grind)⟩, (by first | decide | (refine ⟨?_, ?_⟩ <;> grind) | grind)⟩, (by first | decide | (refine ⟨?_, ?_⟩ <;> grind) | grind)⟩, (by first | decide | (refine ⟨?_, ?_⟩ <;> grind) | grind)⟩ ⟨⟨rfl, rfl⟩, ?_⟩
          first | exact ⟨rfl, Or.inl ⟨by unfold mPegOk; grind, rfl, rfl⟩⟩ | exact ⟨rfl, Or.inr ⟨by unfold mPegOk; grind, rfl, rfl⟩⟩
        · refine px_riS rfl q_X12_mark_44 rfl rfl rfl hg rfl trivial ⟨⟨rfl, rfl⟩, ?_⟩
          first | exact ⟨rfl, Or.inl ⟨by unfold mPegOk; grind, rfl, rfl⟩⟩ | exact ⟨rfl, Or.inr ⟨by unfold mPegOk; grind, rfl, rfl⟩⟩

theorem q_X12_lamps_70 : px_bk 12 11 cX12_lamps 70 [(.iload 8, (0, 0, 0, 0, 0), 0, 0), (.iload 5, (0, 0, 0, 0, 0), 0, 0)] = some 74 ∧ px_t2 cX12_lamps 74 .gt 137 = true := by decide +kernel
theorem q_X12_lamps_137 : px_bk 12 11 cX12_lamps 137 [(.iload 7, (0, 0, 0, 0, 0), 0, 0)] = some 139 ∧ px_t1 cX12_lamps 139 .eq 146 = true := by decide +kernel
theorem q_X12_lamps_146 : px_bk 12 11 cX12_lamps 146 [(.iconst 0, (0, 0, 0, 0, 0), 0, 0)] = some 147 ∧ px_tr cX12_lamps 147 .ireturn = true := by decide +kernel
theorem q_X12_lamps_142 : px_bk 12 11 cX12_lamps 142 [(.iconst 1, (0, 0, 0, 0, 0), 1, 0), (.goto 4, (0, 0, 0, 0, 0), 0, 0)] = some 147 ∧ px_tr cX12_lamps 147 .ireturn = true := by decide +kernel
theorem q_X12_lamps_77 : px_bk 12 11 cX12_lamps 77 [(.iload_n 3, (0, 0, 0, 0, 0), 0, 0), (.i2l, (0, 0, 0, 0, 0), 0, 0), (.iload 8, (0, 0, 0, 0, 0), 0, 0), (.i2l, (0, 0, 0, 0, 0), 0, 0), (.lmul, (0, 0, 0, 0, 0), 0, 0), (.lstore 9, (0, 0, 0, 0, 0), 0, 0), (.iload 7, (0, 0, 0, 0, 0), 0, 0)] = some 87 ∧ px_t1 cX12_lamps 87 .ne 124 = true := by decide +kernel
theorem q_X12_lamps_124 : px_bk 12 11 cX12_lamps 124 [(.iconst 1, (0, 0, 0, 0, 0), 1, 0), (.goto 4, (0, 0, 0, 0, 0), 0, 0), (.istore 7, (0, 0, 0, 0, 0), 0, 0), (.iinc 8 1, (0, 0, 0, 0, 0), 1, 0), (.goto (-64), (0, 0, 0, 0, 0), 0, 0)] = some 70 := by decide +kernel
theorem q_X12_lamps_90 : px_bk 12 11 cX12_lamps 90 [(.lload 9, (0, 0, 0, 0, 0), 0, 0), (.aload_n 0, (0, 0, 0, 0, 0), 0, 0), (.getfield 38, (12, 11, 3, 112, 0), 0, 0), (.iload 6, (0, 0, 0, 0, 0), 0, 0), (.iaload, (0, 0, 0, 0, 0), 0, 0), (.i2l, (0, 0, 0, 0, 0), 0, 0), (.lcmp, (0, 0, 0, 0, 0), 0, 0)] = some 101 ∧ px_t1 cX12_lamps 101 .gt 128 = true := by decide +kernel
theorem q_X12_lamps_128 : px_bk 12 11 cX12_lamps 128 [(.iconst 0, (0, 0, 0, 0, 0), 0, 0), (.istore 7, (0, 0, 0, 0, 0), 0, 0), (.iinc 8 1, (0, 0, 0, 0, 0), 1, 0), (.goto (-64), (0, 0, 0, 0, 0), 0, 0)] = some 70 := by decide +kernel
theorem q_X12_lamps_104 : px_bk 12 11 cX12_lamps 104 [(.lload 9, (0, 0, 0, 0, 0), 0, 0), (.iload 8, (0, 0, 0, 0, 0), 0, 0), (.i2l, (0, 0, 0, 0, 0), 0, 0), (.ladd, (0, 0, 0, 0, 0), 0, 0), (.lconst 1, (0, 0, 0, 0, 0), 0, 1), (.lsub, (0, 0, 0, 0, 0), 0, 0), (.aload_n 0, (0, 0, 0, 0, 0), 0, 0), (.getfield 35, (12, 10, 3, 111, 0), 0, 0), (.iload 6, (0, 0, 0, 0, 0), 0, 0), (.iaload, (0, 0, 0, 0, 0), 0, 0), (.i2l, (0, 0, 0, 0, 0), 0, 0), (.lcmp, (0, 0, 0, 0, 0), 0, 0)] = some 121 ∧ px_t1 cX12_lamps 121 .lt 128 = true := by decide +kernel
set_option maxRecDepth 100000 in
theorem l_lamps {n : Nat} {R : px_R} (hg : px_G n R) {Q : px_Q} (g p h lo hi k : Int32) {I : px_I} {L : px_L} (hk : 0 ≤ k ∧ k < 40) (hh : hi ≤ 100000) (hlo : 1 ≤ lo) (hq : ∀ r, (r = 0 ∨ r = 1) → Q (some (.int r)) n I L R) : ∀ d : Int32, d ≤ 100001 → lo ≤ d → ∀ (b : Int32), (b = 0 ∨ b = 1) → px M_X12_lamps 0 0 70 [(0, .ref 103), (1, .int g), (2, .int p), (3, .int h), (4, .int lo), (5, .int hi), (6, .int k), (7, .int b), (8, .int d)] [] n I L R Q := by
  refine px_up _ (fun d ih hk1 => ?_)
  intro h0 b hb
  refine px_igt rfl q_X12_lamps_70 hg rfl trivial (fun c74 => ?_) (fun c74 => ?_)
  · refine px_eq rfl q_X12_lamps_137 hg rfl trivial (fun c139 => ?_) (fun c139 => ?_)
    · refine px_ri rfl q_X12_lamps_146 rfl rfl rfl hg rfl trivial ?_
      first | exact hq _ (Or.inl rfl) | exact hq _ (Or.inr rfl)
    · refine px_ri rfl q_X12_lamps_142 rfl rfl rfl hg rfl trivial ?_
      first | exact hq _ (Or.inl rfl) | exact hq _ (Or.inr rfl)
  · refine px_ne rfl q_X12_lamps_77 hg rfl trivial (fun c87 => ?_) (fun c87 => ?_)
    · refine px_b rfl q_X12_lamps_124 hg rfl trivial ?_
      exact px_go (ih (d + 1) (by grind) (by grind) (by grind) _ (by first | exact Or.inl rfl | exact Or.inr rfl)) ⟨rfl, rfl, rfl, rfl, rfl, rfl, rfl, rfl, rfl, trivial⟩
    · refine px_lgt rfl q_X12_lamps_90 hg rfl ⟨trivial, (by first | decide | (refine ⟨?_, ?_⟩ <;> grind) | grind)⟩ (fun c101 => ?_) (fun c101 => ?_)
      · refine px_b rfl q_X12_lamps_128 hg rfl trivial ?_
        exact px_go (ih (d + 1) (by grind) (by grind) (by grind) _ (by first | exact Or.inl rfl | exact Or.inr rfl)) ⟨rfl, rfl, rfl, rfl, rfl, rfl, rfl, rfl, rfl, trivial⟩
      · refine px_llt rfl q_X12_lamps_104 hg rfl ⟨trivial, (by first | decide | (refine ⟨?_, ?_⟩ <;> grind) | grind)⟩ (fun c121 => ?_) (fun c121 => ?_)
        · refine px_b rfl q_X12_lamps_128 hg rfl trivial ?_
          exact px_go (ih (d + 1) (by grind) (by grind) (by grind) _ (by first | exact Or.inl rfl | exact Or.inr rfl)) ⟨rfl, rfl, rfl, rfl, rfl, rfl, rfl, rfl, rfl, trivial⟩
        · refine px_b rfl q_X12_lamps_124 hg rfl trivial ?_
          exact px_go (ih (d + 1) (by grind) (by grind) (by grind) _ (by first | exact Or.inl rfl | exact Or.inr rfl)) ⟨rfl, rfl, rfl, rfl, rfl, rfl, rfl, rfl, rfl, trivial⟩

theorem q_X12_lamps_0 : px_bk 12 11 cX12_lamps 0 [(.aload_n 0, (0, 0, 0, 0, 0), 0, 0), (.iload_n 1, (0, 0, 0, 0, 0), 0, 0), (.iload_n 2, (0, 0, 0, 0, 0), 0, 0)] = some 3 ∧ px_tv cX12_lamps 3 233 = true := by decide +kernel
theorem q_X12_lamps_6 : px_bk 12 11 cX12_lamps 6 [] = some 6 ∧ px_t1 cX12_lamps 6 .eq 53 = true := by decide +kernel
theorem q_X12_lamps_53 : px_bk 12 11 cX12_lamps 53 [(.iconst (-1), (0, 0, 0, 0, 0), -1, 0)] = some 54 ∧ px_tr cX12_lamps 54 .ireturn = true := by decide +kernel
theorem q_X12_lamps_9 : px_bk 12 11 cX12_lamps 9 [(.iload_n 2, (0, 0, 0, 0, 0), 0, 0)] = some 10 ∧ px_t1 cX12_lamps 10 .eq 53 = true := by decide +kernel
theorem q_X12_lamps_13 : px_bk 12 11 cX12_lamps 13 [(.iload_n 3, (0, 0, 0, 0, 0), 0, 0), (.i2l, (0, 0, 0, 0, 0), 0, 0), (.lconst 0, (0, 0, 0, 0, 0), 0, 0), (.ldc2_w 173, (0, 0, 0, 0, 0), 0, 9999)] = some 19 ∧ px_tS cX12_lamps 19 167 = true := by decide +kernel
theorem q_X12_lamps_22 : px_bk 12 11 cX12_lamps 22 [] = some 22 ∧ px_t1 cX12_lamps 22 .eq 53 = true := by decide +kernel
theorem q_X12_lamps_25 : px_bk 12 11 cX12_lamps 25 [(.iload 4, (0, 0, 0, 0, 0), 0, 0), (.i2l, (0, 0, 0, 0, 0), 0, 0), (.lconst 1, (0, 0, 0, 0, 0), 0, 1), (.ldc2_w 245, (0, 0, 0, 0, 0), 0, 100000)] = some 32 ∧ px_tS cX12_lamps 32 167 = true := by decide +kernel
theorem q_X12_lamps_35 : px_bk 12 11 cX12_lamps 35 [] = some 35 ∧ px_t1 cX12_lamps 35 .eq 53 = true := by decide +kernel
theorem q_X12_lamps_38 : px_bk 12 11 cX12_lamps 38 [(.iload 5, (0, 0, 0, 0, 0), 0, 0), (.i2l, (0, 0, 0, 0, 0), 0, 0), (.iload 4, (0, 0, 0, 0, 0), 0, 0), (.i2l, (0, 0, 0, 0, 0), 0, 0), (.ldc2_w 245, (0, 0, 0, 0, 0), 0, 100000)] = some 47 ∧ px_tS cX12_lamps 47 167 = true := by decide +kernel
theorem q_X12_lamps_50 : px_bk 12 11 cX12_lamps 50 [] = some 50 ∧ px_t1 cX12_lamps 50 .ne 55 = true := by decide +kernel
theorem q_X12_lamps_55 : px_bk 12 11 cX12_lamps 55 [(.bipush 20, (0, 0, 0, 0, 0), 20, 0), (.iload_n 1, (0, 0, 0, 0, 0), 0, 0), (.imul, (0, 0, 0, 0, 0), 0, 0), (.iload_n 2, (0, 0, 0, 0, 0), 0, 0), (.iadd, (0, 0, 0, 0, 0), 0, 0), (.istore 6, (0, 0, 0, 0, 0), 0, 0), (.iconst 0, (0, 0, 0, 0, 0), 0, 0), (.istore 7, (0, 0, 0, 0, 0), 0, 0), (.iload 4, (0, 0, 0, 0, 0), 0, 0), (.istore 8, (0, 0, 0, 0, 0), 0, 0)] = some 70 := by decide +kernel
set_option maxRecDepth 100000 in
theorem k_lamps {n : Nat} {I : px_I} {L : px_L} {R : px_R} (hg : px_G n R) (g p h lo hi : Int32) (hG : mG I) : px_KP M_X12_lamps [.ref 103, .int g, .int p, .int h, .int lo, .int hi] n I L R (fun r => True) := by
  refine px_of (plainFor_of_name np_RX12) (fun _ _ _ => trivial) rfl ?_
  refine px_cVP (ci := 12) rfl q_X12_lamps_0 hg rfl trivial lk_12_233 nm_X12_isPeg (k_isPeg hg _ _) rfl rfl (px_lit hg rfl) rfl rfl rfl ⟨rfl, rfl⟩ ?_
  intro x3 h3
  refine px_eq rfl q_X12_lamps_6 hg rfl trivial (fun c6 => ?_) (fun c6 => ?_)
  · replace h3 := px_bf h3 c6
    refine px_riP rfl q_X12_lamps_53 rfl rfl rfl hg rfl trivial ⟨⟨rfl, rfl, rfl, rfl⟩, ?_⟩
    trivial
  · replace h3 := px_bt h3 c6
    refine px_eq rfl q_X12_lamps_9 hg rfl trivial (fun c10 => ?_) (fun c10 => ?_)
    · refine px_riP rfl q_X12_lamps_53 rfl rfl rfl hg rfl trivial ⟨⟨rfl, rfl, rfl, rfl⟩, ?_⟩
      trivial
    · refine px_cSP rfl q_X12_lamps_13 hg rfl trivial lk_12_167 nm_X12_in (k_inI hg _ (0) (9999) (by decide) (by decide)) rfl rfl rfl ⟨rfl, rfl⟩ ?_
      intro x19 h19
      refine px_eq rfl q_X12_lamps_22 hg rfl trivial (fun c22 => ?_) (fun c22 => ?_)
      · replace h19 := px_bf h19 c22
        refine px_riP rfl q_X12_lamps_53 rfl rfl rfl hg rfl trivial ⟨⟨rfl, rfl, rfl, rfl⟩, ?_⟩
        trivial
      · replace h19 := px_bt h19 c22
        refine px_cSP rfl q_X12_lamps_25 hg rfl trivial lk_12_167 nm_X12_in (k_inI hg _ (1) (100000) (by decide) (by decide)) rfl rfl rfl ⟨rfl, rfl⟩ ?_
        intro x32 h32
        refine px_eq rfl q_X12_lamps_35 hg rfl trivial (fun c35 => ?_) (fun c35 => ?_)
        · replace h32 := px_bf h32 c35
          refine px_riP rfl q_X12_lamps_53 rfl rfl rfl hg rfl trivial ⟨⟨rfl, rfl, rfl, rfl⟩, ?_⟩
          trivial
        · replace h32 := px_bt h32 c35
          refine px_cSP rfl q_X12_lamps_38 hg rfl trivial lk_12_167 nm_X12_in (k_inI hg _ _ (100000) rfl (by decide)) rfl rfl rfl ⟨rfl, rfl⟩ ?_
          intro x47 h47
          refine px_ne rfl q_X12_lamps_50 hg rfl trivial (fun c50 => ?_) (fun c50 => ?_)
          · replace h47 := px_bt h47 c50
            refine px_b rfl q_X12_lamps_55 hg rfl trivial ?_
            obtain ⟨hG1, -⟩ := hG g h3.1 h3.2.1
            have hk9 := (mK h3 hG1).1
            exact px_go (l_lamps hg g p h lo hi (20 * g + p) hk9 h47.2 h32.1 (fun r hr => ⟨rfl, rfl, r, rfl, rfl, rfl, trivial⟩) lo (Int32.le_trans h32.2 (by decide)) (Int32.le_refl _) 0 (Or.inl rfl)) ⟨rfl, rfl, rfl, rfl, rfl, rfl, rfl, rfl, rfl, trivial⟩
          · replace h47 := px_bf h47 c50
            refine px_riP rfl q_X12_lamps_53 rfl rfl rfl hg rfl trivial ⟨⟨rfl, rfl, rfl, rfl⟩, ?_⟩
            trivial

theorem q_X12_count_0 : px_bk 12 8 cX12_count 0 [(.iload_n 1, (0, 0, 0, 0, 0), 0, 0), (.i2l, (0, 0, 0, 0, 0), 0, 0), (.lconst 1, (0, 0, 0, 0, 0), 0, 1), (.ldc2_w 173, (0, 0, 0, 0, 0), 0, 9999)] = some 6 ∧ px_tS cX12_count 6 167 = true := by decide +kernel
theorem q_X12_count_9 : px_bk 12 8 cX12_count 9 [] = some 9 ∧ px_t1 cX12_count 9 .eq 46 = true := by decide +kernel
theorem q_X12_count_46 : px_bk 12 8 cX12_count 46 [(.iconst (-1), (0, 0, 0, 0, 0), -1, 0)] = some 47 ∧ px_tr cX12_count 47 .ireturn = true := by decide +kernel
theorem q_X12_count_12 : px_bk 12 8 cX12_count 12 [(.iload_n 2, (0, 0, 0, 0, 0), 0, 0), (.i2l, (0, 0, 0, 0, 0), 0, 0), (.lconst 1, (0, 0, 0, 0, 0), 0, 1), (.ldc2_w 247, (0, 0, 0, 0, 0), 0, 2000000)] = some 18 ∧ px_tS cX12_count 18 167 = true := by decide +kernel
theorem q_X12_count_21 : px_bk 12 8 cX12_count 21 [] = some 21 ∧ px_t1 cX12_count 21 .eq 46 = true := by decide +kernel
theorem q_X12_count_24 : px_bk 12 8 cX12_count 24 [(.iload_n 3, (0, 0, 0, 0, 0), 0, 0), (.i2l, (0, 0, 0, 0, 0), 0, 0), (.iload_n 2, (0, 0, 0, 0, 0), 0, 0), (.i2l, (0, 0, 0, 0, 0), 0, 0), (.ldc2_w 247, (0, 0, 0, 0, 0), 0, 2000000)] = some 31 ∧ px_tS cX12_count 31 167 = true := by decide +kernel
theorem q_X12_count_34 : px_bk 12 8 cX12_count 34 [] = some 34 ∧ px_t1 cX12_count 34 .eq 46 = true := by decide +kernel
theorem q_X12_count_37 : px_bk 12 8 cX12_count 37 [(.aload_n 0, (0, 0, 0, 0, 0), 0, 0), (.getfield 249, (12, 21, 0, 0, 0), 0, 0), (.bipush 30, (0, 0, 0, 0, 0), 30, 0)] = some 43 ∧ px_t2 cX12_count 43 .ne 48 = true := by decide +kernel
theorem q_X12_count_48 : px_bk 12 8 cX12_count 48 [(.ldc2_w 175, (0, 0, 0, 0, 0), 0, 1000), (.iload_n 2, (0, 0, 0, 0, 0), 0, 0), (.i2l, (0, 0, 0, 0, 0), 0, 0), (.lmul, (0, 0, 0, 0, 0), 0, 0), (.iload_n 1, (0, 0, 0, 0, 0), 0, 0), (.i2l, (0, 0, 0, 0, 0), 0, 0), (.ladd, (0, 0, 0, 0, 0), 0, 0), (.lconst 1, (0, 0, 0, 0, 0), 0, 1), (.lsub, (0, 0, 0, 0, 0), 0, 0), (.iload_n 1, (0, 0, 0, 0, 0), 0, 0), (.i2l, (0, 0, 0, 0, 0), 0, 0), (.ldiv, (0, 0, 0, 0, 0), 0, 0), (.lstore 4, (0, 0, 0, 0, 0), 0, 0), (.ldc2_w 175, (0, 0, 0, 0, 0), 0, 1000), (.iload_n 3, (0, 0, 0, 0, 0), 0, 0), (.i2l, (0, 0, 0, 0, 0), 0, 0), (.lmul, (0, 0, 0, 0, 0), 0, 0), (.iload_n 1, (0, 0, 0, 0, 0), 0, 0), (.i2l, (0, 0, 0, 0, 0), 0, 0), (.ldiv, (0, 0, 0, 0, 0), 0, 0), (.lstore 6, (0, 0, 0, 0, 0), 0, 0), (.aload_n 0, (0, 0, 0, 0, 0), 0, 0), (.getfield 249, (12, 21, 0, 0, 0), 0, 0)] = some 79 ∧ px_t1 cX12_count 79 .le 99 = true := by decide +kernel
theorem q_X12_count_99 : px_bk 12 8 cX12_count 99 [(.lload 4, (0, 0, 0, 0, 0), 0, 0), (.lstore 4, (0, 0, 0, 0, 0), 0, 0), (.aload_n 0, (0, 0, 0, 0, 0), 0, 0), (.getfield 249, (12, 21, 0, 0, 0), 0, 0)] = some 107 ∧ px_t1 cX12_count 107 .le 127 = true := by decide +kernel
theorem q_X12_count_127 : px_bk 12 8 cX12_count 127 [(.lload 6, (0, 0, 0, 0, 0), 0, 0), (.lstore 6, (0, 0, 0, 0, 0), 0, 0), (.lload 4, (0, 0, 0, 0, 0), 0, 0), (.lload 6, (0, 0, 0, 0, 0), 0, 0), (.lcmp, (0, 0, 0, 0, 0), 0, 0)] = some 136 ∧ px_t1 cX12_count 136 .le 141 = true := by decide +kernel
theorem q_X12_count_141 : px_bk 12 8 cX12_count 141 [(.aload_n 0, (0, 0, 0, 0, 0), 0, 0), (.lload 4, (0, 0, 0, 0, 0), 0, 0), (.putfield 252, (12, 22, 1, 0, 0), 0, 0), (.aload_n 0, (0, 0, 0, 0, 0), 0, 0), (.lload 6, (0, 0, 0, 0, 0), 0, 0), (.putfield 256, (12, 23, 1, 0, 0), 0, 0), (.aload_n 0, (0, 0, 0, 0, 0), 0, 0), (.dup, (0, 0, 0, 0, 0), 0, 0), (.getfield 249, (12, 21, 0, 0, 0), 0, 0), (.iconst 1, (0, 0, 0, 0, 0), 1, 0), (.iadd, (0, 0, 0, 0, 0), 0, 0), (.putfield 249, (12, 21, 0, 0, 0), 0, 0), (.aload_n 0, (0, 0, 0, 0, 0), 0, 0), (.getfield 249, (12, 21, 0, 0, 0), 0, 0)] = some 167 ∧ px_tr cX12_count 167 .ireturn = true := by decide +kernel
theorem q_X12_count_139 : px_bk 12 8 cX12_count 139 [(.iconst (-1), (0, 0, 0, 0, 0), -1, 0)] = some 140 ∧ px_tr cX12_count 140 .ireturn = true := by decide +kernel
theorem q_X12_count_110 : px_bk 12 8 cX12_count 110 [(.aload_n 0, (0, 0, 0, 0, 0), 0, 0), (.getfield 256, (12, 23, 1, 0, 0), 0, 0), (.lload 6, (0, 0, 0, 0, 0), 0, 0), (.lcmp, (0, 0, 0, 0, 0), 0, 0)] = some 117 ∧ px_t1 cX12_count 117 .ge 127 = true := by decide +kernel
theorem q_X12_count_120 : px_bk 12 8 cX12_count 120 [(.aload_n 0, (0, 0, 0, 0, 0), 0, 0), (.getfield 256, (12, 23, 1, 0, 0), 0, 0), (.goto 5, (0, 0, 0, 0, 0), 0, 0), (.lstore 6, (0, 0, 0, 0, 0), 0, 0), (.lload 4, (0, 0, 0, 0, 0), 0, 0), (.lload 6, (0, 0, 0, 0, 0), 0, 0), (.lcmp, (0, 0, 0, 0, 0), 0, 0)] = some 136 ∧ px_t1 cX12_count 136 .le 141 = true := by decide +kernel
theorem q_X12_count_82 : px_bk 12 8 cX12_count 82 [(.aload_n 0, (0, 0, 0, 0, 0), 0, 0), (.getfield 252, (12, 22, 1, 0, 0), 0, 0), (.lload 4, (0, 0, 0, 0, 0), 0, 0), (.lcmp, (0, 0, 0, 0, 0), 0, 0)] = some 89 ∧ px_t1 cX12_count 89 .le 99 = true := by decide +kernel
theorem q_X12_count_92 : px_bk 12 8 cX12_count 92 [(.aload_n 0, (0, 0, 0, 0, 0), 0, 0), (.getfield 252, (12, 22, 1, 0, 0), 0, 0), (.goto 5, (0, 0, 0, 0, 0), 0, 0), (.lstore 4, (0, 0, 0, 0, 0), 0, 0), (.aload_n 0, (0, 0, 0, 0, 0), 0, 0), (.getfield 249, (12, 21, 0, 0, 0), 0, 0)] = some 107 ∧ px_t1 cX12_count 107 .le 127 = true := by decide +kernel
set_option maxRecDepth 100000 in
theorem k_count {n : Nat} {I : px_I} {L : px_L} {R : px_R} (hg : px_G n R) (u lo hi : Int32) : px_KS M_X12_count [.ref 103, .int u, .int lo, .int hi] n I L R (fun r I2 L2 => (mCountOk I L u lo hi ∧ r = I 103 21 + 1 ∧ I2 = px_u I 103 21 (I 103 21 + 1) ∧ L2 = px_u (px_u L 103 22 (mLo I L u lo)) 103 23 (mHi I L u hi)) ∨ (¬ mCountOk I L u lo hi ∧ r = -1 ∧ I2 = I ∧ L2 = L)) := by
  refine px_of (plainFor_of_name np_RX12) (fun _ _ _ => trivial) rfl ?_
  refine px_cSP rfl q_X12_count_0 hg rfl trivial lk_12_167 nm_X12_in (k_inI hg _ (1) (9999) (by decide) (by decide)) rfl rfl rfl ⟨rfl, rfl⟩ ?_
  intro x6 h6
  refine px_eq rfl q_X12_count_9 hg rfl trivial (fun c9 => ?_) (fun c9 => ?_)
  · replace h6 := px_bf h6 c9
    refine px_riS rfl q_X12_count_46 rfl rfl rfl hg rfl trivial ⟨⟨rfl, rfl⟩, ?_⟩
    first | exact Or.inr ⟨by unfold mCountOk mLo mHi; grind, rfl, rfl, rfl⟩ | exact Or.inl ⟨by unfold mCountOk mLo mHi; grind, rfl, rfl, by unfold mLo mHi; grind⟩
  · replace h6 := px_bt h6 c9
    refine px_cSP rfl q_X12_count_12 hg rfl trivial lk_12_167 nm_X12_in (k_inI hg _ (1) (2000000) (by decide) (by decide)) rfl rfl rfl ⟨rfl, rfl⟩ ?_
    intro x18 h18
    refine px_eq rfl q_X12_count_21 hg rfl trivial (fun c21 => ?_) (fun c21 => ?_)
    · replace h18 := px_bf h18 c21
      refine px_riS rfl q_X12_count_46 rfl rfl rfl hg rfl trivial ⟨⟨rfl, rfl⟩, ?_⟩
      first | exact Or.inr ⟨by unfold mCountOk mLo mHi; grind, rfl, rfl, rfl⟩ | exact Or.inl ⟨by unfold mCountOk mLo mHi; grind, rfl, rfl, by unfold mLo mHi; grind⟩
    · replace h18 := px_bt h18 c21
      refine px_cSP rfl q_X12_count_24 hg rfl trivial lk_12_167 nm_X12_in (k_inI hg _ _ (2000000) rfl (by decide)) rfl rfl rfl ⟨rfl, rfl⟩ ?_
      intro x31 h31
      refine px_eq rfl q_X12_count_34 hg rfl trivial (fun c34 => ?_) (fun c34 => ?_)
      · replace h31 := px_bf h31 c34
        refine px_riS rfl q_X12_count_46 rfl rfl rfl hg rfl trivial ⟨⟨rfl, rfl⟩, ?_⟩
        first | exact Or.inr ⟨by unfold mCountOk mLo mHi; grind, rfl, rfl, rfl⟩ | exact Or.inl ⟨by unfold mCountOk mLo mHi; grind, rfl, rfl, by unfold mLo mHi; grind⟩
      · replace h31 := px_bt h31 c34
        refine px_ine rfl q_X12_count_37 hg rfl trivial (fun c43 => ?_) (fun c43 => ?_)
        · refine px_le rfl q_X12_count_48 hg rfl ⟨⟨trivial, (px_nz64 (by grind))⟩, (px_nz64 (by grind))⟩ (fun c79 => ?_) (fun c79 => ?_)
          · refine px_le rfl q_X12_count_99 hg rfl trivial (fun c107 => ?_) (fun c107 => ?_)
            · refine px_lle rfl q_X12_count_127 hg rfl trivial (fun c136 => ?_) (fun c136 => ?_)
              · refine px_riS rfl q_X12_count_141 rfl rfl rfl hg rfl trivial ⟨⟨rfl, rfl⟩, ?_⟩
                first | exact Or.inr ⟨by unfold mCountOk mLo mHi; grind, rfl, rfl, rfl⟩ | exact Or.inl ⟨by unfold mCountOk mLo mHi; grind, rfl, rfl, by unfold mLo mHi; grind⟩
              · refine px_riS rfl q_X12_count_139 rfl rfl rfl hg rfl trivial ⟨⟨rfl, rfl⟩, ?_⟩
                first | exact Or.inr ⟨by unfold mCountOk mLo mHi; grind, rfl, rfl, rfl⟩ | exact Or.inl ⟨by unfold mCountOk mLo mHi; grind, rfl, rfl, by unfold mLo mHi; grind⟩
            · refine px_lge rfl q_X12_count_110 hg rfl trivial (fun c117 => ?_) (fun c117 => ?_)
              · refine px_lle rfl q_X12_count_127 hg rfl trivial (fun c136 => ?_) (fun c136 => ?_)
                · refine px_riS rfl q_X12_count_141 rfl rfl rfl hg rfl trivial ⟨⟨rfl, rfl⟩, ?_⟩
                  first | exact Or.inr ⟨by unfold mCountOk mLo mHi; grind, rfl, rfl, rfl⟩ | exact Or.inl ⟨by unfold mCountOk mLo mHi; grind, rfl, rfl, by unfold mLo mHi; grind⟩
                · refine px_riS rfl q_X12_count_139 rfl rfl rfl hg rfl trivial ⟨⟨rfl, rfl⟩, ?_⟩
                  first | exact Or.inr ⟨by unfold mCountOk mLo mHi; grind, rfl, rfl, rfl⟩ | exact Or.inl ⟨by unfold mCountOk mLo mHi; grind, rfl, rfl, by unfold mLo mHi; grind⟩
              · refine px_lle rfl q_X12_count_120 hg rfl trivial (fun c136 => ?_) (fun c136 => ?_)
                · refine px_riS rfl q_X12_count_141 rfl rfl rfl hg rfl trivial ⟨⟨rfl, rfl⟩, ?_⟩
                  first | exact Or.inr ⟨by unfold mCountOk mLo mHi; grind, rfl, rfl, rfl⟩ | exact Or.inl ⟨by unfold mCountOk mLo mHi; grind, rfl, rfl, by unfold mLo mHi; grind⟩
                · refine px_riS rfl q_X12_count_139 rfl rfl rfl hg rfl trivial ⟨⟨rfl, rfl⟩, ?_⟩
                  first | exact Or.inr ⟨by unfold mCountOk mLo mHi; grind, rfl, rfl, rfl⟩ | exact Or.inl ⟨by unfold mCountOk mLo mHi; grind, rfl, rfl, by unfold mLo mHi; grind⟩
          · refine px_lle rfl q_X12_count_82 hg rfl trivial (fun c89 => ?_) (fun c89 => ?_)
            · refine px_le rfl q_X12_count_99 hg rfl trivial (fun c107 => ?_) (fun c107 => ?_)
              · refine px_lle rfl q_X12_count_127 hg rfl trivial (fun c136 => ?_) (fun c136 => ?_)
                · refine px_riS rfl q_X12_count_141 rfl rfl rfl hg rfl trivial ⟨⟨rfl, rfl⟩, ?_⟩
                  first | exact Or.inr ⟨by unfold mCountOk mLo mHi; grind, rfl, rfl, rfl⟩ | exact Or.inl ⟨by unfold mCountOk mLo mHi; grind, rfl, rfl, by unfold mLo mHi; grind⟩
                · refine px_riS rfl q_X12_count_139 rfl rfl rfl hg rfl trivial ⟨⟨rfl, rfl⟩, ?_⟩
                  first | exact Or.inr ⟨by unfold mCountOk mLo mHi; grind, rfl, rfl, rfl⟩ | exact Or.inl ⟨by unfold mCountOk mLo mHi; grind, rfl, rfl, by unfold mLo mHi; grind⟩
              · refine px_lge rfl q_X12_count_110 hg rfl trivial (fun c117 => ?_) (fun c117 => ?_)
                · refine px_lle rfl q_X12_count_127 hg rfl trivial (fun c136 => ?_) (fun c136 => ?_)
                  · refine px_riS rfl q_X12_count_141 rfl rfl rfl hg rfl trivial ⟨⟨rfl, rfl⟩, ?_⟩
                    first | exact Or.inr ⟨by unfold mCountOk mLo mHi; grind, rfl, rfl, rfl⟩ | exact Or.inl ⟨by unfold mCountOk mLo mHi; grind, rfl, rfl, by unfold mLo mHi; grind⟩
                  · refine px_riS rfl q_X12_count_139 rfl rfl rfl hg rfl trivial ⟨⟨rfl, rfl⟩, ?_⟩
                    first | exact Or.inr ⟨by unfold mCountOk mLo mHi; grind, rfl, rfl, rfl⟩ | exact Or.inl ⟨by unfold mCountOk mLo mHi; grind, rfl, rfl, by unfold mLo mHi; grind⟩
                · refine px_lle rfl q_X12_count_120 hg rfl trivial (fun c136 => ?_) (fun c136 => ?_)
                  · refine px_riS rfl q_X12_count_141 rfl rfl rfl hg rfl trivial ⟨⟨rfl, rfl⟩, ?_⟩
                    first | exact Or.inr ⟨by unfold mCountOk mLo mHi; grind, rfl, rfl, rfl⟩ | exact Or.inl ⟨by unfold mCountOk mLo mHi; grind, rfl, rfl, by unfold mLo mHi; grind⟩
                  · refine px_riS rfl q_X12_count_139 rfl rfl rfl hg rfl trivial ⟨⟨rfl, rfl⟩, ?_⟩
                    first | exact Or.inr ⟨by unfold mCountOk mLo mHi; grind, rfl, rfl, rfl⟩ | exact Or.inl ⟨by unfold mCountOk mLo mHi; grind, rfl, rfl, by unfold mLo mHi; grind⟩
            · refine px_le rfl q_X12_count_92 hg rfl trivial (fun c107 => ?_) (fun c107 => ?_)
              · refine px_lle rfl q_X12_count_127 hg rfl trivial (fun c136 => ?_) (fun c136 => ?_)
                · refine px_riS rfl q_X12_count_141 rfl rfl rfl hg rfl trivial ⟨⟨rfl, rfl⟩, ?_⟩
                  first | exact Or.inr ⟨by unfold mCountOk mLo mHi; grind, rfl, rfl, rfl⟩ | exact Or.inl ⟨by unfold mCountOk mLo mHi; grind, rfl, rfl, by unfold mLo mHi; grind⟩
                · refine px_riS rfl q_X12_count_139 rfl rfl rfl hg rfl trivial ⟨⟨rfl, rfl⟩, ?_⟩
                  first | exact Or.inr ⟨by unfold mCountOk mLo mHi; grind, rfl, rfl, rfl⟩ | exact Or.inl ⟨by unfold mCountOk mLo mHi; grind, rfl, rfl, by unfold mLo mHi; grind⟩
              · refine px_lge rfl q_X12_count_110 hg rfl trivial (fun c117 => ?_) (fun c117 => ?_)
                · refine px_lle rfl q_X12_count_127 hg rfl trivial (fun c136 => ?_) (fun c136 => ?_)
                  · refine px_riS rfl q_X12_count_141 rfl rfl rfl hg rfl trivial ⟨⟨rfl, rfl⟩, ?_⟩
                    first | exact Or.inr ⟨by unfold mCountOk mLo mHi; grind, rfl, rfl, rfl⟩ | exact Or.inl ⟨by unfold mCountOk mLo mHi; grind, rfl, rfl, by unfold mLo mHi; grind⟩
                  · refine px_riS rfl q_X12_count_139 rfl rfl rfl hg rfl trivial ⟨⟨rfl, rfl⟩, ?_⟩
                    first | exact Or.inr ⟨by unfold mCountOk mLo mHi; grind, rfl, rfl, rfl⟩ | exact Or.inl ⟨by unfold mCountOk mLo mHi; grind, rfl, rfl, by unfold mLo mHi; grind⟩
                · refine px_lle rfl q_X12_count_120 hg rfl trivial (fun c136 => ?_) (fun c136 => ?_)
                  · refine px_riS rfl q_X12_count_141 rfl rfl rfl hg rfl trivial ⟨⟨rfl, rfl⟩, ?_⟩
                    first | exact Or.inr ⟨by unfold mCountOk mLo mHi; grind, rfl, rfl, rfl⟩ | exact Or.inl ⟨by unfold mCountOk mLo mHi; grind, rfl, rfl, by unfold mLo mHi; grind⟩
                  · refine px_riS rfl q_X12_count_139 rfl rfl rfl hg rfl trivial ⟨⟨rfl, rfl⟩, ?_⟩
                    first | exact Or.inr ⟨by unfold mCountOk mLo mHi; grind, rfl, rfl, rfl⟩ | exact Or.inl ⟨by unfold mCountOk mLo mHi; grind, rfl, rfl, by unfold mLo mHi; grind⟩
        · refine px_riS rfl q_X12_count_46 rfl rfl rfl hg rfl trivial ⟨⟨rfl, rfl⟩, ?_⟩
          first | exact Or.inr ⟨by unfold mCountOk mLo mHi; grind, rfl, rfl, rfl⟩ | exact Or.inl ⟨by unfold mCountOk mLo mHi; grind, rfl, rfl, by unfold mLo mHi; grind⟩

theorem q_X12_unit_0 : px_bk 12 2 cX12_unit 0 [(.aload_n 0, (0, 0, 0, 0, 0), 0, 0), (.getfield 249, (12, 21, 0, 0, 0), 0, 0)] = some 4 ∧ px_t1 cX12_unit 4 .ne 11 = true := by decide +kernel
theorem q_X12_unit_11 : px_bk 12 2 cX12_unit 11 [(.iload_n 1, (0, 0, 0, 0, 0), 0, 0)] = some 12 ∧ px_t1 cX12_unit 12 .eq 22 = true := by decide +kernel
theorem q_X12_unit_22 : px_bk 12 2 cX12_unit 22 [(.aload_n 0, (0, 0, 0, 0, 0), 0, 0), (.getfield 252, (12, 22, 1, 0, 0), 0, 0), (.l2i, (0, 0, 0, 0, 0), 0, 0)] = some 27 ∧ px_tr cX12_unit 27 .ireturn = true := by decide +kernel
theorem q_X12_unit_15 : px_bk 12 2 cX12_unit 15 [(.aload_n 0, (0, 0, 0, 0, 0), 0, 0), (.getfield 256, (12, 23, 1, 0, 0), 0, 0), (.goto 7, (0, 0, 0, 0, 0), 0, 0), (.l2i, (0, 0, 0, 0, 0), 0, 0)] = some 27 ∧ px_tr cX12_unit 27 .ireturn = true := by decide +kernel
theorem q_X12_unit_7 : px_bk 12 2 cX12_unit 7 [(.iconst (-1), (0, 0, 0, 0, 0), -1, 0), (.goto 19, (0, 0, 0, 0, 0), 0, 0)] = some 27 ∧ px_tr cX12_unit 27 .ireturn = true := by decide +kernel
set_option maxRecDepth 100000 in
theorem k_unit {n : Nat} {I : px_I} {L : px_L} {R : px_R} (hg : px_G n R) (h : Int32) : px_KP M_X12_unit [.ref 103, .int h] n I L R (fun r => r = if I 103 21 = 0 then -1 else if ¬ h = 0 then (L 103 23).toInt32 else (L 103 22).toInt32) := by
  refine px_of (plainFor_of_name np_RX12) (fun _ _ _ => trivial) rfl ?_
  refine px_ne rfl q_X12_unit_0 hg rfl trivial (fun c4 => ?_) (fun c4 => ?_)
  · refine px_eq rfl q_X12_unit_11 hg rfl trivial (fun c12 => ?_) (fun c12 => ?_)
    · refine px_riP rfl q_X12_unit_22 rfl rfl rfl hg rfl trivial ⟨⟨rfl, rfl, rfl, rfl⟩, ?_⟩
      grind
    · refine px_riP rfl q_X12_unit_15 rfl rfl rfl hg rfl trivial ⟨⟨rfl, rfl, rfl, rfl⟩, ?_⟩
      grind
  · refine px_riP rfl q_X12_unit_7 rfl rfl rfl hg rfl trivial ⟨⟨rfl, rfl, rfl, rfl⟩, ?_⟩
    grind

theorem q_X12_put_0 : px_bk 12 2 cX12_put 0 [(.aload_n 0, (0, 0, 0, 0, 0), 0, 0), (.getfield 65, (12, 24, 3, 121, 0), 0, 0), (.aload_n 0, (0, 0, 0, 0, 0), 0, 0), (.getfield 259, (12, 25, 0, 0, 0), 0, 0), (.iload_n 1, (0, 0, 0, 0, 0), 0, 0), (.bipush 24, (0, 0, 0, 0, 0), 24, 0), (.ishr, (0, 0, 0, 0, 0), 0, 0), (.i2b, (0, 0, 0, 0, 0), 0, 0), (.bastore, (0, 0, 0, 0, 0), 0, 0), (.aload_n 0, (0, 0, 0, 0, 0), 0, 0), (.getfield 65, (12, 24, 3, 121, 0), 0, 0), (.aload_n 0, (0, 0, 0, 0, 0), 0, 0), (.getfield 259, (12, 25, 0, 0, 0), 0, 0), (.iconst 1, (0, 0, 0, 0, 0), 1, 0), (.iadd, (0, 0, 0, 0, 0), 0, 0), (.iload_n 1, (0, 0, 0, 0, 0), 0, 0), (.bipush 16, (0, 0, 0, 0, 0), 16, 0), (.ishr, (0, 0, 0, 0, 0), 0, 0), (.i2b, (0, 0, 0, 0, 0), 0, 0), (.bastore, (0, 0, 0, 0, 0), 0, 0), (.aload_n 0, (0, 0, 0, 0, 0), 0, 0), (.getfield 65, (12, 24, 3, 121, 0), 0, 0), (.aload_n 0, (0, 0, 0, 0, 0), 0, 0), (.getfield 259, (12, 25, 0, 0, 0), 0, 0), (.iconst 2, (0, 0, 0, 0, 0), 2, 0), (.iadd, (0, 0, 0, 0, 0), 0, 0), (.iload_n 1, (0, 0, 0, 0, 0), 0, 0), (.bipush 8, (0, 0, 0, 0, 0), 8, 0), (.ishr, (0, 0, 0, 0, 0), 0, 0), (.i2b, (0, 0, 0, 0, 0), 0, 0), (.bastore, (0, 0, 0, 0, 0), 0, 0), (.aload_n 0, (0, 0, 0, 0, 0), 0, 0), (.getfield 65, (12, 24, 3, 121, 0), 0, 0), (.aload_n 0, (0, 0, 0, 0, 0), 0, 0), (.getfield 259, (12, 25, 0, 0, 0), 0, 0), (.iconst 3, (0, 0, 0, 0, 0), 3, 0), (.iadd, (0, 0, 0, 0, 0), 0, 0), (.iload_n 1, (0, 0, 0, 0, 0), 0, 0), (.i2b, (0, 0, 0, 0, 0), 0, 0), (.bastore, (0, 0, 0, 0, 0), 0, 0), (.aload_n 0, (0, 0, 0, 0, 0), 0, 0), (.dup, (0, 0, 0, 0, 0), 0, 0), (.getfield 259, (12, 25, 0, 0, 0), 0, 0), (.iconst 4, (0, 0, 0, 0, 0), 4, 0), (.iadd, (0, 0, 0, 0, 0), 0, 0), (.putfield 259, (12, 25, 0, 0, 0), 0, 0)] = some 69 ∧ px_tr cX12_put 69 .return_ = true := by decide +kernel
set_option maxRecDepth 100000 in
theorem k_put {n : Nat} {I : px_I} {L : px_L} {R : px_R} (hg : px_G n R) (x : Int32) (ht : 0 ≤ I 103 25 ∧ I 103 25 ≤ 396) : px_KV M_X12_put [.ref 103, .int x] n I L R (fun I2 L2 => I2 = mPut I x ∧ L2 = L) := by
  refine px_of (plainFor_of_name np_RX12) (fun _ _ _ => trivial) rfl ?_
  refine px_rvW rfl q_X12_put_0 rfl rfl rfl hg rfl ⟨⟨⟨⟨trivial, (by first | decide | (refine ⟨?_, ?_⟩ <;> grind) | grind)⟩, (by first | decide | (refine ⟨?_, ?_⟩ <;> grind) | grind)⟩, (by first | decide | (refine ⟨?_, ?_⟩ <;> grind) | grind)⟩, (by first | decide | (refine ⟨?_, ?_⟩ <;> grind) | grind)⟩ ⟨⟨rfl, rfl⟩, ?_⟩
  exact ⟨rfl, rfl⟩

theorem q_X12_feed_0 : px_bk 12 6 cX12_feed 0 [(.aload_n 0, (0, 0, 0, 0, 0), 0, 0), (.getfield 259, (12, 25, 0, 0, 0), 0, 0), (.bipush 20, (0, 0, 0, 0, 0), 20, 0), (.iadd, (0, 0, 0, 0, 0), 0, 0), (.sipush 400, (0, 0, 0, 0, 0), 400, 0)] = some 10 ∧ px_t2 cX12_feed 10 .le 15 = true := by decide +kernel
theorem q_X12_feed_15 : px_bk 12 6 cX12_feed 15 [(.aload_n 0, (0, 0, 0, 0, 0), 0, 0), (.iload_n 1, (0, 0, 0, 0, 0), 0, 0)] = some 17 ∧ px_tv cX12_feed 17 262 = true := by decide +kernel
theorem q_X12_feed_20 : px_bk 12 6 cX12_feed 20 [(.aload_n 0, (0, 0, 0, 0, 0), 0, 0), (.iload_n 2, (0, 0, 0, 0, 0), 0, 0)] = some 22 ∧ px_tv cX12_feed 22 262 = true := by decide +kernel
theorem q_X12_feed_25 : px_bk 12 6 cX12_feed 25 [(.aload_n 0, (0, 0, 0, 0, 0), 0, 0), (.iload_n 3, (0, 0, 0, 0, 0), 0, 0)] = some 27 ∧ px_tv cX12_feed 27 262 = true := by decide +kernel
theorem q_X12_feed_30 : px_bk 12 6 cX12_feed 30 [(.aload_n 0, (0, 0, 0, 0, 0), 0, 0), (.iload 4, (0, 0, 0, 0, 0), 0, 0)] = some 33 ∧ px_tv cX12_feed 33 262 = true := by decide +kernel
theorem q_X12_feed_36 : px_bk 12 6 cX12_feed 36 [(.aload_n 0, (0, 0, 0, 0, 0), 0, 0), (.iload 5, (0, 0, 0, 0, 0), 0, 0)] = some 39 ∧ px_tv cX12_feed 39 262 = true := by decide +kernel
theorem q_X12_feed_42 : px_bk 12 6 cX12_feed 42 [(.aload_n 0, (0, 0, 0, 0, 0), 0, 0), (.getfield 259, (12, 25, 0, 0, 0), 0, 0)] = some 46 ∧ px_tr cX12_feed 46 .ireturn = true := by decide +kernel
theorem q_X12_feed_13 : px_bk 12 6 cX12_feed 13 [(.iconst (-1), (0, 0, 0, 0, 0), -1, 0)] = some 14 ∧ px_tr cX12_feed 14 .ireturn = true := by decide +kernel
set_option maxRecDepth 100000 in
theorem k_feed {n : Nat} {I : px_I} {L : px_L} {R : px_R} (hg : px_G n R) (a b c d e : Int32) (ht : 0 ≤ I 103 25 ∧ I 103 25 ≤ 400) : px_KS M_X12_feed [.ref 103, .int a, .int b, .int c, .int d, .int e] n I L R (fun r I2 L2 => L2 = L ∧ ((I 103 25 + 20 ≤ 400 ∧ r = I 103 25 + 20 ∧ I2 = mPut (mPut (mPut (mPut (mPut I a) b) c) d) e) ∨ (¬ I 103 25 + 20 ≤ 400 ∧ r = -1 ∧ I2 = I))) := by
  refine px_of (plainFor_of_name np_RX12) (fun _ _ _ => trivial) rfl ?_
  refine px_ile rfl q_X12_feed_0 hg rfl trivial (fun c10 => ?_) (fun c10 => ?_)
  · refine px_cVW (ci := 12) rfl q_X12_feed_15 hg rfl trivial lk_12_262 nm_X12_put (k_put hg _ (by grind)) rfl rfl (px_lit hg rfl) rfl rfl rfl ⟨rfl, rfl⟩ ?_
    intro I17 L17 h17
    have e17 := congrFun (congrFun h17.1 103) 25
    rw [mPut_25] at e17
    refine px_cVW (ci := 12) rfl q_X12_feed_20 hg rfl trivial lk_12_262 nm_X12_put (k_put hg _ (by grind)) rfl rfl (px_lit hg rfl) rfl rfl rfl ⟨rfl, rfl⟩ ?_
    intro I22 L22 h22
    have e22 := congrFun (congrFun h22.1 103) 25
    rw [mPut_25] at e22
    refine px_cVW (ci := 12) rfl q_X12_feed_25 hg rfl trivial lk_12_262 nm_X12_put (k_put hg _ (by grind)) rfl rfl (px_lit hg rfl) rfl rfl rfl ⟨rfl, rfl⟩ ?_
    intro I27 L27 h27
    have e27 := congrFun (congrFun h27.1 103) 25
    rw [mPut_25] at e27
    refine px_cVW (ci := 12) rfl q_X12_feed_30 hg rfl trivial lk_12_262 nm_X12_put (k_put hg _ (by grind)) rfl rfl (px_lit hg rfl) rfl rfl rfl ⟨rfl, rfl⟩ ?_
    intro I33 L33 h33
    have e33 := congrFun (congrFun h33.1 103) 25
    rw [mPut_25] at e33
    refine px_cVW (ci := 12) rfl q_X12_feed_36 hg rfl trivial lk_12_262 nm_X12_put (k_put hg _ (by grind)) rfl rfl (px_lit hg rfl) rfl rfl rfl ⟨rfl, rfl⟩ ?_
    intro I39 L39 h39
    have e39 := congrFun (congrFun h39.1 103) 25
    rw [mPut_25] at e39
    refine px_riS rfl q_X12_feed_42 rfl rfl rfl hg rfl trivial ⟨⟨rfl, rfl⟩, ?_⟩
    grind
  · refine px_riS rfl q_X12_feed_13 rfl rfl rfl hg rfl trivial ⟨⟨rfl, rfl⟩, ?_⟩
    grind

theorem q_X12_end_0 : px_bk 12 2 cX12_end 0 [(.iload_n 1, (0, 0, 0, 0, 0), 0, 0), (.i2l, (0, 0, 0, 0, 0), 0, 0), (.lconst 0, (0, 0, 0, 0, 0), 0, 0), (.aload_n 0, (0, 0, 0, 0, 0), 0, 0), (.getfield 259, (12, 25, 0, 0, 0), 0, 0), (.i2l, (0, 0, 0, 0, 0), 0, 0)] = some 8 ∧ px_tS cX12_end 8 167 = true := by decide +kernel
theorem q_X12_end_11 : px_bk 12 2 cX12_end 11 [] = some 11 ∧ px_t1 cX12_end 11 .ne 16 = true := by decide +kernel
theorem q_X12_end_16 : px_bk 12 2 cX12_end 16 [(.aload_n 0, (0, 0, 0, 0, 0), 0, 0), (.iload_n 1, (0, 0, 0, 0, 0), 0, 0), (.putfield 259, (12, 25, 0, 0, 0), 0, 0), (.iload_n 1, (0, 0, 0, 0, 0), 0, 0)] = some 22 ∧ px_tr cX12_end 22 .ireturn = true := by decide +kernel
theorem q_X12_end_14 : px_bk 12 2 cX12_end 14 [(.iconst (-1), (0, 0, 0, 0, 0), -1, 0)] = some 15 ∧ px_tr cX12_end 15 .ireturn = true := by decide +kernel
set_option maxRecDepth 100000 in
theorem k_end {n : Nat} {I : px_I} {L : px_L} {R : px_R} (hg : px_G n R) (x : Int32) : px_KS M_X12_end [.ref 103, .int x] n I L R (fun r I2 L2 => L2 = L ∧ ((0 ≤ x ∧ x ≤ I 103 25 ∧ r = x ∧ I2 = px_u I 103 25 x) ∨ (¬ (0 ≤ x ∧ x ≤ I 103 25) ∧ r = -1 ∧ I2 = I))) := by
  refine px_of (plainFor_of_name np_RX12) (fun _ _ _ => trivial) rfl ?_
  refine px_cSP rfl q_X12_end_0 hg rfl trivial lk_12_167 nm_X12_in (k_inI hg _ (0) _ (by decide) rfl) rfl rfl rfl ⟨rfl, rfl⟩ ?_
  intro x8 h8
  refine px_ne rfl q_X12_end_11 hg rfl trivial (fun c11 => ?_) (fun c11 => ?_)
  · replace h8 := px_bt h8 c11
    refine px_riS rfl q_X12_end_16 rfl rfl rfl hg rfl trivial ⟨⟨rfl, rfl⟩, ?_⟩
    grind
  · replace h8 := px_bf h8 c11
    refine px_riS rfl q_X12_end_14 rfl rfl rfl hg rfl trivial ⟨⟨rfl, rfl⟩, ?_⟩
    grind

theorem q_X12_fault_0 : px_bk 12 2 cX12_fault 0 [(.iload_n 1, (0, 0, 0, 0, 0), 0, 0)] = some 1 ∧ px_t1 cX12_fault 1 .ne 11 = true := by decide +kernel
theorem q_X12_fault_11 : px_bk 12 2 cX12_fault 11 [(.iload_n 1, (0, 0, 0, 0, 0), 0, 0), (.iconst 1, (0, 0, 0, 0, 0), 1, 0)] = some 13 ∧ px_t2 cX12_fault 13 .ne 23 = true := by decide +kernel
theorem q_X12_fault_23 : px_bk 12 2 cX12_fault 23 [(.iconst (-1), (0, 0, 0, 0, 0), -1, 0)] = some 24 ∧ px_tr cX12_fault 24 .ireturn = true := by decide +kernel
theorem q_X12_fault_16 : px_bk 12 2 cX12_fault 16 [(.aload_n 0, (0, 0, 0, 0, 0), 0, 0), (.getfield 72, (12, 34, 0, 0, 0), 0, 0), (.goto 4, (0, 0, 0, 0, 0), 0, 0)] = some 24 ∧ px_tr cX12_fault 24 .ireturn = true := by decide +kernel
theorem q_X12_fault_4 : px_bk 12 2 cX12_fault 4 [(.aload_n 0, (0, 0, 0, 0, 0), 0, 0), (.getfield 69, (12, 33, 0, 0, 0), 0, 0), (.goto 16, (0, 0, 0, 0, 0), 0, 0)] = some 24 ∧ px_tr cX12_fault 24 .ireturn = true := by decide +kernel
set_option maxRecDepth 100000 in
theorem k_fault {n : Nat} {I : px_I} {L : px_L} {R : px_R} (hg : px_G n R) (x : Int32) : px_KP M_X12_fault [.ref 103, .int x] n I L R (fun r => r = if x = 0 then I 103 33 else if x = 1 then I 103 34 else -1) := by
  refine px_of (plainFor_of_name np_RX12) (fun _ _ _ => trivial) rfl ?_
  refine px_ne rfl q_X12_fault_0 hg rfl trivial (fun c1 => ?_) (fun c1 => ?_)
  · refine px_ine rfl q_X12_fault_11 hg rfl trivial (fun c13 => ?_) (fun c13 => ?_)
    · refine px_riP rfl q_X12_fault_23 rfl rfl rfl hg rfl trivial ⟨⟨rfl, rfl, rfl, rfl⟩, ?_⟩
      grind
    · refine px_riP rfl q_X12_fault_16 rfl rfl rfl hg rfl trivial ⟨⟨rfl, rfl, rfl, rfl⟩, ?_⟩
      grind
  · refine px_riP rfl q_X12_fault_4 rfl rfl rfl hg rfl trivial ⟨⟨rfl, rfl, rfl, rfl⟩, ?_⟩
    grind

theorem q_X12_tools_0 : px_bk 12 6 cX12_tools 0 [(.iload_n 1, (0, 0, 0, 0, 0), 0, 0), (.i2l, (0, 0, 0, 0, 0), 0, 0), (.lconst 0, (0, 0, 0, 0, 0), 0, 0), (.ldc2_w 175, (0, 0, 0, 0, 0), 0, 1000)] = some 6 ∧ px_tS cX12_tools 6 167 = true := by decide +kernel
theorem q_X12_tools_9 : px_bk 12 6 cX12_tools 9 [] = some 9 ∧ px_t1 cX12_tools 9 .eq 62 = true := by decide +kernel
theorem q_X12_tools_62 : px_bk 12 6 cX12_tools 62 [(.iconst 0, (0, 0, 0, 0, 0), 0, 0)] = some 63 ∧ px_tr cX12_tools 63 .ireturn = true := by decide +kernel
theorem q_X12_tools_12 : px_bk 12 6 cX12_tools 12 [(.iload_n 2, (0, 0, 0, 0, 0), 0, 0), (.i2l, (0, 0, 0, 0, 0), 0, 0), (.lconst 0, (0, 0, 0, 0, 0), 0, 0), (.ldc2_w 175, (0, 0, 0, 0, 0), 0, 1000)] = some 18 ∧ px_tS cX12_tools 18 167 = true := by decide +kernel
theorem q_X12_tools_21 : px_bk 12 6 cX12_tools 21 [] = some 21 ∧ px_t1 cX12_tools 21 .eq 62 = true := by decide +kernel
theorem q_X12_tools_24 : px_bk 12 6 cX12_tools 24 [(.iload_n 3, (0, 0, 0, 0, 0), 0, 0), (.i2l, (0, 0, 0, 0, 0), 0, 0), (.lconst 0, (0, 0, 0, 0, 0), 0, 0), (.ldc2_w 175, (0, 0, 0, 0, 0), 0, 1000)] = some 30 ∧ px_tS cX12_tools 30 167 = true := by decide +kernel
theorem q_X12_tools_33 : px_bk 12 6 cX12_tools 33 [] = some 33 ∧ px_t1 cX12_tools 33 .eq 62 = true := by decide +kernel
theorem q_X12_tools_36 : px_bk 12 6 cX12_tools 36 [(.iload 4, (0, 0, 0, 0, 0), 0, 0), (.i2l, (0, 0, 0, 0, 0), 0, 0), (.lconst 0, (0, 0, 0, 0, 0), 0, 0), (.ldc2_w 227, (0, 0, 0, 0, 0), 0, 10000)] = some 43 ∧ px_tS cX12_tools 43 167 = true := by decide +kernel
theorem q_X12_tools_46 : px_bk 12 6 cX12_tools 46 [] = some 46 ∧ px_t1 cX12_tools 46 .eq 62 = true := by decide +kernel
theorem q_X12_tools_49 : px_bk 12 6 cX12_tools 49 [(.iload 5, (0, 0, 0, 0, 0), 0, 0), (.i2l, (0, 0, 0, 0, 0), 0, 0), (.lconst 0, (0, 0, 0, 0, 0), 0, 0), (.ldc2_w 175, (0, 0, 0, 0, 0), 0, 1000)] = some 56 ∧ px_tS cX12_tools 56 167 = true := by decide +kernel
theorem q_X12_tools_59 : px_bk 12 6 cX12_tools 59 [] = some 59 ∧ px_t1 cX12_tools 59 .ne 64 = true := by decide +kernel
theorem q_X12_tools_64 : px_bk 12 6 cX12_tools 64 [(.aload_n 0, (0, 0, 0, 0, 0), 0, 0), (.iload_n 1, (0, 0, 0, 0, 0), 0, 0), (.putfield 106, (12, 47, 0, 0, 0), 0, 0), (.aload_n 0, (0, 0, 0, 0, 0), 0, 0), (.iload_n 2, (0, 0, 0, 0, 0), 0, 0), (.putfield 109, (12, 48, 0, 0, 0), 0, 0), (.aload_n 0, (0, 0, 0, 0, 0), 0, 0), (.iload_n 3, (0, 0, 0, 0, 0), 0, 0), (.putfield 112, (12, 49, 0, 0, 0), 0, 0), (.aload_n 0, (0, 0, 0, 0, 0), 0, 0), (.iload 4, (0, 0, 0, 0, 0), 0, 0), (.putfield 115, (12, 50, 0, 0, 0), 0, 0), (.aload_n 0, (0, 0, 0, 0, 0), 0, 0), (.iload 5, (0, 0, 0, 0, 0), 0, 0), (.putfield 118, (12, 51, 0, 0, 0), 0, 0), (.iconst 1, (0, 0, 0, 0, 0), 1, 0)] = some 92 ∧ px_tr cX12_tools 92 .ireturn = true := by decide +kernel
set_option maxRecDepth 100000 in
theorem k_tools {n : Nat} {I : px_I} {L : px_L} {R : px_R} (hg : px_G n R) (a b c d e : Int32) : px_KS M_X12_tools [.ref 103, .int a, .int b, .int c, .int d, .int e] n I L R (fun r I2 L2 => L2 = L ∧ ((((0 ≤ a ∧ a ≤ 1000) ∧ (0 ≤ b ∧ b ≤ 1000) ∧ (0 ≤ c ∧ c ≤ 1000) ∧ (0 ≤ d ∧ d ≤ 10000) ∧ (0 ≤ e ∧ e ≤ 1000)) ∧ r = 1 ∧ I2 = px_u (px_u (px_u (px_u (px_u I 103 47 a) 103 48 b) 103 49 c) 103 50 d) 103 51 e) ∨ (¬ ((0 ≤ a ∧ a ≤ 1000) ∧ (0 ≤ b ∧ b ≤ 1000) ∧ (0 ≤ c ∧ c ≤ 1000) ∧ (0 ≤ d ∧ d ≤ 10000) ∧ (0 ≤ e ∧ e ≤ 1000)) ∧ r = 0 ∧ I2 = I))) := by
  refine px_of (plainFor_of_name np_RX12) (fun _ _ _ => trivial) rfl ?_
  refine px_cSP rfl q_X12_tools_0 hg rfl trivial lk_12_167 nm_X12_in (k_inI hg _ (0) (1000) (by decide) (by decide)) rfl rfl rfl ⟨rfl, rfl⟩ ?_
  intro x6 h6
  refine px_eq rfl q_X12_tools_9 hg rfl trivial (fun c9 => ?_) (fun c9 => ?_)
  · replace h6 := px_bf h6 c9
    refine px_rzS rfl q_X12_tools_62 rfl rfl rfl hg rfl trivial ⟨⟨rfl, rfl⟩, (by first | exact Or.inl rfl | exact Or.inr rfl | grind), ?_⟩
    grind
  · replace h6 := px_bt h6 c9
    refine px_cSP rfl q_X12_tools_12 hg rfl trivial lk_12_167 nm_X12_in (k_inI hg _ (0) (1000) (by decide) (by decide)) rfl rfl rfl ⟨rfl, rfl⟩ ?_
    intro x18 h18
    refine px_eq rfl q_X12_tools_21 hg rfl trivial (fun c21 => ?_) (fun c21 => ?_)
    · replace h18 := px_bf h18 c21
      refine px_rzS rfl q_X12_tools_62 rfl rfl rfl hg rfl trivial ⟨⟨rfl, rfl⟩, (by first | exact Or.inl rfl | exact Or.inr rfl | grind), ?_⟩
      grind
    · replace h18 := px_bt h18 c21
      refine px_cSP rfl q_X12_tools_24 hg rfl trivial lk_12_167 nm_X12_in (k_inI hg _ (0) (1000) (by decide) (by decide)) rfl rfl rfl ⟨rfl, rfl⟩ ?_
      intro x30 h30
      refine px_eq rfl q_X12_tools_33 hg rfl trivial (fun c33 => ?_) (fun c33 => ?_)
      · replace h30 := px_bf h30 c33
        refine px_rzS rfl q_X12_tools_62 rfl rfl rfl hg rfl trivial ⟨⟨rfl, rfl⟩, (by first | exact Or.inl rfl | exact Or.inr rfl | grind), ?_⟩
        grind
      · replace h30 := px_bt h30 c33
        refine px_cSP rfl q_X12_tools_36 hg rfl trivial lk_12_167 nm_X12_in (k_inI hg _ (0) (10000) (by decide) (by decide)) rfl rfl rfl ⟨rfl, rfl⟩ ?_
        intro x43 h43
        refine px_eq rfl q_X12_tools_46 hg rfl trivial (fun c46 => ?_) (fun c46 => ?_)
        · replace h43 := px_bf h43 c46
          refine px_rzS rfl q_X12_tools_62 rfl rfl rfl hg rfl trivial ⟨⟨rfl, rfl⟩, (by first | exact Or.inl rfl | exact Or.inr rfl | grind), ?_⟩
          grind
        · replace h43 := px_bt h43 c46
          refine px_cSP rfl q_X12_tools_49 hg rfl trivial lk_12_167 nm_X12_in (k_inI hg _ (0) (1000) (by decide) (by decide)) rfl rfl rfl ⟨rfl, rfl⟩ ?_
          intro x56 h56
          refine px_ne rfl q_X12_tools_59 hg rfl trivial (fun c59 => ?_) (fun c59 => ?_)
          · replace h56 := px_bt h56 c59
            refine px_rzS rfl q_X12_tools_64 rfl rfl rfl hg rfl trivial ⟨⟨rfl, rfl⟩, (by first | exact Or.inl rfl | exact Or.inr rfl | grind), ?_⟩
            grind
          · replace h56 := px_bf h56 c59
            refine px_rzS rfl q_X12_tools_62 rfl rfl rfl hg rfl trivial ⟨⟨rfl, rfl⟩, (by first | exact Or.inl rfl | exact Or.inr rfl | grind), ?_⟩
            grind

theorem q_X12_there_0 : px_bk 12 4 cX12_there 0 [(.iload_n 1, (0, 0, 0, 0, 0), 0, 0)] = some 1 ∧ px_tS cX12_there 1 180 = true := by decide +kernel
theorem q_X12_there_4 : px_bk 12 4 cX12_there 4 [] = some 4 ∧ px_t1 cX12_there 4 .eq 34 = true := by decide +kernel
theorem q_X12_there_34 : px_bk 12 4 cX12_there 34 [(.iconst 0, (0, 0, 0, 0, 0), 0, 0)] = some 35 ∧ px_tr cX12_there 35 .ireturn = true := by decide +kernel
theorem q_X12_there_7 : px_bk 12 4 cX12_there 7 [(.iload_n 2, (0, 0, 0, 0, 0), 0, 0), (.i2l, (0, 0, 0, 0, 0), 0, 0), (.ldc2_w 187, (0, 0, 0, 0, 0), 0, -1000000), (.ldc2_w 189, (0, 0, 0, 0, 0), 0, 1000000)] = some 15 ∧ px_tS cX12_there 15 167 = true := by decide +kernel
theorem q_X12_there_18 : px_bk 12 4 cX12_there 18 [] = some 18 ∧ px_t1 cX12_there 18 .eq 34 = true := by decide +kernel
theorem q_X12_there_21 : px_bk 12 4 cX12_there 21 [(.iload_n 3, (0, 0, 0, 0, 0), 0, 0), (.i2l, (0, 0, 0, 0, 0), 0, 0), (.iload_n 2, (0, 0, 0, 0, 0), 0, 0), (.i2l, (0, 0, 0, 0, 0), 0, 0), (.ldc2_w 189, (0, 0, 0, 0, 0), 0, 1000000)] = some 28 ∧ px_tS cX12_there 28 167 = true := by decide +kernel
theorem q_X12_there_31 : px_bk 12 4 cX12_there 31 [] = some 31 ∧ px_t1 cX12_there 31 .ne 36 = true := by decide +kernel
theorem q_X12_there_36 : px_bk 12 4 cX12_there 36 [(.aload_n 0, (0, 0, 0, 0, 0), 0, 0), (.getfield 131, (12, 56, 3, 135, 0), 0, 0), (.iload_n 1, (0, 0, 0, 0, 0), 0, 0), (.iload_n 2, (0, 0, 0, 0, 0), 0, 0), (.iastore, (0, 0, 0, 0, 0), 0, 0), (.aload_n 0, (0, 0, 0, 0, 0), 0, 0), (.getfield 134, (12, 57, 3, 136, 0), 0, 0), (.iload_n 1, (0, 0, 0, 0, 0), 0, 0), (.iload_n 3, (0, 0, 0, 0, 0), 0, 0), (.iastore, (0, 0, 0, 0, 0), 0, 0), (.iconst 1, (0, 0, 0, 0, 0), 1, 0)] = some 51 ∧ px_tr cX12_there 51 .ireturn = true := by decide +kernel
set_option maxRecDepth 100000 in
theorem k_there {n : Nat} {I : px_I} {L : px_L} {R : px_R} (hg : px_G n R) (a lo hi : Int32) : px_KS M_X12_there [.ref 103, .int a, .int lo, .int hi] n I L R (fun r I2 L2 => L2 = L ∧ ((((0 ≤ a ∧ a ≤ 2) ∧ (-1000000 ≤ lo ∧ lo ≤ 1000000) ∧ (lo ≤ hi ∧ hi ≤ 1000000)) ∧ r = 1 ∧ I2 = px_u (px_u I 135 a.toNatClampNeg lo) 136 a.toNatClampNeg hi) ∨ (¬ ((0 ≤ a ∧ a ≤ 2) ∧ (-1000000 ≤ lo ∧ lo ≤ 1000000) ∧ (lo ≤ hi ∧ hi ≤ 1000000)) ∧ r = 0 ∧ I2 = I))) := by
  refine px_of (plainFor_of_name np_RX12) (fun _ _ _ => trivial) rfl ?_
  refine px_cSP rfl q_X12_there_0 hg rfl trivial lk_12_180 nm_X12_isAxis (k_isAxis hg _) rfl rfl rfl ⟨rfl, rfl⟩ ?_
  intro x1 h1
  refine px_eq rfl q_X12_there_4 hg rfl trivial (fun c4 => ?_) (fun c4 => ?_)
  · replace h1 := px_bf h1 c4
    refine px_rzS rfl q_X12_there_34 rfl rfl rfl hg rfl trivial ⟨⟨rfl, rfl⟩, (by first | exact Or.inl rfl | exact Or.inr rfl | grind), ?_⟩
    grind
  · replace h1 := px_bt h1 c4
    refine px_cSP rfl q_X12_there_7 hg rfl trivial lk_12_167 nm_X12_in (k_inI hg _ (-1000000) (1000000) (by decide) (by decide)) rfl rfl rfl ⟨rfl, rfl⟩ ?_
    intro x15 h15
    refine px_eq rfl q_X12_there_18 hg rfl trivial (fun c18 => ?_) (fun c18 => ?_)
    · replace h15 := px_bf h15 c18
      refine px_rzS rfl q_X12_there_34 rfl rfl rfl hg rfl trivial ⟨⟨rfl, rfl⟩, (by first | exact Or.inl rfl | exact Or.inr rfl | grind), ?_⟩
      grind
    · replace h15 := px_bt h15 c18
      refine px_cSP rfl q_X12_there_21 hg rfl trivial lk_12_167 nm_X12_in (k_inI hg _ _ (1000000) rfl (by decide)) rfl rfl rfl ⟨rfl, rfl⟩ ?_
      intro x28 h28
      refine px_ne rfl q_X12_there_31 hg rfl trivial (fun c31 => ?_) (fun c31 => ?_)
      · replace h28 := px_bt h28 c31
        refine px_rzS rfl q_X12_there_36 rfl rfl rfl hg rfl ⟨⟨trivial, (by first | decide | (refine ⟨?_, ?_⟩ <;> grind) | grind)⟩, (by first | decide | (refine ⟨?_, ?_⟩ <;> grind) | grind)⟩ ⟨⟨rfl, rfl⟩, (by first | exact Or.inl rfl | exact Or.inr rfl | grind), ?_⟩
        grind
      · replace h28 := px_bf h28 c31
        refine px_rzS rfl q_X12_there_34 rfl rfl rfl hg rfl trivial ⟨⟨rfl, rfl⟩, (by first | exact Or.inl rfl | exact Or.inr rfl | grind), ?_⟩
        grind

theorem q_X12_seek_0 : px_bk 12 7 cX12_seek 0 [(.iload_n 1, (0, 0, 0, 0, 0), 0, 0), (.i2l, (0, 0, 0, 0, 0), 0, 0), (.lconst 0, (0, 0, 0, 0, 0), 0, 0), (.ldc2_w 442, (0, 0, 0, 0, 0), 0, 9)] = some 6 ∧ px_tS cX12_seek 6 167 = true := by decide +kernel
theorem q_X12_seek_9 : px_bk 12 7 cX12_seek 9 [] = some 9 ∧ px_t1 cX12_seek 9 .eq 83 = true := by decide +kernel
theorem q_X12_seek_83 : px_bk 12 7 cX12_seek 83 [(.iconst 0, (0, 0, 0, 0, 0), 0, 0)] = some 84 ∧ px_tr cX12_seek 84 .ireturn = true := by decide +kernel
theorem q_X12_seek_12 : px_bk 12 7 cX12_seek 12 [(.iload_n 2, (0, 0, 0, 0, 0), 0, 0), (.i2l, (0, 0, 0, 0, 0), 0, 0), (.lconst 0, (0, 0, 0, 0, 0), 0, 0), (.ldc2_w 442, (0, 0, 0, 0, 0), 0, 9)] = some 18 ∧ px_tS cX12_seek 18 167 = true := by decide +kernel
theorem q_X12_seek_21 : px_bk 12 7 cX12_seek 21 [] = some 21 ∧ px_t1 cX12_seek 21 .eq 83 = true := by decide +kernel
theorem q_X12_seek_24 : px_bk 12 7 cX12_seek 24 [(.iload_n 3, (0, 0, 0, 0, 0), 0, 0), (.i2l, (0, 0, 0, 0, 0), 0, 0), (.lconst 0, (0, 0, 0, 0, 0), 0, 0), (.ldc2_w 442, (0, 0, 0, 0, 0), 0, 9)] = some 30 ∧ px_tS cX12_seek 30 167 = true := by decide +kernel
theorem q_X12_seek_33 : px_bk 12 7 cX12_seek 33 [] = some 33 ∧ px_t1 cX12_seek 33 .eq 83 = true := by decide +kernel
theorem q_X12_seek_36 : px_bk 12 7 cX12_seek 36 [(.iload_n 1, (0, 0, 0, 0, 0), 0, 0), (.iload_n 2, (0, 0, 0, 0, 0), 0, 0), (.iadd, (0, 0, 0, 0, 0), 0, 0), (.iload_n 3, (0, 0, 0, 0, 0), 0, 0), (.iadd, (0, 0, 0, 0, 0), 0, 0)] = some 41 ∧ px_t1 cX12_seek 41 .eq 83 = true := by decide +kernel
theorem q_X12_seek_44 : px_bk 12 7 cX12_seek 44 [(.iload 4, (0, 0, 0, 0, 0), 0, 0), (.i2l, (0, 0, 0, 0, 0), 0, 0), (.lconst 0, (0, 0, 0, 0, 0), 0, 0), (.ldc2_w 444, (0, 0, 0, 0, 0), 0, 40)] = some 51 ∧ px_tS cX12_seek 51 167 = true := by decide +kernel
theorem q_X12_seek_54 : px_bk 12 7 cX12_seek 54 [] = some 54 ∧ px_t1 cX12_seek 54 .eq 83 = true := by decide +kernel
theorem q_X12_seek_57 : px_bk 12 7 cX12_seek 57 [(.iload 5, (0, 0, 0, 0, 0), 0, 0), (.i2l, (0, 0, 0, 0, 0), 0, 0), (.lconst 0, (0, 0, 0, 0, 0), 0, 0), (.ldc2_w 446, (0, 0, 0, 0, 0), 0, 3)] = some 64 ∧ px_tS cX12_seek 64 167 = true := by decide +kernel
theorem q_X12_seek_67 : px_bk 12 7 cX12_seek 67 [] = some 67 ∧ px_t1 cX12_seek 67 .eq 83 = true := by decide +kernel
theorem q_X12_seek_70 : px_bk 12 7 cX12_seek 70 [(.iload 6, (0, 0, 0, 0, 0), 0, 0), (.i2l, (0, 0, 0, 0, 0), 0, 0), (.lconst 0, (0, 0, 0, 0, 0), 0, 0), (.ldc2_w 448, (0, 0, 0, 0, 0), 0, 20)] = some 77 ∧ px_tS cX12_seek 77 167 = true := by decide +kernel
theorem q_X12_seek_80 : px_bk 12 7 cX12_seek 80 [] = some 80 ∧ px_t1 cX12_seek 80 .ne 85 = true := by decide +kernel
theorem q_X12_seek_85 : px_bk 12 7 cX12_seek 85 [(.aload_n 0, (0, 0, 0, 0, 0), 0, 0), (.getfield 137, (12, 58, 3, 137, 0), 0, 0), (.iconst 0, (0, 0, 0, 0, 0), 0, 0), (.iload_n 1, (0, 0, 0, 0, 0), 0, 0), (.iastore, (0, 0, 0, 0, 0), 0, 0), (.aload_n 0, (0, 0, 0, 0, 0), 0, 0), (.getfield 137, (12, 58, 3, 137, 0), 0, 0), (.iconst 1, (0, 0, 0, 0, 0), 1, 0), (.iload_n 2, (0, 0, 0, 0, 0), 0, 0), (.iastore, (0, 0, 0, 0, 0), 0, 0), (.aload_n 0, (0, 0, 0, 0, 0), 0, 0), (.getfield 137, (12, 58, 3, 137, 0), 0, 0), (.iconst 2, (0, 0, 0, 0, 0), 2, 0), (.iload_n 3, (0, 0, 0, 0, 0), 0, 0), (.iastore, (0, 0, 0, 0, 0), 0, 0), (.aload_n 0, (0, 0, 0, 0, 0), 0, 0), (.iload 4, (0, 0, 0, 0, 0), 0, 0), (.putfield 450, (12, 59, 0, 0, 0), 0, 0), (.aload_n 0, (0, 0, 0, 0, 0), 0, 0), (.iload 5, (0, 0, 0, 0, 0), 0, 0), (.putfield 453, (12, 60, 0, 0, 0), 0, 0), (.aload_n 0, (0, 0, 0, 0, 0), 0, 0), (.iload 6, (0, 0, 0, 0, 0), 0, 0), (.putfield 456, (12, 61, 0, 0, 0), 0, 0), (.iconst 1, (0, 0, 0, 0, 0), 1, 0)] = some 125 ∧ px_tr cX12_seek 125 .ireturn = true := by decide +kernel
set_option maxRecDepth 100000 in
theorem k_seek {n : Nat} {I : px_I} {L : px_L} {R : px_R} (hg : px_G n R) (a b c d e f : Int32) : px_KS M_X12_seek [.ref 103, .int a, .int b, .int c, .int d, .int e, .int f] n I L R (fun r I2 L2 => L2 = L ∧ ((((0 ≤ a ∧ a ≤ 9) ∧ (0 ≤ b ∧ b ≤ 9) ∧ (0 ≤ c ∧ c ≤ 9) ∧ a + b + c ≠ 0 ∧ (0 ≤ d ∧ d ≤ 40) ∧ (0 ≤ e ∧ e ≤ 3) ∧ (0 ≤ f ∧ f ≤ 20)) ∧ r = 1 ∧ I2 = px_u (px_u (px_u (px_u (px_u (px_u I 137 0 a) 137 1 b) 137 2 c) 103 59 d) 103 60 e) 103 61 f) ∨ (¬ ((0 ≤ a ∧ a ≤ 9) ∧ (0 ≤ b ∧ b ≤ 9) ∧ (0 ≤ c ∧ c ≤ 9) ∧ a + b + c ≠ 0 ∧ (0 ≤ d ∧ d ≤ 40) ∧ (0 ≤ e ∧ e ≤ 3) ∧ (0 ≤ f ∧ f ≤ 20)) ∧ r = 0 ∧ I2 = I))) := by
  refine px_of (plainFor_of_name np_RX12) (fun _ _ _ => trivial) rfl ?_
  refine px_cSP rfl q_X12_seek_0 hg rfl trivial lk_12_167 nm_X12_in (k_inI hg _ (0) (9) (by decide) (by decide)) rfl rfl rfl ⟨rfl, rfl⟩ ?_
  intro x6 h6
  refine px_eq rfl q_X12_seek_9 hg rfl trivial (fun c9 => ?_) (fun c9 => ?_)
  · replace h6 := px_bf h6 c9
    refine px_rzS rfl q_X12_seek_83 rfl rfl rfl hg rfl trivial ⟨⟨rfl, rfl⟩, (by first | exact Or.inl rfl | exact Or.inr rfl | grind), ?_⟩
    first | exact ⟨rfl, Or.inl ⟨by grind, rfl, rfl⟩⟩ | exact ⟨rfl, Or.inr ⟨by grind, rfl, rfl⟩⟩
  · replace h6 := px_bt h6 c9
    refine px_cSP rfl q_X12_seek_12 hg rfl trivial lk_12_167 nm_X12_in (k_inI hg _ (0) (9) (by decide) (by decide)) rfl rfl rfl ⟨rfl, rfl⟩ ?_
    intro x18 h18
    refine px_eq rfl q_X12_seek_21 hg rfl trivial (fun c21 => ?_) (fun c21 => ?_)
    · replace h18 := px_bf h18 c21
      refine px_rzS rfl q_X12_seek_83 rfl rfl rfl hg rfl trivial ⟨⟨rfl, rfl⟩, (by first | exact Or.inl rfl | exact Or.inr rfl | grind), ?_⟩
      first | exact ⟨rfl, Or.inl ⟨by grind, rfl, rfl⟩⟩ | exact ⟨rfl, Or.inr ⟨by grind, rfl, rfl⟩⟩
    · replace h18 := px_bt h18 c21
      refine px_cSP rfl q_X12_seek_24 hg rfl trivial lk_12_167 nm_X12_in (k_inI hg _ (0) (9) (by decide) (by decide)) rfl rfl rfl ⟨rfl, rfl⟩ ?_
      intro x30 h30
      refine px_eq rfl q_X12_seek_33 hg rfl trivial (fun c33 => ?_) (fun c33 => ?_)
      · replace h30 := px_bf h30 c33
        refine px_rzS rfl q_X12_seek_83 rfl rfl rfl hg rfl trivial ⟨⟨rfl, rfl⟩, (by first | exact Or.inl rfl | exact Or.inr rfl | grind), ?_⟩
        first | exact ⟨rfl, Or.inl ⟨by grind, rfl, rfl⟩⟩ | exact ⟨rfl, Or.inr ⟨by grind, rfl, rfl⟩⟩
      · replace h30 := px_bt h30 c33
        refine px_eq rfl q_X12_seek_36 hg rfl trivial (fun c41 => ?_) (fun c41 => ?_)
        · refine px_rzS rfl q_X12_seek_83 rfl rfl rfl hg rfl trivial ⟨⟨rfl, rfl⟩, (by first | exact Or.inl rfl | exact Or.inr rfl | grind), ?_⟩
          first | exact ⟨rfl, Or.inl ⟨by grind, rfl, rfl⟩⟩ | exact ⟨rfl, Or.inr ⟨by grind, rfl, rfl⟩⟩
        · refine px_cSP rfl q_X12_seek_44 hg rfl trivial lk_12_167 nm_X12_in (k_inI hg _ (0) (40) (by decide) (by decide)) rfl rfl rfl ⟨rfl, rfl⟩ ?_
          intro x51 h51
          refine px_eq rfl q_X12_seek_54 hg rfl trivial (fun c54 => ?_) (fun c54 => ?_)
          · replace h51 := px_bf h51 c54
            refine px_rzS rfl q_X12_seek_83 rfl rfl rfl hg rfl trivial ⟨⟨rfl, rfl⟩, (by first | exact Or.inl rfl | exact Or.inr rfl | grind), ?_⟩
            first | exact ⟨rfl, Or.inl ⟨by grind, rfl, rfl⟩⟩ | exact ⟨rfl, Or.inr ⟨by grind, rfl, rfl⟩⟩
          · replace h51 := px_bt h51 c54
            refine px_cSP rfl q_X12_seek_57 hg rfl trivial lk_12_167 nm_X12_in (k_inI hg _ (0) (3) (by decide) (by decide)) rfl rfl rfl ⟨rfl, rfl⟩ ?_
            intro x64 h64
            refine px_eq rfl q_X12_seek_67 hg rfl trivial (fun c67 => ?_) (fun c67 => ?_)
            · replace h64 := px_bf h64 c67
              refine px_rzS rfl q_X12_seek_83 rfl rfl rfl hg rfl trivial ⟨⟨rfl, rfl⟩, (by first | exact Or.inl rfl | exact Or.inr rfl | grind), ?_⟩
              first | exact ⟨rfl, Or.inl ⟨by grind, rfl, rfl⟩⟩ | exact ⟨rfl, Or.inr ⟨by grind, rfl, rfl⟩⟩
            · replace h64 := px_bt h64 c67
              refine px_cSP rfl q_X12_seek_70 hg rfl trivial lk_12_167 nm_X12_in (k_inI hg _ (0) (20) (by decide) (by decide)) rfl rfl rfl ⟨rfl, rfl⟩ ?_
              intro x77 h77
              refine px_ne rfl q_X12_seek_80 hg rfl trivial (fun c80 => ?_) (fun c80 => ?_)
              · replace h77 := px_bt h77 c80
                refine px_rzS rfl q_X12_seek_85 rfl rfl rfl hg rfl ⟨⟨⟨trivial, (by first | decide | (refine ⟨?_, ?_⟩ <;> grind) | grind)⟩, (by first | decide | (refine ⟨?_, ?_⟩ <;> grind) | grind)⟩, (by first | decide | (refine ⟨?_, ?_⟩ <;> grind) | grind)⟩ ⟨⟨rfl, rfl⟩, (by first | exact Or.inl rfl | exact Or.inr rfl | grind), ?_⟩
                first | exact ⟨rfl, Or.inl ⟨by grind, rfl, rfl⟩⟩ | exact ⟨rfl, Or.inr ⟨by grind, rfl, rfl⟩⟩
              · replace h77 := px_bf h77 c80
                refine px_rzS rfl q_X12_seek_83 rfl rfl rfl hg rfl trivial ⟨⟨rfl, rfl⟩, (by first | exact Or.inl rfl | exact Or.inr rfl | grind), ?_⟩
                first | exact ⟨rfl, Or.inl ⟨by grind, rfl, rfl⟩⟩ | exact ⟨rfl, Or.inr ⟨by grind, rfl, rfl⟩⟩

theorem q_X12_table_0 : px_bk 12 3 cX12_table 0 [(.iload_n 1, (0, 0, 0, 0, 0), 0, 0), (.i2l, (0, 0, 0, 0, 0), 0, 0), (.lconst 0, (0, 0, 0, 0, 0), 0, 0), (.ldc2_w 442, (0, 0, 0, 0, 0), 0, 9)] = some 6 ∧ px_tS cX12_table 6 167 = true := by decide +kernel
theorem q_X12_table_9 : px_bk 12 3 cX12_table 9 [] = some 9 ∧ px_t1 cX12_table 9 .eq 24 = true := by decide +kernel
theorem q_X12_table_24 : px_bk 12 3 cX12_table 24 [(.iconst 0, (0, 0, 0, 0, 0), 0, 0)] = some 25 ∧ px_tr cX12_table 25 .ireturn = true := by decide +kernel
theorem q_X12_table_12 : px_bk 12 3 cX12_table 12 [(.iload_n 2, (0, 0, 0, 0, 0), 0, 0), (.i2l, (0, 0, 0, 0, 0), 0, 0), (.lconst 0, (0, 0, 0, 0, 0), 0, 0), (.ldc2_w 175, (0, 0, 0, 0, 0), 0, 1000)] = some 18 ∧ px_tS cX12_table 18 167 = true := by decide +kernel
theorem q_X12_table_21 : px_bk 12 3 cX12_table 21 [] = some 21 ∧ px_t1 cX12_table 21 .ne 26 = true := by decide +kernel
theorem q_X12_table_26 : px_bk 12 3 cX12_table 26 [(.aload_n 0, (0, 0, 0, 0, 0), 0, 0), (.getfield 140, (12, 62, 3, 138, 0), 0, 0), (.iload_n 1, (0, 0, 0, 0, 0), 0, 0), (.iload_n 2, (0, 0, 0, 0, 0), 0, 0), (.iastore, (0, 0, 0, 0, 0), 0, 0), (.iconst 1, (0, 0, 0, 0, 0), 1, 0)] = some 34 ∧ px_tr cX12_table 34 .ireturn = true := by decide +kernel
set_option maxRecDepth 100000 in
theorem k_table {n : Nat} {I : px_I} {L : px_L} {R : px_R} (hg : px_G n R) (c v : Int32) : px_KS M_X12_table [.ref 103, .int c, .int v] n I L R (fun r I2 L2 => L2 = L ∧ ((((0 ≤ c ∧ c ≤ 9) ∧ (0 ≤ v ∧ v ≤ 1000)) ∧ r = 1 ∧ I2 = px_u I 138 c.toNatClampNeg v) ∨ (¬ ((0 ≤ c ∧ c ≤ 9) ∧ (0 ≤ v ∧ v ≤ 1000)) ∧ r = 0 ∧ I2 = I))) := by
  refine px_of (plainFor_of_name np_RX12) (fun _ _ _ => trivial) rfl ?_
  refine px_cSP rfl q_X12_table_0 hg rfl trivial lk_12_167 nm_X12_in (k_inI hg _ (0) (9) (by decide) (by decide)) rfl rfl rfl ⟨rfl, rfl⟩ ?_
  intro x6 h6
  refine px_eq rfl q_X12_table_9 hg rfl trivial (fun c9 => ?_) (fun c9 => ?_)
  · replace h6 := px_bf h6 c9
    refine px_rzS rfl q_X12_table_24 rfl rfl rfl hg rfl trivial ⟨⟨rfl, rfl⟩, (by first | exact Or.inl rfl | exact Or.inr rfl | grind), ?_⟩
    grind
  · replace h6 := px_bt h6 c9
    refine px_cSP rfl q_X12_table_12 hg rfl trivial lk_12_167 nm_X12_in (k_inI hg _ (0) (1000) (by decide) (by decide)) rfl rfl rfl ⟨rfl, rfl⟩ ?_
    intro x18 h18
    refine px_ne rfl q_X12_table_21 hg rfl trivial (fun c21 => ?_) (fun c21 => ?_)
    · replace h18 := px_bt h18 c21
      refine px_rzS rfl q_X12_table_26 rfl rfl rfl hg rfl ⟨trivial, (by first | decide | (refine ⟨?_, ?_⟩ <;> grind) | grind)⟩ ⟨⟨rfl, rfl⟩, (by first | exact Or.inl rfl | exact Or.inr rfl | grind), ?_⟩
      grind
    · replace h18 := px_bf h18 c21
      refine px_rzS rfl q_X12_table_24 rfl rfl rfl hg rfl trivial ⟨⟨rfl, rfl⟩, (by first | exact Or.inl rfl | exact Or.inr rfl | grind), ?_⟩
      grind

theorem q_X12_repair_0 : px_bk 12 4 cX12_repair 0 [(.aload_n 0, (0, 0, 0, 0, 0), 0, 0), (.iload_n 1, (0, 0, 0, 0, 0), 0, 0), (.iload_n 2, (0, 0, 0, 0, 0), 0, 0)] = some 3 ∧ px_tv cX12_repair 3 233 = true := by decide +kernel
theorem q_X12_repair_6 : px_bk 12 4 cX12_repair 6 [] = some 6 ∧ px_t1 cX12_repair 6 .eq 34 = true := by decide +kernel
theorem q_X12_repair_34 : px_bk 12 4 cX12_repair 34 [(.iconst (-1), (0, 0, 0, 0, 0), -1, 0)] = some 35 ∧ px_tr cX12_repair 35 .ireturn = true := by decide +kernel
theorem q_X12_repair_9 : px_bk 12 4 cX12_repair 9 [(.iload_n 2, (0, 0, 0, 0, 0), 0, 0)] = some 10 ∧ px_t1 cX12_repair 10 .eq 34 = true := by decide +kernel
theorem q_X12_repair_13 : px_bk 12 4 cX12_repair 13 [(.iload_n 3, (0, 0, 0, 0, 0), 0, 0), (.i2l, (0, 0, 0, 0, 0), 0, 0), (.lconst 0, (0, 0, 0, 0, 0), 0, 0), (.ldc2_w 231, (0, 0, 0, 0, 0), 0, 5000)] = some 19 ∧ px_tS cX12_repair 19 167 = true := by decide +kernel
theorem q_X12_repair_22 : px_bk 12 4 cX12_repair 22 [] = some 22 ∧ px_t1 cX12_repair 22 .eq 34 = true := by decide +kernel
theorem q_X12_repair_25 : px_bk 12 4 cX12_repair 25 [(.aload_n 0, (0, 0, 0, 0, 0), 0, 0), (.getfield 469, (12, 63, 0, 0, 0), 0, 0), (.bipush 30, (0, 0, 0, 0, 0), 30, 0)] = some 31 ∧ px_t2 cX12_repair 31 .ne 36 = true := by decide +kernel
theorem q_X12_repair_36 : px_bk 12 4 cX12_repair 36 [(.aload_n 0, (0, 0, 0, 0, 0), 0, 0), (.getfield 143, (12, 64, 3, 139, 0), 0, 0), (.aload_n 0, (0, 0, 0, 0, 0), 0, 0), (.getfield 469, (12, 63, 0, 0, 0), 0, 0), (.iload_n 1, (0, 0, 0, 0, 0), 0, 0), (.iastore, (0, 0, 0, 0, 0), 0, 0), (.aload_n 0, (0, 0, 0, 0, 0), 0, 0), (.getfield 146, (12, 65, 3, 140, 0), 0, 0), (.aload_n 0, (0, 0, 0, 0, 0), 0, 0), (.getfield 469, (12, 63, 0, 0, 0), 0, 0), (.iload_n 2, (0, 0, 0, 0, 0), 0, 0), (.iastore, (0, 0, 0, 0, 0), 0, 0), (.aload_n 0, (0, 0, 0, 0, 0), 0, 0), (.getfield 149, (12, 66, 3, 141, 0), 0, 0), (.aload_n 0, (0, 0, 0, 0, 0), 0, 0), (.getfield 469, (12, 63, 0, 0, 0), 0, 0), (.iload_n 3, (0, 0, 0, 0, 0), 0, 0), (.iastore, (0, 0, 0, 0, 0), 0, 0), (.aload_n 0, (0, 0, 0, 0, 0), 0, 0), (.getfield 152, (12, 67, 3, 142, 0), 0, 0), (.aload_n 0, (0, 0, 0, 0, 0), 0, 0), (.getfield 469, (12, 63, 0, 0, 0), 0, 0), (.aload_n 0, (0, 0, 0, 0, 0), 0, 0), (.getfield 177, (12, 0, 0, 0, 0), 0, 0), (.iastore, (0, 0, 0, 0, 0), 0, 0), (.aload_n 0, (0, 0, 0, 0, 0), 0, 0), (.dup, (0, 0, 0, 0, 0), 0, 0), (.getfield 469, (12, 63, 0, 0, 0), 0, 0), (.iconst 1, (0, 0, 0, 0, 0), 1, 0), (.iadd, (0, 0, 0, 0, 0), 0, 0), (.putfield 469, (12, 63, 0, 0, 0), 0, 0), (.aload_n 0, (0, 0, 0, 0, 0), 0, 0), (.getfield 469, (12, 63, 0, 0, 0), 0, 0)] = some 93 ∧ px_tr cX12_repair 93 .ireturn = true := by decide +kernel
set_option maxRecDepth 100000 in
theorem k_repair {n : Nat} {I : px_I} {L : px_L} {R : px_R} (hg : px_G n R) (g p y : Int32) (hr : 0 ≤ I 103 63 ∧ I 103 63 ≤ 30) : px_KS M_X12_repair [.ref 103, .int g, .int p, .int y] n I L R (fun r I2 L2 => L2 = L ∧ (((mPegOk I g p ∧ p ≠ 0 ∧ (0 ≤ y ∧ y ≤ 5000) ∧ I 103 63 ≠ 30) ∧ r = I 103 63 + 1 ∧ I2 = px_u (px_u (px_u (px_u (px_u I 139 (I 103 63).toNatClampNeg g) 140 (I 103 63).toNatClampNeg p) 141 (I 103 63).toNatClampNeg y) 142 (I 103 63).toNatClampNeg (I 103 0)) 103 63 (I 103 63 + 1)) ∨ (¬ (mPegOk I g p ∧ p ≠ 0 ∧ (0 ≤ y ∧ y ≤ 5000) ∧ I 103 63 ≠ 30) ∧ r = -1 ∧ I2 = I))) := by
  refine px_of (plainFor_of_name np_RX12) (fun _ _ _ => trivial) rfl ?_
  refine px_cVP (ci := 12) rfl q_X12_repair_0 hg rfl trivial lk_12_233 nm_X12_isPeg (k_isPeg hg _ _) rfl rfl (px_lit hg rfl) rfl rfl rfl ⟨rfl, rfl⟩ ?_
  intro x3 h3
  refine px_eq rfl q_X12_repair_6 hg rfl trivial (fun c6 => ?_) (fun c6 => ?_)
  · replace h3 := px_bf h3 c6
    refine px_riS rfl q_X12_repair_34 rfl rfl rfl hg rfl trivial ⟨⟨rfl, rfl⟩, ?_⟩
    first | exact ⟨rfl, Or.inl ⟨by unfold mPegOk; grind, rfl, rfl⟩⟩ | exact ⟨rfl, Or.inr ⟨by unfold mPegOk; grind, rfl, rfl⟩⟩
  · replace h3 := px_bt h3 c6
    refine px_eq rfl q_X12_repair_9 hg rfl trivial (fun c10 => ?_) (fun c10 => ?_)
    · refine px_riS rfl q_X12_repair_34 rfl rfl rfl hg rfl trivial ⟨⟨rfl, rfl⟩, ?_⟩
      first | exact ⟨rfl, Or.inl ⟨by unfold mPegOk; grind, rfl, rfl⟩⟩ | exact ⟨rfl, Or.inr ⟨by unfold mPegOk; grind, rfl, rfl⟩⟩
    · refine px_cSP rfl q_X12_repair_13 hg rfl trivial lk_12_167 nm_X12_in (k_inI hg _ (0) (5000) (by decide) (by decide)) rfl rfl rfl ⟨rfl, rfl⟩ ?_
      intro x19 h19
      refine px_eq rfl q_X12_repair_22 hg rfl trivial (fun c22 => ?_) (fun c22 => ?_)
      · replace h19 := px_bf h19 c22
        refine px_riS rfl q_X12_repair_34 rfl rfl rfl hg rfl trivial ⟨⟨rfl, rfl⟩, ?_⟩
        first | exact ⟨rfl, Or.inl ⟨by unfold mPegOk; grind, rfl, rfl⟩⟩ | exact ⟨rfl, Or.inr ⟨by unfold mPegOk; grind, rfl, rfl⟩⟩
      · replace h19 := px_bt h19 c22
        refine px_ine rfl q_X12_repair_25 hg rfl trivial (fun c31 => ?_) (fun c31 => ?_)
        · refine px_riS rfl q_X12_repair_36 rfl rfl rfl hg rfl ⟨⟨⟨⟨trivial, (by first | decide | (refine ⟨?_, ?_⟩ <;> grind) | grind)⟩, (by first | decide | (refine ⟨?_, ?_⟩ <;> grind) | grind)⟩, (by first | decide | (refine ⟨?_, ?_⟩ <;> grind) | grind)⟩, (by first | decide | (refine ⟨?_, ?_⟩ <;> grind) | grind)⟩ ⟨⟨rfl, rfl⟩, ?_⟩
          first | exact ⟨rfl, Or.inl ⟨by unfold mPegOk; grind, rfl, rfl⟩⟩ | exact ⟨rfl, Or.inr ⟨by unfold mPegOk; grind, rfl, rfl⟩⟩
        · refine px_riS rfl q_X12_repair_34 rfl rfl rfl hg rfl trivial ⟨⟨rfl, rfl⟩, ?_⟩
          first | exact ⟨rfl, Or.inl ⟨by unfold mPegOk; grind, rfl, rfl⟩⟩ | exact ⟨rfl, Or.inr ⟨by unfold mPegOk; grind, rfl, rfl⟩⟩

theorem q_X12_lime_0 : px_bk 12 2 cX12_lime 0 [(.iload_n 1, (0, 0, 0, 0, 0), 0, 0), (.i2l, (0, 0, 0, 0, 0), 0, 0), (.lconst 0, (0, 0, 0, 0, 0), 0, 0), (.ldc2_w 175, (0, 0, 0, 0, 0), 0, 1000)] = some 6 ∧ px_tS cX12_lime 6 167 = true := by decide +kernel
theorem q_X12_lime_9 : px_bk 12 2 cX12_lime 9 [] = some 9 ∧ px_t1 cX12_lime 9 .ne 14 = true := by decide +kernel
theorem q_X12_lime_14 : px_bk 12 2 cX12_lime 14 [(.aload_n 0, (0, 0, 0, 0, 0), 0, 0), (.iload_n 1, (0, 0, 0, 0, 0), 0, 0), (.putfield 472, (12, 68, 0, 0, 0), 0, 0), (.iconst 1, (0, 0, 0, 0, 0), 1, 0)] = some 20 ∧ px_tr cX12_lime 20 .ireturn = true := by decide +kernel
theorem q_X12_lime_12 : px_bk 12 2 cX12_lime 12 [(.iconst 0, (0, 0, 0, 0, 0), 0, 0)] = some 13 ∧ px_tr cX12_lime 13 .ireturn = true := by decide +kernel
set_option maxRecDepth 100000 in
theorem k_lime {n : Nat} {I : px_I} {L : px_L} {R : px_R} (hg : px_G n R) (v : Int32) : px_KS M_X12_lime [.ref 103, .int v] n I L R (fun r I2 L2 => L2 = L ∧ ((0 ≤ v ∧ v ≤ 1000 ∧ r = 1 ∧ I2 = px_u I 103 68 v) ∨ (¬ (0 ≤ v ∧ v ≤ 1000) ∧ r = 0 ∧ I2 = I))) := by
  refine px_of (plainFor_of_name np_RX12) (fun _ _ _ => trivial) rfl ?_
  refine px_cSP rfl q_X12_lime_0 hg rfl trivial lk_12_167 nm_X12_in (k_inI hg _ (0) (1000) (by decide) (by decide)) rfl rfl rfl ⟨rfl, rfl⟩ ?_
  intro x6 h6
  refine px_ne rfl q_X12_lime_9 hg rfl trivial (fun c9 => ?_) (fun c9 => ?_)
  · replace h6 := px_bt h6 c9
    refine px_rzS rfl q_X12_lime_14 rfl rfl rfl hg rfl trivial ⟨⟨rfl, rfl⟩, (by first | exact Or.inl rfl | exact Or.inr rfl | grind), ?_⟩
    grind
  · replace h6 := px_bf h6 c9
    refine px_rzS rfl q_X12_lime_12 rfl rfl rfl hg rfl trivial ⟨⟨rfl, rfl⟩, (by first | exact Or.inl rfl | exact Or.inr rfl | grind), ?_⟩
    grind
