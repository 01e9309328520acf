/-! texts: the JDK's own members; the tape -/
theorem jb_len : ∀ i, i < 9 → (Int32.ofNat (px_len.getD i 0)) >>> ((0 : Int32) &&& 31) = Int32.ofNat (px_len.getD i 0) := by decide
theorem jb_chr : ∀ i, i < 9 → ∀ k, k < px_len.getD i 0 → (((px_byt.getD i []).getD k 0 &&& 255).toUInt32 % 65536).toInt32 = (px_byt.getD i []).getD k 0 := by decide
theorem jb_nar : ∀ i, i < 9 → ∀ k, k < px_len.getD i 0 → narrow .char (.int ((px_byt.getD i []).getD k 0)) = .int ((px_byt.getD i []).getD k 0) := by
  intro i hi k hk
  have h : ∀ i, i < 9 → ∀ k, k < px_len.getD i 0 → (((px_byt.getD i []).getD k 0).toUInt32 % 65536).toInt32 = (px_byt.getD i []).getD k 0 := by decide
  show Value.int _ = _
  exact congrArg Value.int (h i hi k hk)
theorem jb_in {i : Nat} {k : Int32} (hi : i < 9) (hk : 0 ≤ k ∧ k < Int32.ofNat (px_len.getD i 0)) : k.toNatClampNeg < px_len.getD i 0 := by
  have h := px_inn hk rfl (px_len_lt i hi)
  rw [vp_in_iff] at h
  have := h.2
  unfold Int32.toNatClampNeg
  omega

theorem q_J0_coder_7d493_0 : px_bk 15 1 cJ0_coder_7d493 0 [] = some 0 := by decide +kernel
theorem q_J0_coder_7d493_3 : px_bk 15 1 cJ0_coder_7d493 3 [] = some 3 ∧ px_t1 cJ0_coder_7d493 3 .eq 13 = true := by decide +kernel
theorem q_J0_coder_7d493_6 : px_bk 15 1 cJ0_coder_7d493 6 [(.aload_n 0, (0, 0, 0, 0, 0), 0, 0)] = some 7 := by decide +kernel
theorem q_J0_coder_7d493_10 : px_bk 15 1 cJ0_coder_7d493 10 [(.goto 4, (0, 0, 0, 0, 0), 0, 0)] = some 14 ∧ px_tr cJ0_coder_7d493 14 .ireturn = true := by decide +kernel
set_option maxRecDepth 100000 in
theorem j_coder {n : Nat} {I : px_I} {L : px_L} {R : px_R} (hg : px_G n R) (i : Nat) (hi : i < 9) : px_KP M_J0_coder_7d493 [.ref i] n I L R (fun r => r = 0) := by
  refine px_of (pl_J0_coder_7d493) (fun _ _ _ => trivial) rfl ?_
  refine px_sComp (by decide +kernel) (px_i4 31 rfl rfl) ?_
  refine px_eq rfl q_J0_coder_7d493_3 hg rfl trivial (fun c3 => ?_) (fun c3 => ?_)
  · exact absurd c3 (by decide)
  · refine px_b rfl q_J0_coder_7d493_6 hg rfl trivial ?_
    refine px_gCod hi (by decide +kernel) (px_i8 46 rfl rfl) ?_
    refine px_rnP rfl q_J0_coder_7d493_10 rfl rfl rfl hg rfl trivial ⟨⟨rfl, rfl, rfl, rfl⟩, rfl, ?_⟩
    rfl

theorem q_J0_isLatin1_aae02_0 : px_bk 15 1 cJ0_isLatin1_aae02 0 [] = some 0 := by decide +kernel
theorem q_J0_isLatin1_aae02_3 : px_bk 15 1 cJ0_isLatin1_aae02 3 [] = some 3 ∧ px_t1 cJ0_isLatin1_aae02 3 .eq 17 = true := by decide +kernel
theorem q_J0_isLatin1_aae02_6 : px_bk 15 1 cJ0_isLatin1_aae02 6 [(.aload_n 0, (0, 0, 0, 0, 0), 0, 0)] = some 7 := by decide +kernel
theorem q_J0_isLatin1_aae02_10 : px_bk 15 1 cJ0_isLatin1_aae02 10 [] = some 10 ∧ px_t1 cJ0_isLatin1_aae02 10 .ne 17 = true := by decide +kernel
theorem q_J0_isLatin1_aae02_13 : px_bk 15 1 cJ0_isLatin1_aae02 13 [(.iconst 1, (0, 0, 0, 0, 0), 1, 0), (.goto 4, (0, 0, 0, 0, 0), 0, 0)] = some 18 ∧ px_tr cJ0_isLatin1_aae02 18 .ireturn = true := by decide +kernel
set_option maxRecDepth 100000 in
theorem j_isLatin {n : Nat} {I : px_I} {L : px_L} {R : px_R} (hg : px_G n R) (i : Nat) (hi : i < 9) : px_KP M_J0_isLatin1_aae02 [.ref i] n I L R (fun r => r = 1) := by
  refine px_of (pl_J0_isLatin1_aae02) (fun _ _ _ => trivial) rfl ?_
  refine px_sComp (by decide +kernel) (px_i4 31 rfl rfl) ?_
  refine px_eq rfl q_J0_isLatin1_aae02_3 hg rfl trivial (fun c3 => ?_) (fun c3 => ?_)
  · exact absurd c3 (by decide)
  · refine px_b rfl q_J0_isLatin1_aae02_6 hg rfl trivial ?_
    refine px_gCod hi (by decide +kernel) (px_i8 46 rfl rfl) ?_
    refine px_ne rfl q_J0_isLatin1_aae02_10 hg rfl trivial (fun c10 => ?_) (fun c10 => ?_)
    · exact absurd rfl c10
    · refine px_rzP rfl q_J0_isLatin1_aae02_13 rfl rfl rfl hg rfl trivial ⟨⟨rfl, rfl, rfl, rfl⟩, (by first | exact Or.inl rfl | exact Or.inr rfl | grind), ?_⟩
      rfl

theorem q_J0_length_8abf5_0 : px_bk 15 1 cJ0_length_8abf5 0 [(.aload_n 0, (0, 0, 0, 0, 0), 0, 0)] = some 1 := by decide +kernel
theorem q_J0_length_8abf5_4 : px_bk 15 1 cJ0_length_8abf5 4 [] = some 4 := by decide +kernel
theorem q_J0_length_8abf5_5 : px_bk 15 1 cJ0_length_8abf5 5 [(.aload_n 0, (0, 0, 0, 0, 0), 0, 0)] = some 6 ∧ px_tv cJ0_length_8abf5 6 335 = true := by decide +kernel
theorem q_J0_length_8abf5_9 : px_bk 15 1 cJ0_length_8abf5 9 [(.ishr, (0, 0, 0, 0, 0), 0, 0)] = some 10 ∧ px_tr cJ0_length_8abf5 10 .ireturn = true := by decide +kernel
set_option maxRecDepth 100000 in
theorem j_length {n : Nat} {I : px_I} {L : px_L} {R : px_R} (hg : px_G n R) (i : Nat) (hi : i < 9) : px_KP M_J0_length_8abf5 [.ref i] n I L R (fun r => r = Int32.ofNat (px_len.getD i 0)) := by
  refine px_of (pl_J0_length_8abf5) (fun _ _ _ => trivial) rfl ?_
  refine px_b rfl q_J0_length_8abf5_0 hg rfl trivial ?_
  refine px_gVal hi (by decide +kernel) (px_i8 45 rfl rfl) ?_
  refine px_lenB hi (by decide +kernel) ?_
  refine px_cVsP rfl q_J0_length_8abf5_5 hg rfl trivial lk_15_335 nm_J0_coder_7d493 (j_coder hg _ (by assumption)) rfl rfl (by assumption) rfl rfl ⟨rfl, rfl⟩ ?_
  intro x6 h6
  refine px_riP rfl q_J0_length_8abf5_9 rfl rfl rfl hg rfl trivial ⟨⟨rfl, rfl, rfl, rfl⟩, ?_⟩
  subst h6
  exact jb_len i hi

theorem q_J3_checkIndex_8e157_0 : px_bk 17 3 cJ3_checkIndex_8e157 0 [(.iload_n 0, (0, 0, 0, 0, 0), 0, 0)] = some 1 ∧ px_t1 cJ3_checkIndex_8e157 1 .lt 9 = true := by decide +kernel
theorem q_J3_checkIndex_8e157_4 : px_bk 17 3 cJ3_checkIndex_8e157 4 [(.iload_n 0, (0, 0, 0, 0, 0), 0, 0), (.iload_n 1, (0, 0, 0, 0, 0), 0, 0)] = some 6 ∧ px_t2 cJ3_checkIndex_8e157 6 .lt 16 = true := by decide +kernel
theorem q_J3_checkIndex_8e157_16 : px_bk 17 3 cJ3_checkIndex_8e157 16 [(.iload_n 0, (0, 0, 0, 0, 0), 0, 0)] = some 17 ∧ px_tr cJ3_checkIndex_8e157 17 .ireturn = true := by decide +kernel
set_option maxRecDepth 100000 in
theorem j_checkN {n : Nat} {I : px_I} {L : px_L} {R : px_R} (hg : px_G n R) (i m : Int32) (h0 : 0 ≤ i ∧ i < m) : px_KP M_J3_checkIndex_8e157 [.int i, .int m, .null] n I L R (fun r => r = i) := by
  refine px_of (pl_J3_checkIndex_8e157) (fun _ _ _ => trivial) rfl ?_
  refine px_lt rfl q_J3_checkIndex_8e157_0 hg rfl trivial (fun c1 => ?_) (fun c1 => ?_)
  · exact absurd c1 (by grind)
  · refine px_ilt rfl q_J3_checkIndex_8e157_4 hg rfl trivial (fun c6 => ?_) (fun c6 => ?_)
    · refine px_riP rfl q_J3_checkIndex_8e157_16 rfl rfl rfl hg rfl trivial ⟨⟨rfl, rfl, rfl, rfl⟩, ?_⟩
      rfl
    · exact absurd h0.2 c6

set_option maxRecDepth 100000 in
theorem j_checkR {n : Nat} {I : px_I} {L : px_L} {R : px_R} (hg : px_G n R) (i m : Int32) (h0 : 0 ≤ i ∧ i < m) : px_KP M_J3_checkIndex_8e157 [.int i, .int m, .ref 22] n I L R (fun r => r = i) := by
  refine px_of (pl_J3_checkIndex_8e157) (fun _ _ _ => trivial) rfl ?_
  refine px_lt rfl q_J3_checkIndex_8e157_0 hg rfl trivial (fun c1 => ?_) (fun c1 => ?_)
  · exact absurd c1 (by grind)
  · refine px_ilt rfl q_J3_checkIndex_8e157_4 hg rfl trivial (fun c6 => ?_) (fun c6 => ?_)
    · refine px_riP rfl q_J3_checkIndex_8e157_16 rfl rfl rfl hg rfl trivial ⟨⟨rfl, rfl, rfl, rfl⟩, ?_⟩
      rfl
    · exact absurd h0.2 c6

theorem j_check {n : Nat} {I : px_I} {L : px_L} {R : px_R} (hg : px_G n R) (i m : Int32) (v : Value) (h0 : 0 ≤ i ∧ i < m) (hv : v = .null ∨ v = .ref 22) : px_KP M_J3_checkIndex_8e157 [.int i, .int m, v] n I L R (fun r => r = i) := by
  rcases hv with rfl | rfl
  · exact j_checkN hg i m h0
  · exact j_checkR hg i m h0
theorem jb_pos : ∀ j, j < 9 → (0 : Int32) ≤ Int32.ofNat (px_len.getD j 0) := by decide
theorem cMn_num (o s : Int32) (h0 : 0 ≤ o ∧ o ≤ 1000000) (h1 : 48 ≤ s ∧ s ≤ 57) : 0 ≤ cMn 1000000 (10 * o + s - 48) ∧ cMn 1000000 (10 * o + s - 48) ≤ 1000000 := by
  obtain ⟨a, b⟩ := h0
  obtain ⟨c, d⟩ := h1
  have e : 0 ≤ 10 * o + s - 48 := by grind
  unfold cMn
  generalize 10 * o + s - 48 = x at e ⊢
  split <;> grind

theorem q_J0_checkIndex_df160_0 : px_bk 15 2 cJ0_checkIndex_df160 0 [(.iload_n 0, (0, 0, 0, 0, 0), 0, 0), (.iload_n 1, (0, 0, 0, 0, 0), 0, 0)] = some 2 := by decide +kernel
theorem q_J0_checkIndex_df160_5 : px_bk 15 2 cJ0_checkIndex_df160 5 [] = some 5 ∧ px_tS cJ0_checkIndex_df160 5 1059 = true := by decide +kernel
theorem q_J0_checkIndex_df160_8 : px_bk 15 2 cJ0_checkIndex_df160 8 [(.pop, (0, 0, 0, 0, 0), 0, 0)] = some 9 ∧ px_tr cJ0_checkIndex_df160 9 .return_ = true := by decide +kernel
set_option maxRecDepth 100000 in
theorem j_checkS {n : Nat} {I : px_I} {L : px_L} {R : px_R} (hg : px_G n R) (i m : Int32) (h0 : 0 ≤ i ∧ i < m) : px_KV M_J0_checkIndex_df160 [.int i, .int m] n I L R (fun I2 L2 => I2 = I ∧ L2 = L) := by
  refine px_of (pl_J0_checkIndex_df160) (fun _ _ _ => trivial) rfl ?_
  refine px_b rfl q_J0_checkIndex_df160_0 hg rfl trivial ?_
  refine px_sForm (by decide +kernel) (px_i4 47 rfl rfl) ?_ ?_
  · refine px_cSP rfl q_J0_checkIndex_df160_5 hg rfl trivial lk_15_1059 nm_J3_checkIndex_8e157 (j_check hg _ _ _ (by assumption) (by first | exact Or.inl rfl | exact Or.inr rfl)) rfl rfl rfl ⟨rfl, rfl⟩ ?_
    intro x5 h5
    refine px_rvW rfl q_J0_checkIndex_df160_8 rfl rfl rfl hg rfl trivial ⟨⟨rfl, rfl⟩, ?_⟩
    exact ⟨rfl, rfl⟩
  · refine px_cSP rfl q_J0_checkIndex_df160_5 hg rfl trivial lk_15_1059 nm_J3_checkIndex_8e157 (j_check hg _ _ _ (by assumption) (by first | exact Or.inl rfl | exact Or.inr rfl)) rfl rfl rfl ⟨rfl, rfl⟩ ?_
    intro x5 h5
    refine px_rvW rfl q_J0_checkIndex_df160_8 rfl rfl rfl hg rfl trivial ⟨⟨rfl, rfl⟩, ?_⟩
    exact ⟨rfl, rfl⟩

theorem q_J1_charAt_3b067_0 : px_bk 16 2 cJ1_charAt_3b067 0 [(.iload_n 1, (0, 0, 0, 0, 0), 0, 0), (.aload_n 0, (0, 0, 0, 0, 0), 0, 0)] = some 2 := by decide +kernel
theorem q_J1_charAt_3b067_3 : px_bk 16 2 cJ1_charAt_3b067 3 [] = some 3 ∧ px_tS cJ1_charAt_3b067 3 9 = true := by decide +kernel
theorem q_J1_charAt_3b067_6 : px_bk 16 2 cJ1_charAt_3b067 6 [(.aload_n 0, (0, 0, 0, 0, 0), 0, 0), (.iload_n 1, (0, 0, 0, 0, 0), 0, 0)] = some 8 := by decide +kernel
theorem q_J1_charAt_3b067_9 : px_bk 16 2 cJ1_charAt_3b067 9 [(.sipush 255, (0, 0, 0, 0, 0), 255, 0), (.iand, (0, 0, 0, 0, 0), 0, 0)] = some 13 := by decide +kernel
theorem q_J1_charAt_3b067_14 : px_bk 16 2 cJ1_charAt_3b067 14 [] = some 14 ∧ px_tr cJ1_charAt_3b067 14 .ireturn = true := by decide +kernel
set_option maxRecDepth 100000 in
theorem j_charAtL {n : Nat} {I : px_I} {L : px_L} {R : px_R} (hg : px_G n R) (i : Nat) (k : Int32) (hi : i < 9) (hk : 0 ≤ k ∧ k < Int32.ofNat (px_len.getD i 0)) : px_KP M_J1_charAt_3b067 [.ref (9 + i), .int k] n I L R (fun r => r = (px_byt.getD i []).getD k.toNatClampNeg 0) := by
  refine px_of (pl_J1_charAt_3b067) (fun _ _ _ => trivial) rfl ?_
  refine px_b rfl q_J1_charAt_3b067_0 hg rfl trivial ?_
  refine px_lenB hi (by decide +kernel) ?_
  refine px_cSW rfl q_J1_charAt_3b067_3 hg rfl trivial lk_16_9 nm_J0_checkIndex_df160 (j_checkS hg _ _ (by assumption)) rfl rfl rfl ⟨rfl, rfl⟩ ?_
  intro I3 L3 h3
  obtain ⟨rfl, rfl⟩ := h3
  refine px_b rfl q_J1_charAt_3b067_6 hg rfl trivial ?_
  refine px_ldB hi hk (by decide +kernel) ?_
  refine px_b rfl q_J1_charAt_3b067_9 hg rfl trivial ?_
  refine px_i2c (by decide +kernel) (jb_chr i hi _ (jb_in hi hk)) ?_
  refine px_rnP rfl q_J1_charAt_3b067_14 rfl rfl rfl hg rfl trivial ⟨⟨rfl, rfl, rfl, rfl⟩, (jb_nar i hi _ (jb_in hi hk)), ?_⟩
  rfl

theorem q_J0_charAt_5068e_0 : px_bk 15 2 cJ0_charAt_5068e 0 [(.aload_n 0, (0, 0, 0, 0, 0), 0, 0)] = some 1 ∧ px_tv cJ0_charAt_5068e 1 492 = true := by decide +kernel
theorem q_J0_charAt_5068e_4 : px_bk 15 2 cJ0_charAt_5068e 4 [] = some 4 ∧ px_t1 cJ0_charAt_5068e 4 .eq 16 = true := by decide +kernel
theorem q_J0_charAt_5068e_7 : px_bk 15 2 cJ0_charAt_5068e 7 [(.aload_n 0, (0, 0, 0, 0, 0), 0, 0)] = some 8 := by decide +kernel
theorem q_J0_charAt_5068e_11 : px_bk 15 2 cJ0_charAt_5068e 11 [(.iload_n 1, (0, 0, 0, 0, 0), 0, 0)] = some 12 ∧ px_tS cJ0_charAt_5068e 12 495 = true := by decide +kernel
theorem q_J0_charAt_5068e_15 : px_bk 15 2 cJ0_charAt_5068e 15 [] = some 15 ∧ px_tr cJ0_charAt_5068e 15 .ireturn = true := by decide +kernel
set_option maxRecDepth 100000 in
theorem j_charAt {n : Nat} {I : px_I} {L : px_L} {R : px_R} (hg : px_G n R) (i : Nat) (k : Int32) (hi : i < 9) (hk : 0 ≤ k ∧ k < Int32.ofNat (px_len.getD i 0)) : px_KP M_J0_charAt_5068e [.ref i, .int k] n I L R (fun r => r = (px_byt.getD i []).getD k.toNatClampNeg 0) := by
  refine px_of (pl_J0_charAt_5068e) (fun _ _ _ => trivial) rfl ?_
  refine px_cVsP rfl q_J0_charAt_5068e_0 hg rfl trivial lk_15_492 nm_J0_isLatin1_aae02 (j_isLatin hg _ (by assumption)) rfl rfl (by assumption) rfl rfl ⟨rfl, rfl⟩ ?_
  intro x1 h1
  refine px_eq rfl q_J0_charAt_5068e_4 hg rfl trivial (fun c4 => ?_) (fun c4 => ?_)
  · exact absurd (h1.symm.trans c4) (by decide)
  · refine px_b rfl q_J0_charAt_5068e_7 hg rfl trivial ?_
    refine px_gVal hi (by decide +kernel) (px_i8 45 rfl rfl) ?_
    refine px_cSP rfl q_J0_charAt_5068e_11 hg rfl trivial lk_15_495 nm_J1_charAt_3b067 (j_charAtL hg i k hi hk) rfl rfl rfl ⟨rfl, rfl⟩ ?_
    intro x12 h12
    refine px_rnP rfl q_J0_charAt_5068e_15 rfl rfl rfl hg rfl trivial ⟨⟨rfl, rfl, rfl, rfl⟩, (by rw [h12]; exact jb_nar i hi _ (jb_in hi hk)), ?_⟩
    exact h12

def cAp (I : px_I) (b : Int32) : px_I := px_u (px_u I 71 (I 70 5).toNatClampNeg b) 70 5 (I 70 5 + 1)
def cByte (x sh : Int32) : Int32 := (x.toUInt32 >>> (sh.toUInt32 &&& Int32.toUInt32 31)).toInt32 &&& 255
def cApp (I : px_I) (x : Int32) : px_I := cAp (cAp (cAp (cAp I (cByte x 24)) (cByte x (24 + -8))) (cByte x (24 + -8 + -8))) (cByte x (24 + -8 + -8 + -8))
theorem cAp_5 (I : px_I) (b : Int32) : cAp I b 70 5 = I 70 5 + 1 := by simp [cAp, px_ur]
theorem cAp_6 (I : px_I) (b : Int32) : cAp I b 70 6 = I 70 6 := by simp [cAp, px_ur]
theorem cAp_o (I : px_I) (b : Int32) {o : Nat} (h1 : o ≠ 70) (h2 : o ≠ 71) : cAp I b o = I o := by unfold cAp; rw [px_u_ne h1, px_u_ne h2]
theorem cApp_5 (I : px_I) (x : Int32) : cApp I x 70 5 = I 70 5 + 4 := by
  unfold cApp
  rw [cAp_5, cAp_5, cAp_5, cAp_5]; grind
theorem cApp_6 (I : px_I) (x : Int32) : cApp I x 70 6 = I 70 6 := by
  unfold cApp
  rw [cAp_6, cAp_6, cAp_6, cAp_6]
theorem cApp_o (I : px_I) (x : Int32) {o : Nat} (h1 : o ≠ 70) (h2 : o ≠ 71) : cApp I x o = I o := by
  unfold cApp
  rw [cAp_o _ _ h1 h2, cAp_o _ _ h1 h2, cAp_o _ _ h1 h2, cAp_o _ _ h1 h2]
def cLet (x : Int32) : Prop := (97 ≤ x ∧ x ≤ 122) ∨ (65 ≤ x ∧ x ≤ 90)
def cKind (x r : Int32) : Prop := (cLet x → r = 1) ∧ (48 ≤ x ∧ x ≤ 57 → r = 2) ∧ (x = 10 ∨ x = 32 → r = 7) ∧ (x = 59 → r = 3) ∧ (x = 123 → r = 4) ∧ (x = 125 → r = 5) ∧ (r = 1 ∨ r = 2 ∨ r = 3 ∨ r = 4 ∨ r = 5 ∨ r = 6 ∨ r = 7) ∧ (r = 1 → cLet x) ∧ (r = 2 → 48 ≤ x ∧ x ≤ 57) ∧ (r = 7 → x = 10 ∨ x = 32) ∧ (r = 3 → x = 59) ∧ (r = 4 → x = 123) ∧ (r = 5 → x = 125)
def cTok (I : px_I) (w a : Int32) : px_I := px_u (px_u (px_u (px_u (px_u I 72 (I 70 6).toNatClampNeg w) 73 (I 70 6).toNatClampNeg a) 74 (I 70 6).toNatClampNeg 0) 75 (I 70 6).toNatClampNeg 0) 70 6 (I 70 6 + 1)
def cGo (I : px_I) (w a : Int32) : Prop := (w = 1 ∨ w = 2) ∧ (0 ≤ I 70 6 - 1 ∧ I 70 6 - 1 ≤ 400) ∧ I 72 (I 70 6 - 1).toNatClampNeg = w ∧ I 73 (I 70 6 - 1).toNatClampNeg + I 74 (I 70 6 - 1).toNatClampNeg = a
def cLen (I : px_I) (s : Int32) : px_I := if 0 ≤ I 70 6 - 1 ∧ I 70 6 - 1 ≤ 400 then (if I 72 (I 70 6 - 1).toNatClampNeg = 2 then px_u (px_u I 74 (I 70 6 - 1).toNatClampNeg (I 74 (I 70 6 - 1).toNatClampNeg + 1)) 75 (I 70 6 - 1).toNatClampNeg (cMn 1000000 (10 * I 75 (I 70 6 - 1).toNatClampNeg + s - 48)) else px_u I 74 (I 70 6 - 1).toNatClampNeg (I 74 (I 70 6 - 1).toNatClampNeg + 1)) else I
/-- while tokens are cut: what may change, and that numbers stay small -/
def cTF (I I2 : px_I) : Prop := ∀ b j, (b < 72 ∨ 75 < b) → ¬ (b = 70 ∧ j = 6) → I2 b j = I b j
def cNu (I : px_I) : Prop := ∀ k : Nat, 0 ≤ I 75 k ∧ I 75 k ≤ 1000000
theorem cTF.trans {I I1 I2 : px_I} (h : cTF I I1) (h2 : cTF I1 I2) : cTF I I2 := fun b j h3 h4 => (h2 b j h3 h4).trans (h b j h3 h4)
theorem cTF.u {I I1 : px_I} (h : cTF I I1) (b k : Nat) (v : Int32) (hb : 72 ≤ b ∧ b ≤ 75) : cTF I (px_u I1 b k v) := fun b2 j h3 h4 => by rw [px_u_ne (by omega)]; exact h b2 j h3 h4
theorem cTF.u6 {I I1 : px_I} (h : cTF I I1) (v : Int32) : cTF I (px_u I1 70 6 v) := fun b2 j h3 h4 => by rw [px_ur, ← h b2 j h3 h4]; grind
theorem cTok_F (I : px_I) (w a : Int32) : cTF I (cTok I w a) := ((((cTF.u (fun _ _ _ _ => rfl) 72 _ _ (by decide)).u 73 _ _ (by decide)).u 74 _ _ (by decide)).u 75 _ _ (by decide)).u6 _
theorem cTok_N {I : px_I} {w a : Int32} (h : cNu I) : cNu (cTok I w a) := fun k => by
  unfold cTok
  rw [px_u_ne (by decide), px_ur]
  have := h k
  by_cases hk : k = (I 70 6).toNatClampNeg
  · rw [if_pos rfl, if_pos hk]; decide
  · rw [if_pos rfl, if_neg hk, px_u_ne (by decide), px_u_ne (by decide), px_u_ne (by decide)]; exact this
theorem cTok_6 (I : px_I) (w a : Int32) : cTok I w a 70 6 = I 70 6 + 1 := by unfold cTok; rw [px_u_at]
theorem cTok_k (I : px_I) (w a : Int32) : cTok I w a 72 (I 70 6).toNatClampNeg = w := by unfold cTok; simp [px_ur]
theorem cLen_F (I : px_I) (s : Int32) : cTF I (cLen I s) := by
  unfold cLen
  by_cases h1 : 0 ≤ I 70 6 - 1 ∧ I 70 6 - 1 ≤ 400
  · rw [if_pos h1]
    by_cases h2 : I 72 (I 70 6 - 1).toNatClampNeg = 2
    · rw [if_pos h2]; exact (cTF.u (fun _ _ _ _ => rfl) 74 _ _ (by decide)).u 75 _ _ (by decide)
    · rw [if_neg h2]; exact cTF.u (fun _ _ _ _ => rfl) 74 _ _ (by decide)
  · rw [if_neg h1]; exact fun _ _ _ _ => rfl
theorem cLen_6 (I : px_I) (s : Int32) : cLen I s 70 6 = I 70 6 := by
  unfold cLen
  repeat' split
  · rw [px_u_ne (by decide), px_u_ne (by decide)]
  · rw [px_u_ne (by decide)]
  · rfl
theorem cLen_N {I : px_I} {s : Int32} (h : cNu I) (hs : I 72 (I 70 6 - 1).toNatClampNeg = 2 → 48 ≤ s ∧ s ≤ 57) : cNu (cLen I s) := fun k => by
  have h0 := h k
  unfold cLen
  by_cases h1 : 0 ≤ I 70 6 - 1 ∧ I 70 6 - 1 ≤ 400
  · rw [if_pos h1]
    by_cases h2 : I 72 (I 70 6 - 1).toNatClampNeg = 2
    · rw [if_pos h2, px_ur, if_pos rfl]
      by_cases hk : k = (I 70 6 - 1).toNatClampNeg
      · rw [if_pos hk]
        exact cMn_num _ _ (h _) (hs h2)
      · rw [if_neg hk, px_u_ne (by decide)]; exact h0
    · rw [if_neg h2, px_u_ne (by decide)]; exact h0
  · rw [if_neg h1]; exact h0

theorem q_X8_hasRoom_0 : px_bk 8 2 cX8_hasRoom 0 [(.aload_n 0, (0, 0, 0, 0, 0), 0, 0), (.getfield 25, (8, 5, 0, 0, 0), 0, 0), (.iload_n 1, (0, 0, 0, 0, 0), 0, 0), (.iadd, (0, 0, 0, 0, 0), 0, 0), (.sipush 400, (0, 0, 0, 0, 0), 400, 0)] = some 9 ∧ px_t2 cX8_hasRoom 9 .gt 16 = true := by decide +kernel
theorem q_X8_hasRoom_16 : px_bk 8 2 cX8_hasRoom 16 [(.iconst 0, (0, 0, 0, 0, 0), 0, 0)] = some 17 ∧ px_tr cX8_hasRoom 17 .ireturn = true := by decide +kernel
theorem q_X8_hasRoom_12 : px_bk 8 2 cX8_hasRoom 12 [(.iconst 1, (0, 0, 0, 0, 0), 1, 0), (.goto 4, (0, 0, 0, 0, 0), 0, 0)] = some 17 ∧ px_tr cX8_hasRoom 17 .ireturn = true := by decide +kernel
set_option maxRecDepth 100000 in
theorem c_hasRoom {n : Nat} {I : px_I} {L : px_L} {R : px_R} (hg : px_G n R) (m : Int32) : px_KP M_X8_hasRoom [.ref 70, .int m] n I L R (fun r => (r = 1 ∧ (I 70 5 + m ≤ 400)) ∨ (r = 0 ∧ ¬ (I 70 5 + m ≤ 400))) := by
  refine px_of (plainFor_of_name np_RX8) (fun _ _ _ => trivial) rfl ?_
  refine px_igt rfl q_X8_hasRoom_0 hg rfl trivial (fun c9 => ?_) (fun c9 => ?_)
  · refine px_rzP rfl q_X8_hasRoom_16 rfl rfl rfl hg rfl trivial ⟨⟨rfl, rfl, rfl, rfl⟩, (by first | exact Or.inl rfl | exact Or.inr rfl | grind), ?_⟩
    grind
  · refine px_rzP rfl q_X8_hasRoom_12 rfl rfl rfl hg rfl trivial ⟨⟨rfl, rfl, rfl, rfl⟩, (by first | exact Or.inl rfl | exact Or.inr rfl | grind), ?_⟩
    grind

theorem q_X8_append_0 : px_bk 8 3 cX8_append 0 [(.bipush 24, (0, 0, 0, 0, 0), 24, 0), (.istore_n 2, (0, 0, 0, 0, 0), 0, 0), (.iload_n 2, (0, 0, 0, 0, 0), 0, 0)] = some 4 ∧ px_t1 cX8_append 4 .lt 49 = true := by decide +kernel
theorem q_X8_append_7 : px_bk 8 3 cX8_append 7 [(.aload_n 0, (0, 0, 0, 0, 0), 0, 0), (.getfield 25, (8, 5, 0, 0, 0), 0, 0), (.sipush 400, (0, 0, 0, 0, 0), 400, 0)] = some 14 ∧ px_t2 cX8_append 14 .ge 43 = true := by decide +kernel
theorem q_X8_append_17 : px_bk 8 3 cX8_append 17 [(.aload_n 0, (0, 0, 0, 0, 0), 0, 0), (.getfield 9, (8, 0, 3, 71, 0), 0, 0), (.aload_n 0, (0, 0, 0, 0, 0), 0, 0), (.getfield 25, (8, 5, 0, 0, 0), 0, 0), (.iload_n 1, (0, 0, 0, 0, 0), 0, 0), (.iload_n 2, (0, 0, 0, 0, 0), 0, 0), (.iushr, (0, 0, 0, 0, 0), 0, 0), (.sipush 255, (0, 0, 0, 0, 0), 255, 0), (.iand, (0, 0, 0, 0, 0), 0, 0), (.iastore, (0, 0, 0, 0, 0), 0, 0), (.aload_n 0, (0, 0, 0, 0, 0), 0, 0), (.dup, (0, 0, 0, 0, 0), 0, 0), (.getfield 25, (8, 5, 0, 0, 0), 0, 0), (.iconst 1, (0, 0, 0, 0, 0), 1, 0), (.iadd, (0, 0, 0, 0, 0), 0, 0), (.putfield 25, (8, 5, 0, 0, 0), 0, 0), (.iinc 2 (-8), (0, 0, 0, 0, 0), -8, 0), (.goto (-43), (0, 0, 0, 0, 0), 0, 0), (.iload_n 2, (0, 0, 0, 0, 0), 0, 0)] = some 4 ∧ px_t1 cX8_append 4 .lt 49 = true := by decide +kernel
theorem q_X8_append_49 : px_bk 8 3 cX8_append 49 [] = some 49 ∧ px_tr cX8_append 49 .return_ = true := by decide +kernel
set_option maxRecDepth 100000 in
theorem c_append {n : Nat} {I : px_I} {L : px_L} {R : px_R} (hg : px_G n R) (x : Int32) (hl : 0 ≤ I 70 5 ∧ I 70 5 ≤ 396) : px_KV M_X8_append [.ref 70, .int x] n I L R (fun I2 L2 => L2 = L ∧ I2 = cApp I x) := by
  refine px_of (plainFor_of_name np_RX8) (fun _ _ _ => trivial) rfl ?_
  refine px_lt rfl q_X8_append_0 hg rfl trivial (fun c4 => ?_) (fun c4 => ?_)
  · exact absurd c4 (by decide)
  · refine px_ige rfl q_X8_append_7 hg rfl trivial (fun c14 => ?_) (fun c14 => ?_)
    · exact absurd c14 (by simp [px_ur]; grind)
    · refine px_lt rfl q_X8_append_17 hg rfl ⟨trivial, (by first | (refine ⟨?_, ?_⟩ <;> grind) | (simp [px_ur]; refine ⟨?_, ?_⟩ <;> grind) | (simp [px_ur]; grind))⟩ (fun c4 => ?_) (fun c4 => ?_)
      · exact absurd c4 (by decide)
      · refine px_ige rfl q_X8_append_7 hg rfl trivial (fun c14 => ?_) (fun c14 => ?_)
        · exact absurd c14 (by simp [px_ur]; grind)
        · refine px_lt rfl q_X8_append_17 hg rfl ⟨trivial, (by first | (refine ⟨?_, ?_⟩ <;> grind) | (simp [px_ur]; refine ⟨?_, ?_⟩ <;> grind) | (simp [px_ur]; grind))⟩ (fun c4 => ?_) (fun c4 => ?_)
          · exact absurd c4 (by decide)
          · refine px_ige rfl q_X8_append_7 hg rfl trivial (fun c14 => ?_) (fun c14 => ?_)
            · exact absurd c14 (by simp [px_ur]; grind)
            · refine px_lt rfl q_X8_append_17 hg rfl ⟨trivial, (by first | (refine ⟨?_, ?_⟩ <;> grind) | (simp [px_ur]; refine ⟨?_, ?_⟩ <;> grind) | (simp [px_ur]; grind))⟩ (fun c4 => ?_) (fun c4 => ?_)
              · exact absurd c4 (by decide)
              · refine px_ige rfl q_X8_append_7 hg rfl trivial (fun c14 => ?_) (fun c14 => ?_)
                · exact absurd c14 (by simp [px_ur]; grind)
                · refine px_lt rfl q_X8_append_17 hg rfl ⟨trivial, (by first | (refine ⟨?_, ?_⟩ <;> grind) | (simp [px_ur]; refine ⟨?_, ?_⟩ <;> grind) | (simp [px_ur]; grind))⟩ (fun c4 => ?_) (fun c4 => ?_)
                  · refine px_rvW rfl q_X8_append_49 rfl rfl rfl hg rfl trivial ⟨⟨rfl, rfl⟩, ?_⟩
                    exact ⟨rfl, rfl⟩
                  · exact absurd (show (24 : Int32) + -8 + -8 + -8 + -8 < 0 by decide) c4

theorem q_X8_byteAt_0 : px_bk 8 2 cX8_byteAt 0 [(.iload_n 1, (0, 0, 0, 0, 0), 0, 0)] = some 1 ∧ px_t1 cX8_byteAt 1 .lt 20 = true := by decide +kernel
theorem q_X8_byteAt_20 : px_bk 8 2 cX8_byteAt 20 [(.iconst 0, (0, 0, 0, 0, 0), 0, 0)] = some 21 ∧ px_tr cX8_byteAt 21 .ireturn = true := by decide +kernel
theorem q_X8_byteAt_4 : px_bk 8 2 cX8_byteAt 4 [(.iload_n 1, (0, 0, 0, 0, 0), 0, 0), (.sipush 400, (0, 0, 0, 0, 0), 400, 0)] = some 8 ∧ px_t2 cX8_byteAt 8 .ge 20 = true := by decide +kernel
theorem q_X8_byteAt_11 : px_bk 8 2 cX8_byteAt 11 [(.aload_n 0, (0, 0, 0, 0, 0), 0, 0), (.getfield 9, (8, 0, 3, 71, 0), 0, 0), (.iload_n 1, (0, 0, 0, 0, 0), 0, 0), (.iaload, (0, 0, 0, 0, 0), 0, 0), (.goto 4, (0, 0, 0, 0, 0), 0, 0)] = some 21 ∧ px_tr cX8_byteAt 21 .ireturn = true := by decide +kernel
set_option maxRecDepth 100000 in
theorem c_byteAt {n : Nat} {I : px_I} {L : px_L} {R : px_R} (hg : px_G n R) (x : Int32) : px_KP M_X8_byteAt [.ref 70, .int x] n I L R (fun r => r = if 0 ≤ x ∧ x < 400 then I 71 x.toNatClampNeg else 0) := by
  refine px_of (plainFor_of_name np_RX8) (fun _ _ _ => trivial) rfl ?_
  refine px_lt rfl q_X8_byteAt_0 hg rfl trivial (fun c1 => ?_) (fun c1 => ?_)
  · refine px_riP rfl q_X8_byteAt_20 rfl rfl rfl hg rfl trivial ⟨⟨rfl, rfl, rfl, rfl⟩, ?_⟩
    grind
  · refine px_ige rfl q_X8_byteAt_4 hg rfl trivial (fun c8 => ?_) (fun c8 => ?_)
    · refine px_riP rfl q_X8_byteAt_20 rfl rfl rfl hg rfl trivial ⟨⟨rfl, rfl, rfl, rfl⟩, ?_⟩
      grind
    · refine px_riP rfl q_X8_byteAt_11 rfl rfl rfl hg rfl ⟨trivial, (by refine ⟨?_, ?_⟩ <;> grind)⟩ ⟨⟨rfl, rfl, rfl, rfl⟩, ?_⟩
      grind

theorem q_X8_kindOf_0 : px_bk 8 1 cX8_kindOf 0 [(.iload_n 0, (0, 0, 0, 0, 0), 0, 0), (.bipush 97, (0, 0, 0, 0, 0), 97, 0), (.bipush 122, (0, 0, 0, 0, 0), 122, 0)] = some 5 ∧ px_tS cX8_kindOf 5 51 = true := by decide +kernel
theorem q_X8_kindOf_8 : px_bk 8 1 cX8_kindOf 8 [] = some 8 ∧ px_t1 cX8_kindOf 8 .ne 22 = true := by decide +kernel
theorem q_X8_kindOf_22 : px_bk 8 1 cX8_kindOf 22 [(.iconst 1, (0, 0, 0, 0, 0), 1, 0)] = some 23 ∧ px_tr cX8_kindOf 23 .ireturn = true := by decide +kernel
theorem q_X8_kindOf_11 : px_bk 8 1 cX8_kindOf 11 [(.iload_n 0, (0, 0, 0, 0, 0), 0, 0), (.bipush 65, (0, 0, 0, 0, 0), 65, 0), (.bipush 90, (0, 0, 0, 0, 0), 90, 0)] = some 16 ∧ px_tS cX8_kindOf 16 51 = true := by decide +kernel
theorem q_X8_kindOf_19 : px_bk 8 1 cX8_kindOf 19 [] = some 19 ∧ px_t1 cX8_kindOf 19 .eq 24 = true := by decide +kernel
theorem q_X8_kindOf_24 : px_bk 8 1 cX8_kindOf 24 [(.iload_n 0, (0, 0, 0, 0, 0), 0, 0), (.bipush 48, (0, 0, 0, 0, 0), 48, 0), (.bipush 57, (0, 0, 0, 0, 0), 57, 0)] = some 29 ∧ px_tS cX8_kindOf 29 51 = true := by decide +kernel
theorem q_X8_kindOf_32 : px_bk 8 1 cX8_kindOf 32 [] = some 32 ∧ px_t1 cX8_kindOf 32 .eq 37 = true := by decide +kernel
theorem q_X8_kindOf_37 : px_bk 8 1 cX8_kindOf 37 [(.iload_n 0, (0, 0, 0, 0, 0), 0, 0)] = some 38 := by decide +kernel
theorem q_X8_kindOf_38S : decode cX8_kindOf 38 = .ok (.lookupswitch 62 #[(10, 53), (32, 50), (59, 56), (123, 58), (125, 60)], 50) := by decide +kernel
theorem q_X8_kindOf_91 : px_bk 8 1 cX8_kindOf 91 [(.bipush 7, (0, 0, 0, 0, 0), 7, 0)] = some 93 ∧ px_tr cX8_kindOf 93 .ireturn = true := by decide +kernel
theorem q_X8_kindOf_88 : px_bk 8 1 cX8_kindOf 88 [(.bipush 7, (0, 0, 0, 0, 0), 7, 0)] = some 90 ∧ px_tr cX8_kindOf 90 .ireturn = true := by decide +kernel
theorem q_X8_kindOf_94 : px_bk 8 1 cX8_kindOf 94 [(.iconst 3, (0, 0, 0, 0, 0), 3, 0)] = some 95 ∧ px_tr cX8_kindOf 95 .ireturn = true := by decide +kernel
theorem q_X8_kindOf_96 : px_bk 8 1 cX8_kindOf 96 [(.iconst 4, (0, 0, 0, 0, 0), 4, 0)] = some 97 ∧ px_tr cX8_kindOf 97 .ireturn = true := by decide +kernel
theorem q_X8_kindOf_98 : px_bk 8 1 cX8_kindOf 98 [(.iconst 5, (0, 0, 0, 0, 0), 5, 0)] = some 99 ∧ px_tr cX8_kindOf 99 .ireturn = true := by decide +kernel
theorem q_X8_kindOf_100 : px_bk 8 1 cX8_kindOf 100 [(.bipush 6, (0, 0, 0, 0, 0), 6, 0)] = some 102 ∧ px_tr cX8_kindOf 102 .ireturn = true := by decide +kernel
theorem q_X8_kindOf_35 : px_bk 8 1 cX8_kindOf 35 [(.iconst 2, (0, 0, 0, 0, 0), 2, 0)] = some 36 ∧ px_tr cX8_kindOf 36 .ireturn = true := by decide +kernel
set_option maxRecDepth 100000 in
theorem c_kindOf {n : Nat} {I : px_I} {L : px_L} {R : px_R} (hg : px_G n R) (x : Int32) : px_KP M_X8_kindOf [.int x] n I L R (fun r => cKind x r) := by
  refine px_of (plainFor_of_name np_RX8) (fun _ _ _ => trivial) rfl ?_
  refine px_cSNP rfl q_X8_kindOf_0 hg rfl trivial lk_8_51 nm_X11_within (c_within hg _ _ _) rfl rfl rfl ⟨rfl, rfl⟩ ?_
  intro x5 h5
  refine px_ne rfl q_X8_kindOf_8 hg rfl trivial (fun c8 => ?_) (fun c8 => ?_)
  · replace h5 := px_bt h5 c8
    refine px_riP rfl q_X8_kindOf_22 rfl rfl rfl hg rfl trivial ⟨⟨rfl, rfl, rfl, rfl⟩, ?_⟩
    unfold cKind cLet at *; grind
  · replace h5 := px_bf h5 c8
    refine px_cSNP rfl q_X8_kindOf_11 hg rfl trivial lk_8_51 nm_X11_within (c_within hg _ _ _) rfl rfl rfl ⟨rfl, rfl⟩ ?_
    intro x16 h16
    refine px_eq rfl q_X8_kindOf_19 hg rfl trivial (fun c19 => ?_) (fun c19 => ?_)
    · replace h16 := px_bf h16 c19
      refine px_cSNP rfl q_X8_kindOf_24 hg rfl trivial lk_8_51 nm_X11_within (c_within hg _ _ _) rfl rfl rfl ⟨rfl, rfl⟩ ?_
      intro x29 h29
      refine px_eq rfl q_X8_kindOf_32 hg rfl trivial (fun c32 => ?_) (fun c32 => ?_)
      · replace h29 := px_bf h29 c32
        refine px_b rfl q_X8_kindOf_37 hg rfl trivial ?_
        by_cases s38_10 : x = 10
        · refine px_swL (tgt := 91) (off := 53) q_X8_kindOf_38S (by decide) (by rw [s38_10]; decide) (by decide) ?_
          refine px_riP rfl q_X8_kindOf_91 rfl rfl rfl hg rfl trivial ⟨⟨rfl, rfl, rfl, rfl⟩, ?_⟩
          unfold cKind cLet at *; grind
        by_cases s38_32 : x = 32
        · refine px_swL (tgt := 88) (off := 50) q_X8_kindOf_38S (by decide) (by rw [s38_32]; decide) (by decide) ?_
          refine px_riP rfl q_X8_kindOf_88 rfl rfl rfl hg rfl trivial ⟨⟨rfl, rfl, rfl, rfl⟩, ?_⟩
          unfold cKind cLet at *; grind
        by_cases s38_59 : x = 59
        · refine px_swL (tgt := 94) (off := 56) q_X8_kindOf_38S (by decide) (by rw [s38_59]; decide) (by decide) ?_
          refine px_riP rfl q_X8_kindOf_94 rfl rfl rfl hg rfl trivial ⟨⟨rfl, rfl, rfl, rfl⟩, ?_⟩
          unfold cKind cLet at *; grind
        by_cases s38_123 : x = 123
        · refine px_swL (tgt := 96) (off := 58) q_X8_kindOf_38S (by decide) (by rw [s38_123]; decide) (by decide) ?_
          refine px_riP rfl q_X8_kindOf_96 rfl rfl rfl hg rfl trivial ⟨⟨rfl, rfl, rfl, rfl⟩, ?_⟩
          unfold cKind cLet at *; grind
        by_cases s38_125 : x = 125
        · refine px_swL (tgt := 98) (off := 60) q_X8_kindOf_38S (by decide) (by rw [s38_125]; decide) (by decide) ?_
          refine px_riP rfl q_X8_kindOf_98 rfl rfl rfl hg rfl trivial ⟨⟨rfl, rfl, rfl, rfl⟩, ?_⟩
          unfold cKind cLet at *; grind
        refine px_swL (tgt := 100) (off := 62) q_X8_kindOf_38S (by decide) (by show Op.lookupswitch.offset [(10, 53), (32, 50), (59, 56), (123, 58), (125, 60)] 62 _ = 62; rw [lv_osw (k := 10) s38_10 (by decide), lv_osw (k := 32) s38_32 (by decide), lv_osw (k := 59) s38_59 (by decide), lv_osw (k := 123) s38_123 (by decide), lv_osw (k := 125) s38_125 (by decide)]; rfl) (by decide) ?_
        refine px_riP rfl q_X8_kindOf_100 rfl rfl rfl hg rfl trivial ⟨⟨rfl, rfl, rfl, rfl⟩, ?_⟩
        unfold cKind cLet at *; grind
      · replace h29 := px_bt h29 c32
        refine px_riP rfl q_X8_kindOf_35 rfl rfl rfl hg rfl trivial ⟨⟨rfl, rfl, rfl, rfl⟩, ?_⟩
        unfold cKind cLet at *; grind
    · replace h16 := px_bt h16 c19
      refine px_riP rfl q_X8_kindOf_22 rfl rfl rfl hg rfl trivial ⟨⟨rfl, rfl, rfl, rfl⟩, ?_⟩
      unfold cKind cLet at *; grind

theorem q_X8_goesOn_0 : px_bk 8 4 cX8_goesOn 0 [(.aload_n 0, (0, 0, 0, 0, 0), 0, 0), (.getfield 29, (8, 6, 0, 0, 0), 0, 0), (.iconst 1, (0, 0, 0, 0, 0), 1, 0), (.isub, (0, 0, 0, 0, 0), 0, 0), (.istore_n 3, (0, 0, 0, 0, 0), 0, 0), (.iload_n 1, (0, 0, 0, 0, 0), 0, 0), (.iconst 1, (0, 0, 0, 0, 0), 1, 0)] = some 9 ∧ px_t2 cX8_goesOn 9 .eq 17 = true := by decide +kernel
theorem q_X8_goesOn_17 : px_bk 8 4 cX8_goesOn 17 [(.iload_n 3, (0, 0, 0, 0, 0), 0, 0), (.iconst 0, (0, 0, 0, 0, 0), 0, 0), (.sipush 400, (0, 0, 0, 0, 0), 400, 0)] = some 22 ∧ px_tS cX8_goesOn 22 51 = true := by decide +kernel
theorem q_X8_goesOn_25 : px_bk 8 4 cX8_goesOn 25 [] = some 25 ∧ px_t1 cX8_goesOn 25 .ne 30 = true := by decide +kernel
theorem q_X8_goesOn_30 : px_bk 8 4 cX8_goesOn 30 [(.aload_n 0, (0, 0, 0, 0, 0), 0, 0), (.getfield 13, (8, 1, 3, 72, 0), 0, 0), (.iload_n 3, (0, 0, 0, 0, 0), 0, 0), (.iaload, (0, 0, 0, 0, 0), 0, 0), (.iload_n 1, (0, 0, 0, 0, 0), 0, 0)] = some 37 ∧ px_t2 cX8_goesOn 37 .ne 61 = true := by decide +kernel
theorem q_X8_goesOn_61 : px_bk 8 4 cX8_goesOn 61 [(.iconst 0, (0, 0, 0, 0, 0), 0, 0)] = some 62 ∧ px_tr cX8_goesOn 62 .ireturn = true := by decide +kernel
theorem q_X8_goesOn_40 : px_bk 8 4 cX8_goesOn 40 [(.aload_n 0, (0, 0, 0, 0, 0), 0, 0), (.getfield 16, (8, 2, 3, 73, 0), 0, 0), (.iload_n 3, (0, 0, 0, 0, 0), 0, 0), (.iaload, (0, 0, 0, 0, 0), 0, 0), (.aload_n 0, (0, 0, 0, 0, 0), 0, 0), (.getfield 19, (8, 3, 3, 74, 0), 0, 0), (.iload_n 3, (0, 0, 0, 0, 0), 0, 0), (.iaload, (0, 0, 0, 0, 0), 0, 0), (.iadd, (0, 0, 0, 0, 0), 0, 0), (.iload_n 2, (0, 0, 0, 0, 0), 0, 0)] = some 54 ∧ px_t2 cX8_goesOn 54 .ne 61 = true := by decide +kernel
theorem q_X8_goesOn_57 : px_bk 8 4 cX8_goesOn 57 [(.iconst 1, (0, 0, 0, 0, 0), 1, 0), (.goto 4, (0, 0, 0, 0, 0), 0, 0)] = some 62 ∧ px_tr cX8_goesOn 62 .ireturn = true := by decide +kernel
theorem q_X8_goesOn_28 : px_bk 8 4 cX8_goesOn 28 [(.iconst 0, (0, 0, 0, 0, 0), 0, 0)] = some 29 ∧ px_tr cX8_goesOn 29 .ireturn = true := by decide +kernel
theorem q_X8_goesOn_12 : px_bk 8 4 cX8_goesOn 12 [(.iload_n 1, (0, 0, 0, 0, 0), 0, 0), (.iconst 2, (0, 0, 0, 0, 0), 2, 0)] = some 14 ∧ px_t2 cX8_goesOn 14 .ne 28 = true := by decide +kernel
set_option maxRecDepth 100000 in
theorem c_goesOn {n : Nat} {I : px_I} {L : px_L} {R : px_R} (hg : px_G n R) (w a : Int32) : px_KP M_X8_goesOn [.ref 70, .int w, .int a] n I L R (fun r => (r = 1 ∧ (cGo I w a)) ∨ (r = 0 ∧ ¬ (cGo I w a))) := by
  refine px_of (plainFor_of_name np_RX8) (fun _ _ _ => trivial) rfl ?_
  refine px_ieq rfl q_X8_goesOn_0 hg rfl trivial (fun c9 => ?_) (fun c9 => ?_)
  · refine px_cSNP rfl q_X8_goesOn_17 hg rfl trivial lk_8_51 nm_X11_within (c_within hg _ _ _) rfl rfl rfl ⟨rfl, rfl⟩ ?_
    intro x22 h22
    refine px_ne rfl q_X8_goesOn_25 hg rfl trivial (fun c25 => ?_) (fun c25 => ?_)
    · replace h22 := px_bt h22 c25
      refine px_ine rfl q_X8_goesOn_30 hg rfl ⟨trivial, (by refine ⟨?_, ?_⟩ <;> grind)⟩ (fun c37 => ?_) (fun c37 => ?_)
      · refine px_rzP rfl q_X8_goesOn_61 rfl rfl rfl hg rfl trivial ⟨⟨rfl, rfl, rfl, rfl⟩, (by first | exact Or.inl rfl | exact Or.inr rfl | grind), ?_⟩
        unfold cGo; grind
      · refine px_ine rfl q_X8_goesOn_40 hg rfl ⟨⟨trivial, (by refine ⟨?_, ?_⟩ <;> grind)⟩, (by refine ⟨?_, ?_⟩ <;> grind)⟩ (fun c54 => ?_) (fun c54 => ?_)
        · refine px_rzP rfl q_X8_goesOn_61 rfl rfl rfl hg rfl trivial ⟨⟨rfl, rfl, rfl, rfl⟩, (by first | exact Or.inl rfl | exact Or.inr rfl | grind), ?_⟩
          unfold cGo; grind
        · refine px_rzP rfl q_X8_goesOn_57 rfl rfl rfl hg rfl trivial ⟨⟨rfl, rfl, rfl, rfl⟩, (by first | exact Or.inl rfl | exact Or.inr rfl | grind), ?_⟩
          unfold cGo; grind
    · replace h22 := px_bf h22 c25
      refine px_rzP rfl q_X8_goesOn_28 rfl rfl rfl hg rfl trivial ⟨⟨rfl, rfl, rfl, rfl⟩, (by first | exact Or.inl rfl | exact Or.inr rfl | grind), ?_⟩
      unfold cGo; grind
  · refine px_ine rfl q_X8_goesOn_12 hg rfl trivial (fun c14 => ?_) (fun c14 => ?_)
    · refine px_rzP rfl q_X8_goesOn_28 rfl rfl rfl hg rfl trivial ⟨⟨rfl, rfl, rfl, rfl⟩, (by first | exact Or.inl rfl | exact Or.inr rfl | grind), ?_⟩
      unfold cGo; grind
    · refine px_cSNP rfl q_X8_goesOn_17 hg rfl trivial lk_8_51 nm_X11_within (c_within hg _ _ _) rfl rfl rfl ⟨rfl, rfl⟩ ?_
      intro x22 h22
      refine px_ne rfl q_X8_goesOn_25 hg rfl trivial (fun c25 => ?_) (fun c25 => ?_)
      · replace h22 := px_bt h22 c25
        refine px_ine rfl q_X8_goesOn_30 hg rfl ⟨trivial, (by refine ⟨?_, ?_⟩ <;> grind)⟩ (fun c37 => ?_) (fun c37 => ?_)
        · refine px_rzP rfl q_X8_goesOn_61 rfl rfl rfl hg rfl trivial ⟨⟨rfl, rfl, rfl, rfl⟩, (by first | exact Or.inl rfl | exact Or.inr rfl | grind), ?_⟩
          unfold cGo; grind
        · refine px_ine rfl q_X8_goesOn_40 hg rfl ⟨⟨trivial, (by refine ⟨?_, ?_⟩ <;> grind)⟩, (by refine ⟨?_, ?_⟩ <;> grind)⟩ (fun c54 => ?_) (fun c54 => ?_)
          · refine px_rzP rfl q_X8_goesOn_61 rfl rfl rfl hg rfl trivial ⟨⟨rfl, rfl, rfl, rfl⟩, (by first | exact Or.inl rfl | exact Or.inr rfl | grind), ?_⟩
            unfold cGo; grind
          · refine px_rzP rfl q_X8_goesOn_57 rfl rfl rfl hg rfl trivial ⟨⟨rfl, rfl, rfl, rfl⟩, (by first | exact Or.inl rfl | exact Or.inr rfl | grind), ?_⟩
            unfold cGo; grind
      · replace h22 := px_bf h22 c25
        refine px_rzP rfl q_X8_goesOn_28 rfl rfl rfl hg rfl trivial ⟨⟨rfl, rfl, rfl, rfl⟩, (by first | exact Or.inl rfl | exact Or.inr rfl | grind), ?_⟩
        unfold cGo; grind

theorem q_X8_addToken_0 : px_bk 8 3 cX8_addToken 0 [(.aload_n 0, (0, 0, 0, 0, 0), 0, 0), (.getfield 29, (8, 6, 0, 0, 0), 0, 0), (.sipush 400, (0, 0, 0, 0, 0), 400, 0)] = some 7 ∧ px_t2 cX8_addToken 7 .gt 60 = true := by decide +kernel
theorem q_X8_addToken_10 : px_bk 8 3 cX8_addToken 10 [(.aload_n 0, (0, 0, 0, 0, 0), 0, 0), (.getfield 13, (8, 1, 3, 72, 0), 0, 0), (.aload_n 0, (0, 0, 0, 0, 0), 0, 0), (.getfield 29, (8, 6, 0, 0, 0), 0, 0), (.iload_n 1, (0, 0, 0, 0, 0), 0, 0), (.iastore, (0, 0, 0, 0, 0), 0, 0), (.aload_n 0, (0, 0, 0, 0, 0), 0, 0), (.getfield 16, (8, 2, 3, 73, 0), 0, 0), (.aload_n 0, (0, 0, 0, 0, 0), 0, 0), (.getfield 29, (8, 6, 0, 0, 0), 0, 0), (.iload_n 2, (0, 0, 0, 0, 0), 0, 0), (.iastore, (0, 0, 0, 0, 0), 0, 0), (.aload_n 0, (0, 0, 0, 0, 0), 0, 0), (.getfield 19, (8, 3, 3, 74, 0), 0, 0), (.aload_n 0, (0, 0, 0, 0, 0), 0, 0), (.getfield 29, (8, 6, 0, 0, 0), 0, 0), (.iconst 0, (0, 0, 0, 0, 0), 0, 0), (.iastore, (0, 0, 0, 0, 0), 0, 0), (.aload_n 0, (0, 0, 0, 0, 0), 0, 0), (.getfield 22, (8, 4, 3, 75, 0), 0, 0), (.aload_n 0, (0, 0, 0, 0, 0), 0, 0), (.getfield 29, (8, 6, 0, 0, 0), 0, 0), (.iconst 0, (0, 0, 0, 0, 0), 0, 0), (.iastore, (0, 0, 0, 0, 0), 0, 0), (.aload_n 0, (0, 0, 0, 0, 0), 0, 0), (.dup, (0, 0, 0, 0, 0), 0, 0), (.getfield 29, (8, 6, 0, 0, 0), 0, 0), (.iconst 1, (0, 0, 0, 0, 0), 1, 0), (.iadd, (0, 0, 0, 0, 0), 0, 0), (.putfield 29, (8, 6, 0, 0, 0), 0, 0)] = some 60 ∧ px_tr cX8_addToken 60 .return_ = true := by decide +kernel
set_option maxRecDepth 100000 in
theorem c_addToken {n : Nat} {I : px_I} {L : px_L} {R : px_R} (hg : px_G n R) (w a : Int32) (ht : 0 ≤ I 70 6 ∧ I 70 6 ≤ 400) : px_KV M_X8_addToken [.ref 70, .int w, .int a] n I L R (fun I2 L2 => L2 = L ∧ I2 = cTok I w a) := by
  refine px_of (plainFor_of_name np_RX8) (fun _ _ _ => trivial) rfl ?_
  refine px_igt rfl q_X8_addToken_0 hg rfl trivial (fun c7 => ?_) (fun c7 => ?_)
  · exact absurd c7 (by grind)
  · refine px_rvW rfl q_X8_addToken_10 rfl rfl rfl hg rfl ⟨⟨⟨⟨trivial, (by refine ⟨?_, ?_⟩ <;> grind)⟩, (by refine ⟨?_, ?_⟩ <;> grind)⟩, (by refine ⟨?_, ?_⟩ <;> grind)⟩, (by refine ⟨?_, ?_⟩ <;> grind)⟩ ⟨⟨rfl, rfl⟩, ?_⟩
    exact ⟨rfl, rfl⟩

theorem q_X8_lengthen_0 : px_bk 8 3 cX8_lengthen 0 [(.aload_n 0, (0, 0, 0, 0, 0), 0, 0), (.getfield 29, (8, 6, 0, 0, 0), 0, 0), (.iconst 1, (0, 0, 0, 0, 0), 1, 0), (.isub, (0, 0, 0, 0, 0), 0, 0), (.istore_n 2, (0, 0, 0, 0, 0), 0, 0), (.iload_n 2, (0, 0, 0, 0, 0), 0, 0), (.iconst 0, (0, 0, 0, 0, 0), 0, 0), (.sipush 400, (0, 0, 0, 0, 0), 400, 0)] = some 12 ∧ px_tS cX8_lengthen 12 51 = true := by decide +kernel
theorem q_X8_lengthen_15 : px_bk 8 3 cX8_lengthen 15 [] = some 15 ∧ px_t1 cX8_lengthen 15 .eq 63 = true := by decide +kernel
theorem q_X8_lengthen_63 : px_bk 8 3 cX8_lengthen 63 [] = some 63 ∧ px_tr cX8_lengthen 63 .return_ = true := by decide +kernel
theorem q_X8_lengthen_18 : px_bk 8 3 cX8_lengthen 18 [(.aload_n 0, (0, 0, 0, 0, 0), 0, 0), (.getfield 19, (8, 3, 3, 74, 0), 0, 0), (.iload_n 2, (0, 0, 0, 0, 0), 0, 0), (.dup2, (0, 0, 0, 0, 0), 0, 0), (.iaload, (0, 0, 0, 0, 0), 0, 0), (.iconst 1, (0, 0, 0, 0, 0), 1, 0), (.iadd, (0, 0, 0, 0, 0), 0, 0), (.iastore, (0, 0, 0, 0, 0), 0, 0), (.aload_n 0, (0, 0, 0, 0, 0), 0, 0), (.getfield 13, (8, 1, 3, 72, 0), 0, 0), (.iload_n 2, (0, 0, 0, 0, 0), 0, 0), (.iaload, (0, 0, 0, 0, 0), 0, 0), (.iconst 2, (0, 0, 0, 0, 0), 2, 0)] = some 35 ∧ px_t2 cX8_lengthen 35 .ne 63 = true := by decide +kernel
theorem q_X8_lengthen_38 : px_bk 8 3 cX8_lengthen 38 [(.aload_n 0, (0, 0, 0, 0, 0), 0, 0), (.getfield 22, (8, 4, 3, 75, 0), 0, 0), (.iload_n 2, (0, 0, 0, 0, 0), 0, 0), (.ldc 57, (0, 0, 0, 0, 0), 1000000, 0), (.bipush 10, (0, 0, 0, 0, 0), 10, 0), (.aload_n 0, (0, 0, 0, 0, 0), 0, 0), (.getfield 22, (8, 4, 3, 75, 0), 0, 0), (.iload_n 2, (0, 0, 0, 0, 0), 0, 0), (.iaload, (0, 0, 0, 0, 0), 0, 0), (.imul, (0, 0, 0, 0, 0), 0, 0), (.iload_n 1, (0, 0, 0, 0, 0), 0, 0), (.iadd, (0, 0, 0, 0, 0), 0, 0), (.bipush 48, (0, 0, 0, 0, 0), 48, 0), (.isub, (0, 0, 0, 0, 0), 0, 0)] = some 59 ∧ px_tS cX8_lengthen 59 58 = true := by decide +kernel
theorem q_X8_lengthen_62 : px_bk 8 3 cX8_lengthen 62 [(.iastore, (0, 0, 0, 0, 0), 0, 0)] = some 63 ∧ px_tr cX8_lengthen 63 .return_ = true := by decide +kernel
set_option maxRecDepth 100000 in
theorem c_lengthen {n : Nat} {I : px_I} {L : px_L} {R : px_R} (hg : px_G n R) (s : Int32) : px_KV M_X8_lengthen [.ref 70, .int s] n I L R (fun I2 L2 => L2 = L ∧ I2 = cLen I s) := by
  refine px_of (plainFor_of_name np_RX8) (fun _ _ _ => trivial) rfl ?_
  refine px_cSNP rfl q_X8_lengthen_0 hg rfl trivial lk_8_51 nm_X11_within (c_within hg _ _ _) rfl rfl rfl ⟨rfl, rfl⟩ ?_
  intro x12 h12
  refine px_eq rfl q_X8_lengthen_15 hg rfl trivial (fun c15 => ?_) (fun c15 => ?_)
  · replace h12 := px_bf h12 c15
    refine px_rvW rfl q_X8_lengthen_63 rfl rfl rfl hg rfl trivial ⟨⟨rfl, rfl⟩, ?_⟩
    refine ⟨rfl, ?_⟩
    unfold cLen
    rw [if_neg (by assumption)]
  · replace h12 := px_bt h12 c15
    refine px_ine rfl q_X8_lengthen_18 hg rfl ⟨⟨⟨trivial, (by first | (refine ⟨?_, ?_⟩ <;> grind))⟩, (by first | (refine ⟨?_, ?_⟩ <;> grind))⟩, (by first | (refine ⟨?_, ?_⟩ <;> grind))⟩ (fun c35 => ?_) (fun c35 => ?_)
    · refine px_rvW rfl q_X8_lengthen_63 rfl rfl rfl hg rfl trivial ⟨⟨rfl, rfl⟩, ?_⟩
      have hk9 : ¬ I 72 (I 70 6 - 1).toNatClampNeg = 2 := by simpa [px_ur] using c35
      refine ⟨rfl, ?_⟩
      unfold cLen
      rw [if_pos (by assumption), if_neg hk9]
    · refine px_cSP rfl q_X8_lengthen_38 hg rfl ⟨trivial, (by first | (refine ⟨?_, ?_⟩ <;> grind))⟩ lk_8_58 nm_J9_min_7cf53 (j_min hg _ _) rfl rfl rfl ⟨rfl, rfl⟩ ?_
      intro x59 h59
      refine px_rvW rfl q_X8_lengthen_62 rfl rfl rfl hg rfl ⟨trivial, (by first | (refine ⟨?_, ?_⟩ <;> grind))⟩ ⟨⟨rfl, rfl⟩, ?_⟩
      have hk9 : I 72 (I 70 6 - 1).toNatClampNeg = 2 := by simpa [px_ur] using c35
      refine ⟨rfl, ?_⟩
      unfold cLen cMn
      rw [if_pos (by assumption), if_pos hk9, h59]
      simp [px_ur]

theorem q_X8_cut_7 : px_bk 8 3 cX8_cut 7 [(.iload_n 1, (0, 0, 0, 0, 0), 0, 0), (.aload_n 0, (0, 0, 0, 0, 0), 0, 0), (.getfield 25, (8, 5, 0, 0, 0), 0, 0)] = some 12 ∧ px_t2 cX8_cut 12 .ge 60 = true := by decide +kernel
theorem q_X8_cut_60 : px_bk 8 3 cX8_cut 60 [(.aload_n 0, (0, 0, 0, 0, 0), 0, 0), (.iconst 0, (0, 0, 0, 0, 0), 0, 0), (.aload_n 0, (0, 0, 0, 0, 0), 0, 0), (.getfield 25, (8, 5, 0, 0, 0), 0, 0)] = some 66 ∧ px_tv cX8_cut 66 43 = true := by decide +kernel
theorem q_X8_cut_69 : px_bk 8 3 cX8_cut 69 [] = some 69 ∧ px_tr cX8_cut 69 .return_ = true := by decide +kernel
theorem q_X8_cut_15 : px_bk 8 3 cX8_cut 15 [(.aload_n 0, (0, 0, 0, 0, 0), 0, 0), (.iload_n 1, (0, 0, 0, 0, 0), 0, 0)] = some 17 ∧ px_tv cX8_cut 17 32 = true := by decide +kernel
theorem q_X8_cut_20 : px_bk 8 3 cX8_cut 20 [] = some 20 ∧ px_tS cX8_cut 20 36 = true := by decide +kernel
theorem q_X8_cut_23 : px_bk 8 3 cX8_cut 23 [(.istore_n 2, (0, 0, 0, 0, 0), 0, 0), (.iload_n 2, (0, 0, 0, 0, 0), 0, 0), (.bipush 7, (0, 0, 0, 0, 0), 7, 0)] = some 27 ∧ px_t2 cX8_cut 27 .eq 54 = true := by decide +kernel
theorem q_X8_cut_54 : px_bk 8 3 cX8_cut 54 [(.iinc 1 1, (0, 0, 0, 0, 0), 1, 0), (.goto (-50), (0, 0, 0, 0, 0), 0, 0)] = some 7 := by decide +kernel
theorem q_X8_cut_30 : px_bk 8 3 cX8_cut 30 [(.aload_n 0, (0, 0, 0, 0, 0), 0, 0), (.iload_n 2, (0, 0, 0, 0, 0), 0, 0), (.iload_n 1, (0, 0, 0, 0, 0), 0, 0)] = some 33 ∧ px_tv cX8_cut 33 39 = true := by decide +kernel
theorem q_X8_cut_36 : px_bk 8 3 cX8_cut 36 [] = some 36 ∧ px_t1 cX8_cut 36 .ne 45 = true := by decide +kernel
theorem q_X8_cut_45 : px_bk 8 3 cX8_cut 45 [(.aload_n 0, (0, 0, 0, 0, 0), 0, 0), (.aload_n 0, (0, 0, 0, 0, 0), 0, 0), (.iload_n 1, (0, 0, 0, 0, 0), 0, 0)] = some 48 ∧ px_tv cX8_cut 48 32 = true := by decide +kernel
theorem q_X8_cut_51 : px_bk 8 3 cX8_cut 51 [] = some 51 ∧ px_tv cX8_cut 51 47 = true := by decide +kernel
theorem q_X8_cut_39 : px_bk 8 3 cX8_cut 39 [(.aload_n 0, (0, 0, 0, 0, 0), 0, 0), (.iload_n 2, (0, 0, 0, 0, 0), 0, 0), (.iload_n 1, (0, 0, 0, 0, 0), 0, 0)] = some 42 ∧ px_tv cX8_cut 42 43 = true := by decide +kernel
set_option maxRecDepth 100000 in
theorem l_cut {n : Nat} {R : px_R} (hg : px_G n R) {Q : px_Q} {I0 : px_I} {L : px_L} (hl : 0 ≤ I0 70 5 ∧ I0 70 5 ≤ 400) (hq : ∀ I2, cTF I0 I2 → (0 ≤ I2 70 6 ∧ I2 70 6 ≤ 401) → cNu I2 → Q none n I2 L R) : ∀ i : Int32, i ≤ I0 70 5 → 0 ≤ i → ∀ (k : Int32) (I : px_I), cTF I0 I → cNu I → (0 ≤ I 70 6 ∧ I 70 6 ≤ i) → px M_X8_cut 0 0 7 [(0, .ref 70), (1, .int i)] [] n I L R Q := by
  refine px_up _ (fun i ih hi => ?_)
  intro h0 k I hF hN ht
  have hl5 : I 70 5 = I0 70 5 := hF 70 5 (by decide) (by decide)
  refine px_ige rfl q_X8_cut_7 hg rfl trivial (fun c12 => ?_) (fun c12 => ?_)
  · refine px_cVW (ci := 8) rfl q_X8_cut_60 hg rfl trivial lk_8_43 nm_X8_addToken (c_addToken hg _ _ (by grind)) rfl rfl (px_lit hg rfl) rfl rfl rfl ⟨rfl, rfl⟩ ?_
    intro I66 L66 h66
    obtain ⟨rfl, h66⟩ := h66
    refine px_rv rfl q_X8_cut_69 rfl rfl rfl hg rfl trivial ?_
    exact hq _ (hF.trans (by rw [h66]; exact cTok_F _ _ _)) (by rw [h66, cTok_6]; exact ⟨by grind, by grind⟩) (by rw [h66]; exact cTok_N hN)
  · refine px_cVP (ci := 8) rfl q_X8_cut_15 hg rfl trivial lk_8_32 nm_X8_byteAt (c_byteAt hg _) rfl rfl (px_lit hg rfl) rfl rfl rfl ⟨rfl, rfl⟩ ?_
    intro x17 h17
    refine px_cSP rfl q_X8_cut_20 hg rfl trivial lk_8_36 nm_X8_kindOf (c_kindOf hg _) rfl rfl rfl ⟨rfl, rfl⟩ ?_
    intro x20 h20
    refine px_ieq rfl q_X8_cut_23 hg rfl trivial (fun c27 => ?_) (fun c27 => ?_)
    · refine px_b rfl q_X8_cut_54 hg rfl trivial ?_
      exact px_go (ih (i + 1) (by grind) (by grind) (by grind) 0 I hF hN ⟨ht.1, by grind⟩) ⟨rfl, rfl, trivial⟩
    · refine px_cVP (ci := 8) rfl q_X8_cut_30 hg rfl trivial lk_8_39 nm_X8_goesOn (c_goesOn hg _ _) rfl rfl (px_lit hg rfl) rfl rfl rfl ⟨rfl, rfl⟩ ?_
      intro x33 h33
      refine px_ne rfl q_X8_cut_36 hg rfl trivial (fun c36 => ?_) (fun c36 => ?_)
      · replace h33 := px_bt h33 c36
        refine px_cVP (ci := 8) rfl q_X8_cut_45 hg rfl trivial lk_8_32 nm_X8_byteAt (c_byteAt hg _) rfl rfl (px_lit hg rfl) rfl rfl rfl ⟨rfl, rfl⟩ ?_
        intro x48 h48
        refine px_cVW (ci := 8) rfl q_X8_cut_51 hg rfl trivial lk_8_47 nm_X8_lengthen (c_lengthen hg _) rfl rfl (px_lit hg rfl) rfl rfl rfl ⟨rfl, rfl⟩ ?_
        intro I51 L51 h51
        obtain ⟨rfl, h51⟩ := h51
        refine px_b rfl q_X8_cut_54 hg rfl trivial ?_
        exact px_go (ih (i + 1) (by grind) (by grind) (by grind) 0 I51 (hF.trans (by rw [h51]; exact cLen_F _ _)) (by rw [h51]; exact cLen_N hN (fun hz => by unfold cGo at h33; unfold cKind at h20; grind)) (by rw [h51, cLen_6]; exact ⟨ht.1, by grind⟩)) ⟨rfl, rfl, trivial⟩
      · replace h33 := px_bf h33 c36
        refine px_cVW (ci := 8) rfl q_X8_cut_39 hg rfl trivial lk_8_43 nm_X8_addToken (c_addToken hg _ _ (by grind)) rfl rfl (px_lit hg rfl) rfl rfl rfl ⟨rfl, rfl⟩ ?_
        intro I42 L42 h42
        obtain ⟨rfl, h42⟩ := h42
        refine px_cVP (ci := 8) rfl q_X8_cut_45 hg rfl trivial lk_8_32 nm_X8_byteAt (c_byteAt hg _) rfl rfl (px_lit hg rfl) rfl rfl rfl ⟨rfl, rfl⟩ ?_
        intro x48 h48
        refine px_cVW (ci := 8) rfl q_X8_cut_51 hg rfl trivial lk_8_47 nm_X8_lengthen (c_lengthen hg _) rfl rfl (px_lit hg rfl) rfl rfl rfl ⟨rfl, rfl⟩ ?_
        intro I51 L51 h51
        obtain ⟨rfl, h51⟩ := h51
        refine px_b rfl q_X8_cut_54 hg rfl trivial ?_
        exact px_go (ih (i + 1) (by grind) (by grind) (by grind) 0 I51 (cTF.trans (I1 := I42) (hF.trans (by rw [h42]; exact cTok_F _ _ _)) (by rw [h51]; exact cLen_F _ _)) (by rw [h51]; exact cLen_N (by rw [h42]; exact cTok_N hN) (fun hz => by rw [h42, cTok_6, show I 70 6 + 1 - 1 = I 70 6 by grind, cTok_k] at hz; have e := h48; rw [h42, ← cTok_F I x20 i 71 _ (by decide) (fun z => absurd z.1 (by decide))] at *; unfold cKind at h20; grind)) (by rw [h51, cLen_6, h42, cTok_6]; exact ⟨by grind, by grind⟩)) ⟨rfl, rfl, trivial⟩

theorem q_X8_cut_0 : px_bk 8 3 cX8_cut 0 [(.aload_n 0, (0, 0, 0, 0, 0), 0, 0), (.iconst 0, (0, 0, 0, 0, 0), 0, 0), (.putfield 29, (8, 6, 0, 0, 0), 0, 0), (.iconst 0, (0, 0, 0, 0, 0), 0, 0), (.istore_n 1, (0, 0, 0, 0, 0), 0, 0)] = some 7 := by decide +kernel
set_option maxRecDepth 100000 in
theorem c_cut {n : Nat} {I : px_I} {L : px_L} {R : px_R} (hg : px_G n R) (hl : 0 ≤ I 70 5 ∧ I 70 5 ≤ 400) (hN : cNu I) : px_KV M_X8_cut [.ref 70] n I L R (fun I2 L2 => L2 = L ∧ cTF I I2 ∧ (0 ≤ I2 70 6 ∧ I2 70 6 ≤ 401) ∧ cNu I2) := by
  refine px_of (plainFor_of_name np_RX8) (fun _ _ _ => trivial) rfl ?_
  refine px_b rfl q_X8_cut_0 hg rfl trivial ?_
  exact px_go (l_cut hg hl (fun I2 h1 h2 h3 => ⟨rfl, rfl, rfl, rfl, h1, h2, h3⟩) 0 hl.1 (by decide) 0 _ (cTF.u6 (fun _ _ _ _ => rfl) _) (fun k => by rw [px_u_ne (by decide)]; exact hN k) (by rw [px_u_at]; decide)) ⟨rfl, rfl, trivial⟩

theorem q_X8_isWord_41 : px_bk 8 4 cX8_isWord 41 [(.iload_n 3, (0, 0, 0, 0, 0), 0, 0), (.aload_n 2, (0, 0, 0, 0, 0), 0, 0)] = some 43 ∧ px_tv cX8_isWord 43 64 = true := by decide +kernel
theorem q_X8_isWord_46 : px_bk 8 4 cX8_isWord 46 [] = some 46 ∧ px_t2 cX8_isWord 46 .ge 77 = true := by decide +kernel
theorem q_X8_isWord_77 : px_bk 8 4 cX8_isWord 77 [(.iconst 1, (0, 0, 0, 0, 0), 1, 0)] = some 78 ∧ px_tr cX8_isWord 78 .ireturn = true := by decide +kernel
theorem q_X8_isWord_49 : px_bk 8 4 cX8_isWord 49 [(.aload_n 0, (0, 0, 0, 0, 0), 0, 0), (.aload_n 0, (0, 0, 0, 0, 0), 0, 0), (.getfield 16, (8, 2, 3, 73, 0), 0, 0), (.iload_n 1, (0, 0, 0, 0, 0), 0, 0), (.iaload, (0, 0, 0, 0, 0), 0, 0), (.iload_n 3, (0, 0, 0, 0, 0), 0, 0), (.iadd, (0, 0, 0, 0, 0), 0, 0)] = some 58 ∧ px_tv cX8_isWord 58 32 = true := by decide +kernel
theorem q_X8_isWord_61 : px_bk 8 4 cX8_isWord 61 [(.aload_n 2, (0, 0, 0, 0, 0), 0, 0), (.iload_n 3, (0, 0, 0, 0, 0), 0, 0)] = some 63 ∧ px_tv cX8_isWord 63 69 = true := by decide +kernel
theorem q_X8_isWord_66 : px_bk 8 4 cX8_isWord 66 [] = some 66 ∧ px_t2 cX8_isWord 66 .eq 71 = true := by decide +kernel
theorem q_X8_isWord_71 : px_bk 8 4 cX8_isWord 71 [(.iinc 3 1, (0, 0, 0, 0, 0), 1, 0), (.goto (-33), (0, 0, 0, 0, 0), 0, 0)] = some 41 := by decide +kernel
theorem q_X8_isWord_69 : px_bk 8 4 cX8_isWord 69 [(.iconst 0, (0, 0, 0, 0, 0), 0, 0)] = some 70 ∧ px_tr cX8_isWord 70 .ireturn = true := by decide +kernel
set_option maxRecDepth 100000 in
theorem l_isWord {n : Nat} {R : px_R} (hg : px_G n R) {Q : px_Q} (t : Int32) (i : Nat) (hi : i < 9) (ht : 0 ≤ t ∧ t < 401) {I : px_I} {L : px_L} (hq : ∀ r, (r = 0 ∨ r = 1) → Q (some (.int r)) n I L R) : ∀ k : Int32, k ≤ Int32.ofNat (px_len.getD i 0) → 0 ≤ k → px M_X8_isWord 0 0 41 [(0, .ref 70), (1, .int t), (2, .ref i), (3, .int k)] [] n I L R Q := by
  refine px_up _ (fun k ih hk => ?_)
  intro h0
  refine px_cVsP rfl q_X8_isWord_41 hg rfl trivial lk_8_64 nm_J0_length_8abf5 (j_length hg _ (by assumption)) rfl rfl (by assumption) rfl rfl ⟨rfl, rfl⟩ ?_
  intro x43 h43
  refine px_ige rfl q_X8_isWord_46 hg rfl trivial (fun c46 => ?_) (fun c46 => ?_)
  · refine px_rz rfl q_X8_isWord_77 rfl rfl rfl hg rfl trivial (by first | exact Or.inl rfl | exact Or.inr rfl | grind) ?_
    first | exact hq _ (Or.inl rfl) | exact hq _ (Or.inr rfl)
  · have hk9 : 0 ≤ k ∧ k < Int32.ofNat (px_len.getD i 0) := ⟨h0, by grind⟩
    refine px_cVP (ci := 8) rfl q_X8_isWord_49 hg rfl ⟨trivial, (by with_reducible assumption)⟩ lk_8_32 nm_X8_byteAt (c_byteAt hg _) rfl rfl (px_lit hg rfl) rfl rfl rfl ⟨rfl, rfl⟩ ?_
    intro x58 h58
    refine px_cVsP rfl q_X8_isWord_61 hg rfl trivial lk_8_69 nm_J0_charAt_5068e (j_charAt hg _ _ (by assumption) (by assumption)) rfl rfl (by assumption) rfl rfl ⟨rfl, rfl⟩ ?_
    intro x63 h63
    refine px_ieq rfl q_X8_isWord_66 hg rfl trivial (fun c66 => ?_) (fun c66 => ?_)
    · refine px_b rfl q_X8_isWord_71 hg rfl trivial ?_
      exact px_go (ih (k + 1) (by grind) (by grind) (by grind)) ⟨rfl, rfl, rfl, rfl, trivial⟩
    · refine px_rz rfl q_X8_isWord_69 rfl rfl rfl hg rfl trivial (by first | exact Or.inl rfl | exact Or.inr rfl | grind) ?_
      first | exact hq _ (Or.inl rfl) | exact hq _ (Or.inr rfl)

theorem q_X8_isWord_0 : px_bk 8 4 cX8_isWord 0 [(.iload_n 1, (0, 0, 0, 0, 0), 0, 0), (.iconst 0, (0, 0, 0, 0, 0), 0, 0), (.aload_n 0, (0, 0, 0, 0, 0), 0, 0), (.getfield 29, (8, 6, 0, 0, 0), 0, 0), (.iconst 1, (0, 0, 0, 0, 0), 1, 0), (.isub, (0, 0, 0, 0, 0), 0, 0)] = some 8 ∧ px_tS cX8_isWord 8 51 = true := by decide +kernel
theorem q_X8_isWord_11 : px_bk 8 4 cX8_isWord 11 [] = some 11 ∧ px_t1 cX8_isWord 11 .eq 37 = true := by decide +kernel
theorem q_X8_isWord_37 : px_bk 8 4 cX8_isWord 37 [(.iconst 0, (0, 0, 0, 0, 0), 0, 0)] = some 38 ∧ px_tr cX8_isWord 38 .ireturn = true := by decide +kernel
theorem q_X8_isWord_14 : px_bk 8 4 cX8_isWord 14 [(.aload_n 0, (0, 0, 0, 0, 0), 0, 0), (.getfield 13, (8, 1, 3, 72, 0), 0, 0), (.iload_n 1, (0, 0, 0, 0, 0), 0, 0), (.iaload, (0, 0, 0, 0, 0), 0, 0), (.iconst 1, (0, 0, 0, 0, 0), 1, 0)] = some 21 ∧ px_t2 cX8_isWord 21 .ne 37 = true := by decide +kernel
theorem q_X8_isWord_24 : px_bk 8 4 cX8_isWord 24 [(.aload_n 0, (0, 0, 0, 0, 0), 0, 0), (.getfield 19, (8, 3, 3, 74, 0), 0, 0), (.iload_n 1, (0, 0, 0, 0, 0), 0, 0), (.iaload, (0, 0, 0, 0, 0), 0, 0), (.aload_n 2, (0, 0, 0, 0, 0), 0, 0)] = some 31 ∧ px_tv cX8_isWord 31 64 = true := by decide +kernel
theorem q_X8_isWord_34 : px_bk 8 4 cX8_isWord 34 [] = some 34 ∧ px_t2 cX8_isWord 34 .eq 39 = true := by decide +kernel
theorem q_X8_isWord_39 : px_bk 8 4 cX8_isWord 39 [(.iconst 0, (0, 0, 0, 0, 0), 0, 0), (.istore_n 3, (0, 0, 0, 0, 0), 0, 0)] = some 41 := by decide +kernel
set_option maxRecDepth 100000 in
theorem c_isWord {n : Nat} {I : px_I} {L : px_L} {R : px_R} (hg : px_G n R) (t : Int32) (i : Nat) (hi : i < 9) (ht : 0 ≤ I 70 6 ∧ I 70 6 ≤ 401) : px_KP M_X8_isWord [.ref 70, .int t, .ref i] n I L R (fun r => r = 0 ∨ r = 1) := by
  refine px_of (plainFor_of_name np_RX8) (fun _ _ _ => trivial) rfl ?_
  refine px_cSNP rfl q_X8_isWord_0 hg rfl trivial lk_8_51 nm_X11_within (c_within hg _ _ _) rfl rfl rfl ⟨rfl, rfl⟩ ?_
  intro x8 h8
  refine px_eq rfl q_X8_isWord_11 hg rfl trivial (fun c11 => ?_) (fun c11 => ?_)
  · replace h8 := px_bf h8 c11
    refine px_rzP rfl q_X8_isWord_37 rfl rfl rfl hg rfl trivial ⟨⟨rfl, rfl, rfl, rfl⟩, (by first | exact Or.inl rfl | exact Or.inr rfl | grind), ?_⟩
    exact Or.inl rfl
  · replace h8 := px_bt h8 c11
    have ht9 : 0 ≤ t ∧ t < 401 := by grind
    refine px_ine rfl q_X8_isWord_14 hg rfl ⟨trivial, (by with_reducible assumption)⟩ (fun c21 => ?_) (fun c21 => ?_)
    · refine px_rzP rfl q_X8_isWord_37 rfl rfl rfl hg rfl trivial ⟨⟨rfl, rfl, rfl, rfl⟩, (by first | exact Or.inl rfl | exact Or.inr rfl | grind), ?_⟩
      exact Or.inl rfl
    · refine px_cVsP rfl q_X8_isWord_24 hg rfl ⟨trivial, (by with_reducible assumption)⟩ lk_8_64 nm_J0_length_8abf5 (j_length hg _ (by assumption)) rfl rfl (by assumption) rfl rfl ⟨rfl, rfl⟩ ?_
      intro x31 h31
      refine px_ieq rfl q_X8_isWord_34 hg rfl trivial (fun c34 => ?_) (fun c34 => ?_)
      · refine px_b rfl q_X8_isWord_39 hg rfl trivial ?_
        exact px_go (l_isWord hg t i hi ht9 (fun r hr => ⟨rfl, rfl, r, rfl, rfl, rfl, hr⟩) 0 (jb_pos i hi) (by decide)) ⟨rfl, rfl, rfl, rfl, trivial⟩
      · refine px_rzP rfl q_X8_isWord_37 rfl rfl rfl hg rfl trivial ⟨⟨rfl, rfl, rfl, rfl⟩, (by first | exact Or.inl rfl | exact Or.inr rfl | grind), ?_⟩
        exact Or.inl rfl
