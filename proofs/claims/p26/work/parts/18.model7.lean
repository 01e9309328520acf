/-! the reference: two faces that seek each other -/
def mW (I : px_I) : Prop := (0 ≤ I 137 0 ∧ I 137 0 ≤ 9) ∧ (0 ≤ I 137 1 ∧ I 137 1 ≤ 9) ∧ (0 ≤ I 137 2 ∧ I 137 2 ≤ 9) ∧ I 137 0 + I 137 1 + I 137 2 ≠ 0 ∧ (0 ≤ I 103 59 ∧ I 103 59 ≤ 40) ∧ (0 ≤ I 103 60 ∧ I 103 60 ≤ 3) ∧ (0 ≤ I 103 61 ∧ I 103 61 ≤ 20)
theorem mNL.u5 {L L1 : px_L} (h : mNL L L1) (k : Nat) (v : Int64) : mNL L (px_u L1 145 k v) := fun b h5 h6 => by rw [px_u_ne h5]; exact h b h5 h6
theorem mNL.u6 {L L1 : px_L} (h : mNL L L1) (k : Nat) (v : Int64) : mNL L (px_u L1 146 k v) := fun b h5 h6 => by rw [px_u_ne h6]; exact h b h5 h6
theorem mNL.trans {L L1 L2 : px_L} (h : mNL L L1) (h2 : mNL L1 L2) : mNL L L2 := fun b h5 h6 => (h2 b h5 h6).trans (h b h5 h6)
theorem px_lr {a b : Int64} (hb : ¬ b = 0) : (a - a / b * b).toInt = a.toInt.tmod b.toInt := by
  have e : a - a / b * b = a % b := by
    apply Int64.toInt_inj.mp
    rw [Int64.toInt_mod, Int64.toInt_sub, Int64.toInt_mul, Int64.toInt_div, Int.sub_bmod_bmod, ← Int.sub_bmod_bmod, Int.bmod_mul_bmod, Int.sub_bmod_bmod]
    have h1 : a.toInt - a.toInt.tdiv b.toInt * b.toInt = a.toInt.tmod b.toInt := by
      have := Int.tmod_add_tdiv_mul a.toInt b.toInt
      omega
    rw [h1, ← Int64.toInt_mod, Int64.toInt_bmod]
  rw [e, Int64.toInt_mod]
theorem px_lr_lt {a b : Int64} (hb : ¬ b = 0) : (a - a / b * b).toInt.natAbs < b.toInt.natAbs := by
  rw [px_lr hb, Int.natAbs_tmod]
  refine Nat.mod_lt _ ?_
  have : ¬ b.toInt = 0 := fun h => hb (Int64.toInt_inj.mp (by rw [h]; rfl))
  omega
theorem px_gc {P : Int64 → Prop} (h : ∀ x, (∀ y : Int64, y.toInt.natAbs < x.toInt.natAbs → P y) → P x) : ∀ x, P x := by
  have key : ∀ (d : Nat) (x : Int64), x.toInt.natAbs < d → P x := by
    intro d
    induction d with
    | zero => intro x h1; omega
    | succ d ih => intro x h1; exact h x (fun y h2 => ih y (by omega))
  exact fun x => key _ x (Nat.lt_succ_self _)
def mAll (left : Int32) (all : Int64) : Prop := 1 ≤ all.toInt ∧ all.toInt ≤ 27 ^ (11 - left.toInt).toNat
theorem mAll_ne {left : Int32} {all : Int64} (h : mAll left all) : ¬ all = 0 := fun h2 => by rw [h2] at h; exact absurd h.1 (by decide)
theorem mAll_0 {left : Int32} : mAll left 1 := ⟨by decide, by
  rw [show (1 : Int64).toInt = 1 by decide]
  exact Int.pow_pos (by decide)⟩
theorem mAll_s {left : Int32} {all : Int64} {s : Int32} (h1 : 0 ≤ left) (h2 : left ≤ 11) (hs1 : 1 ≤ s) (hs2 : s ≤ 27) (h : mAll left all) : mAll (left + -1) (all * s.toInt64) := by
  obtain ⟨h3, h4⟩ := h
  have a1 := Int32.le_iff_toInt_le.mp h1
  have a2 := Int32.le_iff_toInt_le.mp h2
  have a3 := Int32.le_iff_toInt_le.mp hs1
  have a4 := Int32.le_iff_toInt_le.mp hs2
  simp at a1 a2 a3 a4
  have e1 : (left + -1).toInt = left.toInt - 1 := by
    rw [Int32.toInt_add]
    show (left.toInt + -1).bmod (2 ^ 32) = _
    rw [Int.bmod_eq_of_le (by omega) (by omega)]
    omega
  have h5 : all.toInt * s.toInt ≤ 27 ^ (11 - left.toInt).toNat * 27 := Int.mul_le_mul h4 (by omega) (by omega) (by omega)
  have h6 : (11 - (left + -1).toInt).toNat = (11 - left.toInt).toNat + 1 := by rw [e1]; omega
  have h7 : (27 : Int) ^ ((11 - left.toInt).toNat + 1) ≤ 27 ^ 12 := by
    have : (11 - left.toInt).toNat + 1 ≤ 12 := by omega
    exact_mod_cast Nat.pow_le_pow_right (by decide : 27 > 0) this
  have h8 : 1 ≤ all.toInt * s.toInt := by
    have := Int.mul_le_mul h3 a3 (by decide) (by omega)
    omega
  have e2 : (all * s.toInt64).toInt = all.toInt * s.toInt := by
    rw [Int64.toInt_mul, Int32.toInt_toInt64]
    rw [Int.pow_succ] at h7
    refine Int.bmod_eq_of_le ?_ ?_
    · omega
    · have : (27 : Int) ^ 12 < 2 ^ 63 := by decide
      omega
  exact ⟨by rw [e2]; exact h8, by rw [e2, h6, Int.pow_succ]; exact h5⟩
theorem mW_s {I : px_I} (h : mW I) : 1 ≤ I 137 0 + I 137 1 + I 137 2 ∧ I 137 0 + I 137 1 + I 137 2 ≤ 27 := by
  unfold mW at h
  grind

theorem q_X12_chance_326 : px_bk 12 14 cX12_chance 326 [(.lload 8, (0, 0, 0, 0, 0), 0, 0), (.lconst 0, (0, 0, 0, 0, 0), 0, 0), (.lcmp, (0, 0, 0, 0, 0), 0, 0)] = some 330 ∧ px_t1 cX12_chance 330 .eq 351 = true := by decide +kernel
theorem q_X12_chance_351 : px_bk 12 14 cX12_chance 351 [(.iload_n 3, (0, 0, 0, 0, 0), 0, 0)] = some 352 ∧ px_t1 cX12_chance 352 .eq 363 = true := by decide +kernel
theorem q_X12_chance_363 : px_bk 12 14 cX12_chance 363 [(.lload 6, (0, 0, 0, 0, 0), 0, 0), (.lload 10, (0, 0, 0, 0, 0), 0, 0), (.ldiv, (0, 0, 0, 0, 0), 0, 0)] = some 368 ∧ px_tr cX12_chance 368 .lreturn = true := by decide +kernel
theorem q_X12_chance_355 : px_bk 12 14 cX12_chance 355 [(.lload 4, (0, 0, 0, 0, 0), 0, 0), (.lload 10, (0, 0, 0, 0, 0), 0, 0), (.ldiv, (0, 0, 0, 0, 0), 0, 0), (.goto 8, (0, 0, 0, 0, 0), 0, 0)] = some 368 ∧ px_tr cX12_chance 368 .lreturn = true := by decide +kernel
theorem q_X12_chance_333 : px_bk 12 14 cX12_chance 333 [(.lload 10, (0, 0, 0, 0, 0), 0, 0), (.lload 8, (0, 0, 0, 0, 0), 0, 0), (.lrem, (0, 0, 0, 0, 0), 0, 0), (.lstore 12, (0, 0, 0, 0, 0), 0, 0), (.lload 8, (0, 0, 0, 0, 0), 0, 0), (.lstore 10, (0, 0, 0, 0, 0), 0, 0), (.lload 12, (0, 0, 0, 0, 0), 0, 0), (.lstore 8, (0, 0, 0, 0, 0), 0, 0), (.goto (-22), (0, 0, 0, 0, 0), 0, 0)] = some 326 := by decide +kernel
set_option maxRecDepth 100000 in
theorem l_chance326 {n : Nat} {R : px_R} (hg : px_G n R) {Q : px_Q} (a o lo : Int32) (m all : Int64) {I : px_I} {L : px_L} (hq : ∀ r, Q (some (.long r)) n I L R) : ∀ x y : Int64, ¬ y = 0 → px M_X12_chance 0 0 326 [(0, .ref 103), (1, .int a), (2, .int o), (3, .int lo), (4, .long all), (6, .long m), (8, .long x), (10, .long y)] [] n I L R Q := by
  refine px_gc (fun x ih => ?_)
  intro y hy
  refine px_leq rfl q_X12_chance_326 hg rfl trivial (fun c330 => ?_) (fun c330 => ?_)
  · refine px_eq rfl q_X12_chance_351 hg rfl trivial (fun c352 => ?_) (fun c352 => ?_)
    · refine px_rl rfl q_X12_chance_363 rfl rfl rfl hg rfl ⟨trivial, (by assumption)⟩ ?_
      exact hq _
    · refine px_rl rfl q_X12_chance_355 rfl rfl rfl hg rfl ⟨trivial, (by assumption)⟩ ?_
      exact hq _
  · refine px_b rfl q_X12_chance_333 hg rfl ⟨trivial, (by assumption)⟩ ?_
    exact px_go (ih _ (px_lr_lt (by assumption)) _ (by assumption)) ⟨rfl, rfl, rfl, rfl, rfl, rfl, rfl, rfl, trivial⟩

theorem q_X12_chance_265 : px_bk 12 14 cX12_chance 265 [(.iload 8, (0, 0, 0, 0, 0), 0, 0), (.sipush 129, (0, 0, 0, 0, 0), 129, 0)] = some 270 ∧ px_t2 cX12_chance 270 .ge 318 = true := by decide +kernel
theorem q_X12_chance_318 : px_bk 12 14 cX12_chance 318 [(.lload 6, (0, 0, 0, 0, 0), 0, 0), (.lstore 8, (0, 0, 0, 0, 0), 0, 0), (.lload 4, (0, 0, 0, 0, 0), 0, 0), (.lstore 10, (0, 0, 0, 0, 0), 0, 0)] = some 326 := by decide +kernel
theorem q_X12_chance_273 : px_bk 12 14 cX12_chance 273 [(.lload 6, (0, 0, 0, 0, 0), 0, 0), (.iload 8, (0, 0, 0, 0, 0), 0, 0), (.bipush 64, (0, 0, 0, 0, 0), 64, 0), (.isub, (0, 0, 0, 0, 0), 0, 0), (.i2l, (0, 0, 0, 0, 0), 0, 0), (.aload_n 0, (0, 0, 0, 0, 0), 0, 0), (.getfield 456, (12, 61, 0, 0, 0), 0, 0), (.ineg, (0, 0, 0, 0, 0), 0, 0), (.i2l, (0, 0, 0, 0, 0), 0, 0), (.aload_n 0, (0, 0, 0, 0, 0), 0, 0), (.getfield 456, (12, 61, 0, 0, 0), 0, 0), (.i2l, (0, 0, 0, 0, 0), 0, 0)] = some 292 ∧ px_tS cX12_chance 292 167 = true := by decide +kernel
theorem q_X12_chance_295 : px_bk 12 14 cX12_chance 295 [] = some 295 ∧ px_t1 cX12_chance 295 .eq 302 = true := by decide +kernel
theorem q_X12_chance_302 : px_bk 12 14 cX12_chance 302 [(.aload_n 0, (0, 0, 0, 0, 0), 0, 0), (.getfield 161, (12, 75, 3, 145, 0), 0, 0), (.iload 8, (0, 0, 0, 0, 0), 0, 0), (.laload, (0, 0, 0, 0, 0), 0, 0), (.ladd, (0, 0, 0, 0, 0), 0, 0), (.lstore 6, (0, 0, 0, 0, 0), 0, 0), (.iinc 8 1, (0, 0, 0, 0, 0), 1, 0), (.goto (-50), (0, 0, 0, 0, 0), 0, 0)] = some 265 := by decide +kernel
theorem q_X12_chance_298 : px_bk 12 14 cX12_chance 298 [(.lconst 0, (0, 0, 0, 0, 0), 0, 0), (.goto 10, (0, 0, 0, 0, 0), 0, 0), (.ladd, (0, 0, 0, 0, 0), 0, 0), (.lstore 6, (0, 0, 0, 0, 0), 0, 0), (.iinc 8 1, (0, 0, 0, 0, 0), 1, 0), (.goto (-50), (0, 0, 0, 0, 0), 0, 0)] = some 265 := by decide +kernel
set_option maxRecDepth 100000 in
theorem l_chance265 {n : Nat} {R : px_R} (hg : px_G n R) {Q : px_Q} (a o lo : Int32) (all : Int64) (ha : ¬ all = 0) {I : px_I} {L : px_L} (hq : ∀ r, Q (some (.long r)) n I L R) : ∀ k : Int32, k ≤ 129 → 0 ≤ k → ∀ m : Int64, px M_X12_chance 0 0 265 [(0, .ref 103), (1, .int a), (2, .int o), (3, .int lo), (4, .long all), (6, .long m), (8, .int k)] [] n I L R Q := by
  refine px_up 129 (fun k ih hk => ?_)
  intro h0 m
  refine px_ige rfl q_X12_chance_265 hg rfl trivial (fun c270 => ?_) (fun c270 => ?_)
  · refine px_b rfl q_X12_chance_318 hg rfl trivial ?_
    exact px_go (l_chance326 hg a o lo m all hq m all ha) ⟨rfl, rfl, rfl, rfl, rfl, rfl, rfl, rfl, trivial⟩
  · refine px_cSP rfl q_X12_chance_273 hg rfl trivial lk_12_167 nm_X12_in (k_inI hg _ _ _ rfl rfl) rfl rfl rfl ⟨rfl, rfl⟩ ?_
    intro x292 h292
    refine px_eq rfl q_X12_chance_295 hg rfl trivial (fun c295 => ?_) (fun c295 => ?_)
    · replace h292 := px_bf h292 c295
      refine px_b rfl q_X12_chance_302 hg rfl ⟨trivial, (by first | decide | (refine ⟨?_, ?_⟩ <;> grind) | grind)⟩ ?_
      exact px_go (ih (k + 1) (by grind) (by grind) (by grind) _) ⟨rfl, rfl, rfl, rfl, rfl, rfl, rfl, trivial⟩
    · replace h292 := px_bt h292 c295
      refine px_b rfl q_X12_chance_298 hg rfl trivial ?_
      exact px_go (ih (k + 1) (by grind) (by grind) (by grind) _) ⟨rfl, rfl, rfl, rfl, rfl, rfl, rfl, trivial⟩

theorem q_X12_chance_199 : px_bk 12 14 cX12_chance 199 [(.iload 7, (0, 0, 0, 0, 0), 0, 0), (.sipush 129, (0, 0, 0, 0, 0), 129, 0)] = some 204 ∧ px_t2 cX12_chance 204 .ge 227 = true := by decide +kernel
theorem q_X12_chance_227 : px_bk 12 14 cX12_chance 227 [(.lload 4, (0, 0, 0, 0, 0), 0, 0), (.aload_n 0, (0, 0, 0, 0, 0), 0, 0), (.getfield 137, (12, 58, 3, 137, 0), 0, 0), (.iconst 0, (0, 0, 0, 0, 0), 0, 0), (.iaload, (0, 0, 0, 0, 0), 0, 0), (.aload_n 0, (0, 0, 0, 0, 0), 0, 0), (.getfield 137, (12, 58, 3, 137, 0), 0, 0), (.iconst 1, (0, 0, 0, 0, 0), 1, 0), (.iaload, (0, 0, 0, 0, 0), 0, 0), (.iadd, (0, 0, 0, 0, 0), 0, 0), (.aload_n 0, (0, 0, 0, 0, 0), 0, 0), (.getfield 137, (12, 58, 3, 137, 0), 0, 0), (.iconst 2, (0, 0, 0, 0, 0), 2, 0), (.iaload, (0, 0, 0, 0, 0), 0, 0), (.iadd, (0, 0, 0, 0, 0), 0, 0), (.i2l, (0, 0, 0, 0, 0), 0, 0), (.lmul, (0, 0, 0, 0, 0), 0, 0), (.lstore 4, (0, 0, 0, 0, 0), 0, 0), (.iinc 6 (-1), (0, 0, 0, 0, 0), -1, 0), (.goto (-180), (0, 0, 0, 0, 0), 0, 0)] = some 76 := by decide +kernel
theorem q_X12_chance_207 : px_bk 12 14 cX12_chance 207 [(.aload_n 0, (0, 0, 0, 0, 0), 0, 0), (.getfield 161, (12, 75, 3, 145, 0), 0, 0), (.iload 7, (0, 0, 0, 0, 0), 0, 0), (.aload_n 0, (0, 0, 0, 0, 0), 0, 0), (.getfield 164, (12, 76, 3, 146, 0), 0, 0), (.iload 7, (0, 0, 0, 0, 0), 0, 0), (.laload, (0, 0, 0, 0, 0), 0, 0), (.lastore, (0, 0, 0, 0, 0), 0, 0), (.iinc 7 1, (0, 0, 0, 0, 0), 1, 0), (.goto (-25), (0, 0, 0, 0, 0), 0, 0)] = some 199 := by decide +kernel
set_option maxRecDepth 100000 in
theorem l_chance199 {n : Nat} {R : px_R} (hg : px_G n R) {Q : px_Q} (a o lo left : Int32) (all : Int64) {I : px_I} (L : px_L) (hq : ∀ L2, mNL L L2 → px M_X12_chance 0 0 76 [(0, .ref 103), (1, .int a), (2, .int o), (3, .int lo), (4, .long (all * (I 137 0 + I 137 1 + I 137 2).toInt64)), (6, .int (left + -1))] [] n I L2 R Q) : ∀ k : Int32, k ≤ 129 → 0 ≤ k → ∀ L1, mNL L L1 → px M_X12_chance 0 0 199 [(0, .ref 103), (1, .int a), (2, .int o), (3, .int lo), (4, .long all), (6, .int left), (7, .int k)] [] n I L1 R Q := by
  refine px_up 129 (fun k ih hk => ?_)
  intro h0 L1 h1
  refine px_ige rfl q_X12_chance_199 hg rfl trivial (fun c204 => ?_) (fun c204 => ?_)
  · refine px_b rfl q_X12_chance_227 hg rfl ⟨⟨⟨trivial, (by first | decide | (refine ⟨?_, ?_⟩ <;> grind) | grind)⟩, (by first | decide | (refine ⟨?_, ?_⟩ <;> grind) | grind)⟩, (by first | decide | (refine ⟨?_, ?_⟩ <;> grind) | grind)⟩ ?_
    exact px_go (hq _ h1) ⟨rfl, rfl, rfl, rfl, rfl, rfl, trivial⟩
  · refine px_b rfl q_X12_chance_207 hg rfl ⟨⟨trivial, (by first | decide | (refine ⟨?_, ?_⟩ <;> grind) | grind)⟩, (by first | decide | (refine ⟨?_, ?_⟩ <;> grind) | grind)⟩ ?_
    exact px_go (ih (k + 1) (by grind) (by grind) (by grind) _ (by first | exact h1 | exact h1.u5 _ _ | exact h1.u6 _ _)) ⟨rfl, rfl, rfl, rfl, rfl, rfl, rfl, trivial⟩

theorem q_X12_chance_120 : px_bk 12 14 cX12_chance 120 [(.iload 8, (0, 0, 0, 0, 0), 0, 0), (.iconst 3, (0, 0, 0, 0, 0), 3, 0)] = some 123 ∧ px_t2 cX12_chance 123 .ge 190 = true := by decide +kernel
theorem q_X12_chance_190 : px_bk 12 14 cX12_chance 190 [(.iinc 7 1, (0, 0, 0, 0, 0), 1, 0), (.goto (-84), (0, 0, 0, 0, 0), 0, 0)] = some 109 := by decide +kernel
theorem q_X12_chance_126 : px_bk 12 14 cX12_chance 126 [(.aload_n 0, (0, 0, 0, 0, 0), 0, 0), (.getfield 161, (12, 75, 3, 145, 0), 0, 0), (.iload 7, (0, 0, 0, 0, 0), 0, 0), (.laload, (0, 0, 0, 0, 0), 0, 0), (.lconst 0, (0, 0, 0, 0, 0), 0, 0), (.lcmp, (0, 0, 0, 0, 0), 0, 0)] = some 135 ∧ px_t1 cX12_chance 135 .le 190 = true := by decide +kernel
theorem q_X12_chance_138 : px_bk 12 14 cX12_chance 138 [(.aload_n 0, (0, 0, 0, 0, 0), 0, 0), (.iload 7, (0, 0, 0, 0, 0), 0, 0), (.bipush 64, (0, 0, 0, 0, 0), 64, 0), (.isub, (0, 0, 0, 0, 0), 0, 0), (.iload 8, (0, 0, 0, 0, 0), 0, 0), (.iconst 1, (0, 0, 0, 0, 0), 1, 0), (.isub, (0, 0, 0, 0, 0), 0, 0), (.iload 6, (0, 0, 0, 0, 0), 0, 0)] = some 150 ∧ px_tv cX12_chance 150 465 = true := by decide +kernel
theorem q_X12_chance_153 : px_bk 12 14 cX12_chance 153 [(.bipush 64, (0, 0, 0, 0, 0), 64, 0), (.iadd, (0, 0, 0, 0, 0), 0, 0), (.istore 9, (0, 0, 0, 0, 0), 0, 0), (.aload_n 0, (0, 0, 0, 0, 0), 0, 0), (.getfield 164, (12, 76, 3, 146, 0), 0, 0), (.iload 9, (0, 0, 0, 0, 0), 0, 0), (.dup2, (0, 0, 0, 0, 0), 0, 0), (.laload, (0, 0, 0, 0, 0), 0, 0), (.aload_n 0, (0, 0, 0, 0, 0), 0, 0), (.getfield 161, (12, 75, 3, 145, 0), 0, 0), (.iload 7, (0, 0, 0, 0, 0), 0, 0), (.laload, (0, 0, 0, 0, 0), 0, 0), (.aload_n 0, (0, 0, 0, 0, 0), 0, 0), (.getfield 137, (12, 58, 3, 137, 0), 0, 0), (.iload 8, (0, 0, 0, 0, 0), 0, 0), (.iaload, (0, 0, 0, 0, 0), 0, 0), (.i2l, (0, 0, 0, 0, 0), 0, 0), (.lmul, (0, 0, 0, 0, 0), 0, 0), (.ladd, (0, 0, 0, 0, 0), 0, 0), (.lastore, (0, 0, 0, 0, 0), 0, 0), (.iinc 8 1, (0, 0, 0, 0, 0), 1, 0), (.goto (-67), (0, 0, 0, 0, 0), 0, 0)] = some 120 := by decide +kernel
set_option maxRecDepth 100000 in
theorem l_chance120 {n : Nat} {R : px_R} (hg : px_G n R) {Q : px_Q} (a o lo left k : Int32) (hk : 1 ≤ k ∧ k < 128) (all : Int64) {I : px_I} (hp : 0 ≤ I 103 60) (L : px_L) (hq : ∀ L2, mNL L L2 → px M_X12_chance 0 0 109 [(0, .ref 103), (1, .int a), (2, .int o), (3, .int lo), (4, .long all), (6, .int left), (7, .int (k + 1))] [] n I L2 R Q) : ∀ d : Int32, d ≤ 3 → 0 ≤ d → ∀ L1, mNL L L1 → px M_X12_chance 0 0 120 [(0, .ref 103), (1, .int a), (2, .int o), (3, .int lo), (4, .long all), (6, .int left), (7, .int k), (8, .int d)] [] n I L1 R Q := by
  refine px_up 3 (fun d ih hd => ?_)
  intro h0 L1 h1
  refine px_ige rfl q_X12_chance_120 hg rfl trivial (fun c123 => ?_) (fun c123 => ?_)
  · refine px_b rfl q_X12_chance_190 hg rfl trivial ?_
    exact px_go (hq _ h1) ⟨rfl, rfl, rfl, rfl, rfl, rfl, rfl, trivial⟩
  · refine px_lle rfl q_X12_chance_126 hg rfl ⟨trivial, (by first | decide | (refine ⟨?_, ?_⟩ <;> grind) | grind)⟩ (fun c135 => ?_) (fun c135 => ?_)
    · refine px_b rfl q_X12_chance_190 hg rfl trivial ?_
      exact px_go (hq _ h1) ⟨rfl, rfl, rfl, rfl, rfl, rfl, rfl, trivial⟩
    · refine px_cVP (ci := 12) rfl q_X12_chance_138 hg rfl trivial lk_12_465 nm_X12_off (k_off hg _ _ _ (by grind) (by grind) (by grind)) rfl rfl (px_lit hg rfl) rfl rfl rfl ⟨rfl, rfl⟩ ?_
      intro x150 h150
      refine px_b rfl q_X12_chance_153 hg rfl ⟨⟨⟨⟨trivial, (by first | decide | (refine ⟨?_, ?_⟩ <;> grind) | grind)⟩, (by first | decide | (refine ⟨?_, ?_⟩ <;> grind) | grind)⟩, (by first | decide | (refine ⟨?_, ?_⟩ <;> grind) | grind)⟩, (by first | decide | (refine ⟨?_, ?_⟩ <;> grind) | grind)⟩ ?_
      exact px_go (ih (d + 1) (by grind) (by grind) (by grind) _ (by first | exact h1 | exact h1.u5 _ _ | exact h1.u6 _ _)) ⟨rfl, rfl, rfl, rfl, rfl, rfl, rfl, rfl, trivial⟩

theorem q_X12_chance_109 : px_bk 12 14 cX12_chance 109 [(.iload 7, (0, 0, 0, 0, 0), 0, 0), (.sipush 128, (0, 0, 0, 0, 0), 128, 0)] = some 114 ∧ px_t2 cX12_chance 114 .ge 196 = true := by decide +kernel
theorem q_X12_chance_196 : px_bk 12 14 cX12_chance 196 [(.iconst 0, (0, 0, 0, 0, 0), 0, 0), (.istore 7, (0, 0, 0, 0, 0), 0, 0)] = some 199 := by decide +kernel
theorem q_X12_chance_117 : px_bk 12 14 cX12_chance 117 [(.iconst 0, (0, 0, 0, 0, 0), 0, 0), (.istore 8, (0, 0, 0, 0, 0), 0, 0)] = some 120 := by decide +kernel
set_option maxRecDepth 100000 in
theorem l_chance109 {n : Nat} {R : px_R} (hg : px_G n R) {Q : px_Q} (a o lo left : Int32) (all : Int64) {I : px_I} (hp : 0 ≤ I 103 60) (L : px_L) (hq : ∀ L2, mNL L L2 → px M_X12_chance 0 0 76 [(0, .ref 103), (1, .int a), (2, .int o), (3, .int lo), (4, .long (all * (I 137 0 + I 137 1 + I 137 2).toInt64)), (6, .int (left + -1))] [] n I L2 R Q) : ∀ k : Int32, k ≤ 128 → 1 ≤ k → ∀ L1, mNL L L1 → px M_X12_chance 0 0 109 [(0, .ref 103), (1, .int a), (2, .int o), (3, .int lo), (4, .long all), (6, .int left), (7, .int k)] [] n I L1 R Q := by
  refine px_up 128 (fun k ih hk => ?_)
  intro h0 L1 h1
  refine px_ige rfl q_X12_chance_109 hg rfl trivial (fun c114 => ?_) (fun c114 => ?_)
  · refine px_b rfl q_X12_chance_196 hg rfl trivial ?_
    exact px_go (l_chance199 hg a o lo left all L1 (fun L2 h2 => hq L2 (h1.trans h2)) 0 (by decide) (by decide) L1 (fun _ _ _ => rfl)) ⟨rfl, rfl, rfl, rfl, rfl, rfl, rfl, trivial⟩
  · refine px_b rfl q_X12_chance_117 hg rfl trivial ?_
    exact px_go (l_chance120 hg a o lo left k (by grind) all hp L1 (fun L2 h2 => ih (k + 1) (by grind) (by grind) (by grind) L2 (h1.trans h2)) 0 (by decide) (by decide) L1 (fun _ _ _ => rfl)) ⟨rfl, rfl, rfl, rfl, rfl, rfl, rfl, rfl, trivial⟩

theorem q_X12_chance_84 : px_bk 12 14 cX12_chance 84 [(.iload 7, (0, 0, 0, 0, 0), 0, 0), (.sipush 129, (0, 0, 0, 0, 0), 129, 0)] = some 89 ∧ px_t2 cX12_chance 89 .ge 106 = true := by decide +kernel
theorem q_X12_chance_106 : px_bk 12 14 cX12_chance 106 [(.iconst 1, (0, 0, 0, 0, 0), 1, 0), (.istore 7, (0, 0, 0, 0, 0), 0, 0)] = some 109 := by decide +kernel
theorem q_X12_chance_92 : px_bk 12 14 cX12_chance 92 [(.aload_n 0, (0, 0, 0, 0, 0), 0, 0), (.getfield 164, (12, 76, 3, 146, 0), 0, 0), (.iload 7, (0, 0, 0, 0, 0), 0, 0), (.lconst 0, (0, 0, 0, 0, 0), 0, 0), (.lastore, (0, 0, 0, 0, 0), 0, 0), (.iinc 7 1, (0, 0, 0, 0, 0), 1, 0), (.goto (-19), (0, 0, 0, 0, 0), 0, 0)] = some 84 := by decide +kernel
set_option maxRecDepth 100000 in
theorem l_chance84 {n : Nat} {R : px_R} (hg : px_G n R) {Q : px_Q} (a o lo left : Int32) (all : Int64) {I : px_I} (hp : 0 ≤ I 103 60) (L : px_L) (hq : ∀ L2, mNL L L2 → px M_X12_chance 0 0 76 [(0, .ref 103), (1, .int a), (2, .int o), (3, .int lo), (4, .long (all * (I 137 0 + I 137 1 + I 137 2).toInt64)), (6, .int (left + -1))] [] n I L2 R Q) : ∀ k : Int32, k ≤ 129 → 0 ≤ k → ∀ L1, mNL L L1 → px M_X12_chance 0 0 84 [(0, .ref 103), (1, .int a), (2, .int o), (3, .int lo), (4, .long all), (6, .int left), (7, .int k)] [] n I L1 R Q := by
  refine px_up 129 (fun k ih hk => ?_)
  intro h0 L1 h1
  refine px_ige rfl q_X12_chance_84 hg rfl trivial (fun c89 => ?_) (fun c89 => ?_)
  · refine px_b rfl q_X12_chance_106 hg rfl trivial ?_
    exact px_go (l_chance109 hg a o lo left all hp L1 (fun L2 h2 => hq L2 (h1.trans h2)) 1 (by decide) (by decide) L1 (fun _ _ _ => rfl)) ⟨rfl, rfl, rfl, rfl, rfl, rfl, rfl, trivial⟩
  · refine px_b rfl q_X12_chance_92 hg rfl ⟨trivial, (by first | decide | (refine ⟨?_, ?_⟩ <;> grind) | grind)⟩ ?_
    exact px_go (ih (k + 1) (by grind) (by grind) (by grind) _ (by first | exact h1 | exact h1.u5 _ _ | exact h1.u6 _ _)) ⟨rfl, rfl, rfl, rfl, rfl, rfl, rfl, trivial⟩

theorem q_X12_chance_76 : px_bk 12 14 cX12_chance 76 [(.iload 6, (0, 0, 0, 0, 0), 0, 0)] = some 78 ∧ px_t1 cX12_chance 78 .lt 259 = true := by decide +kernel
theorem q_X12_chance_259 : px_bk 12 14 cX12_chance 259 [(.lconst 0, (0, 0, 0, 0, 0), 0, 0), (.lstore 6, (0, 0, 0, 0, 0), 0, 0), (.iconst 0, (0, 0, 0, 0, 0), 0, 0), (.istore 8, (0, 0, 0, 0, 0), 0, 0)] = some 265 := by decide +kernel
theorem q_X12_chance_81 : px_bk 12 14 cX12_chance 81 [(.iconst 0, (0, 0, 0, 0, 0), 0, 0), (.istore 7, (0, 0, 0, 0, 0), 0, 0)] = some 84 := by decide +kernel
set_option maxRecDepth 100000 in
theorem l_chance76 {n : Nat} {R : px_R} (hg : px_G n R) {Q : px_Q} (a o lo : Int32) {I : px_I} (hW : mW I) (L : px_L) (hq : ∀ r L2, mNL L L2 → Q (some (.long r)) n I L2 R) : ∀ left : Int32, -1 ≤ left → left ≤ 11 → ∀ all L1, mAll left all → mNL L L1 → px M_X12_chance 0 0 76 [(0, .ref 103), (1, .int a), (2, .int o), (3, .int lo), (4, .long all), (6, .int left)] [] n I L1 R Q := by
  refine px_dn (-1) (fun left ih hl => ?_)
  intro h0 all L1 ha h1
  have hs := mW_s hW
  have hp : 0 ≤ I 103 60 := by unfold mW at hW; grind
  refine px_lt rfl q_X12_chance_76 hg rfl trivial (fun c78 => ?_) (fun c78 => ?_)
  · refine px_b rfl q_X12_chance_259 hg rfl trivial ?_
    exact px_go (l_chance265 hg a o lo all (mAll_ne ha) (fun r => hq r _ h1) 0 (by decide) (by decide) _) ⟨rfl, rfl, rfl, rfl, rfl, rfl, rfl, trivial⟩
  · refine px_b rfl q_X12_chance_81 hg rfl trivial ?_
    exact px_go (l_chance84 hg a o lo left all hp L1 (fun L2 h2 => ih (left + -1) (by grind) (by grind) (by grind) _ L2 (mAll_s (by grind) h0 hs.1 hs.2 ha) (h1.trans h2)) 0 (by decide) (by decide) L1 (fun _ _ _ => rfl)) ⟨rfl, rfl, rfl, rfl, rfl, rfl, rfl, trivial⟩

theorem q_X12_chance_33 : px_bk 12 14 cX12_chance 33 [(.iload 4, (0, 0, 0, 0, 0), 0, 0), (.sipush 129, (0, 0, 0, 0, 0), 129, 0)] = some 38 ∧ px_t2 cX12_chance 38 .ge 68 = true := by decide +kernel
theorem q_X12_chance_68 : px_bk 12 14 cX12_chance 68 [(.lconst 1, (0, 0, 0, 0, 0), 0, 1), (.lstore 4, (0, 0, 0, 0, 0), 0, 0), (.iload_n 1, (0, 0, 0, 0, 0), 0, 0), (.iconst 1, (0, 0, 0, 0, 0), 1, 0), (.isub, (0, 0, 0, 0, 0), 0, 0), (.istore 6, (0, 0, 0, 0, 0), 0, 0)] = some 76 := by decide +kernel
theorem q_X12_chance_41 : px_bk 12 14 cX12_chance 41 [(.aload_n 0, (0, 0, 0, 0, 0), 0, 0), (.getfield 161, (12, 75, 3, 145, 0), 0, 0), (.iload 4, (0, 0, 0, 0, 0), 0, 0), (.iload 4, (0, 0, 0, 0, 0), 0, 0), (.iload_n 2, (0, 0, 0, 0, 0), 0, 0), (.bipush 64, (0, 0, 0, 0, 0), 64, 0), (.iadd, (0, 0, 0, 0, 0), 0, 0)] = some 53 ∧ px_t2 cX12_chance 53 .ne 60 = true := by decide +kernel
theorem q_X12_chance_60 : px_bk 12 14 cX12_chance 60 [(.lconst 0, (0, 0, 0, 0, 0), 0, 0), (.lastore, (0, 0, 0, 0, 0), 0, 0), (.iinc 4 1, (0, 0, 0, 0, 0), 1, 0), (.goto (-32), (0, 0, 0, 0, 0), 0, 0)] = some 33 := by decide +kernel
theorem q_X12_chance_56 : px_bk 12 14 cX12_chance 56 [(.lconst 1, (0, 0, 0, 0, 0), 0, 1), (.goto 4, (0, 0, 0, 0, 0), 0, 0), (.lastore, (0, 0, 0, 0, 0), 0, 0), (.iinc 4 1, (0, 0, 0, 0, 0), 1, 0), (.goto (-32), (0, 0, 0, 0, 0), 0, 0)] = some 33 := by decide +kernel
set_option maxRecDepth 100000 in
theorem l_chance33 {n : Nat} {R : px_R} (hg : px_G n R) {Q : px_Q} (a o lo : Int32) (ha : 1 ≤ a ∧ a ≤ 12) {I : px_I} (hW : mW I) (L : px_L) (hq : ∀ r L2, mNL L L2 → Q (some (.long r)) n I L2 R) : ∀ k : Int32, k ≤ 129 → 0 ≤ k → ∀ L1, mNL L L1 → px M_X12_chance 0 0 33 [(0, .ref 103), (1, .int a), (2, .int o), (3, .int lo), (4, .int k)] [] n I L1 R Q := by
  refine px_up 129 (fun k ih hk => ?_)
  intro h0 L1 h1
  refine px_ige rfl q_X12_chance_33 hg rfl trivial (fun c38 => ?_) (fun c38 => ?_)
  · refine px_b rfl q_X12_chance_68 hg rfl trivial ?_
    exact px_go (l_chance76 hg a o lo hW L hq (a - 1) (by grind) (by grind) 1 L1 mAll_0 h1) ⟨rfl, rfl, rfl, rfl, rfl, rfl, trivial⟩
  · refine px_ine rfl q_X12_chance_41 hg rfl trivial (fun c53 => ?_) (fun c53 => ?_)
    · refine px_b rfl q_X12_chance_60 hg rfl ⟨trivial, (by first | decide | (refine ⟨?_, ?_⟩ <;> grind) | grind)⟩ ?_
      exact px_go (ih (k + 1) (by grind) (by grind) (by grind) _ (by first | exact h1 | exact h1.u5 _ _ | exact h1.u6 _ _)) ⟨rfl, rfl, rfl, rfl, rfl, trivial⟩
    · refine px_b rfl q_X12_chance_56 hg rfl ⟨trivial, (by first | decide | (refine ⟨?_, ?_⟩ <;> grind) | grind)⟩ ?_
      exact px_go (ih (k + 1) (by grind) (by grind) (by grind) _ (by first | exact h1 | exact h1.u5 _ _ | exact h1.u6 _ _)) ⟨rfl, rfl, rfl, rfl, rfl, trivial⟩

theorem q_X12_chance_0 : px_bk 12 14 cX12_chance 0 [(.iload_n 1, (0, 0, 0, 0, 0), 0, 0), (.i2l, (0, 0, 0, 0, 0), 0, 0), (.lconst 1, (0, 0, 0, 0, 0), 0, 1), (.ldc2_w 459, (0, 0, 0, 0, 0), 0, 12)] = some 6 ∧ px_tS cX12_chance 6 167 = true := by decide +kernel
theorem q_X12_chance_9 : px_bk 12 14 cX12_chance 9 [] = some 9 ∧ px_t1 cX12_chance 9 .eq 26 = true := by decide +kernel
theorem q_X12_chance_26 : px_bk 12 14 cX12_chance 26 [(.ldc2_w 463, (0, 0, 0, 0, 0), 0, -1)] = some 29 ∧ px_tr cX12_chance 29 .lreturn = true := by decide +kernel
theorem q_X12_chance_12 : px_bk 12 14 cX12_chance 12 [(.iload_n 2, (0, 0, 0, 0, 0), 0, 0), (.i2l, (0, 0, 0, 0, 0), 0, 0), (.ldc2_w 461, (0, 0, 0, 0, 0), 0, -20), (.ldc2_w 448, (0, 0, 0, 0, 0), 0, 20)] = some 20 ∧ px_tS cX12_chance 20 167 = true := by decide +kernel
theorem q_X12_chance_23 : px_bk 12 14 cX12_chance 23 [] = some 23 ∧ px_t1 cX12_chance 23 .ne 30 = true := by decide +kernel
theorem q_X12_chance_30 : px_bk 12 14 cX12_chance 30 [(.iconst 0, (0, 0, 0, 0, 0), 0, 0), (.istore 4, (0, 0, 0, 0, 0), 0, 0)] = some 33 := by decide +kernel
set_option maxRecDepth 100000 in
theorem k_chance {n : Nat} {I : px_I} {L : px_L} {R : px_R} (hg : px_G n R) (a o lo : Int32) (hW : mW I) : px_KT M_X12_chance [.ref 103, .int a, .int o, .int lo] n I L R (fun r I2 L2 => I2 = I ∧ mNL L L2) := by
  refine px_of (plainFor_of_name np_RX12) (fun _ _ _ => trivial) rfl ?_
  refine px_cSP rfl q_X12_chance_0 hg rfl trivial lk_12_167 nm_X12_in (k_inI hg _ (1) (12) (by decide) (by decide)) rfl rfl rfl ⟨rfl, rfl⟩ ?_
  intro x6 h6
  refine px_eq rfl q_X12_chance_9 hg rfl trivial (fun c9 => ?_) (fun c9 => ?_)
  · replace h6 := px_bf h6 c9
    refine px_rlT rfl q_X12_chance_26 rfl rfl rfl hg rfl trivial ⟨⟨rfl, rfl⟩, ?_⟩
    exact ⟨rfl, fun _ _ _ => rfl⟩
  · replace h6 := px_bt h6 c9
    refine px_cSP rfl q_X12_chance_12 hg rfl trivial lk_12_167 nm_X12_in (k_inI hg _ (-20) (20) (by decide) (by decide)) rfl rfl rfl ⟨rfl, rfl⟩ ?_
    intro x20 h20
    refine px_ne rfl q_X12_chance_23 hg rfl trivial (fun c23 => ?_) (fun c23 => ?_)
    · replace h20 := px_bt h20 c23
      refine px_b rfl q_X12_chance_30 hg rfl trivial ?_
      exact px_go (l_chance33 hg a o lo (by grind) hW L (fun r L2 h => ⟨rfl, rfl, r, rfl, rfl, h⟩) 0 (by decide) (by decide) L (fun _ _ _ => rfl)) ⟨rfl, rfl, rfl, rfl, rfl, trivial⟩
    · replace h20 := px_bf h20 c23
      refine px_rlT rfl q_X12_chance_26 rfl rfl rfl hg rfl trivial ⟨⟨rfl, rfl⟩, ?_⟩
      exact ⟨rfl, fun _ _ _ => rfl⟩

theorem q_X12_detour_334 : px_bk 12 11 cX12_detour 334 [(.iload 6, (0, 0, 0, 0, 0), 0, 0), (.bipush 64, (0, 0, 0, 0, 0), 64, 0), (.aload_n 0, (0, 0, 0, 0, 0), 0, 0), (.getfield 456, (12, 61, 0, 0, 0), 0, 0), (.iadd, (0, 0, 0, 0, 0), 0, 0)] = some 343 ∧ px_t2 cX12_detour 343 .gt 418 = true := by decide +kernel
theorem q_X12_detour_418 : px_bk 12 11 cX12_detour 418 [(.lload 4, (0, 0, 0, 0, 0), 0, 0), (.l2i, (0, 0, 0, 0, 0), 0, 0)] = some 421 ∧ px_tr cX12_detour 421 .ireturn = true := by decide +kernel
theorem q_X12_detour_346 : px_bk 12 11 cX12_detour 346 [(.aload_n 0, (0, 0, 0, 0, 0), 0, 0), (.getfield 161, (12, 75, 3, 145, 0), 0, 0), (.iload 6, (0, 0, 0, 0, 0), 0, 0), (.laload, (0, 0, 0, 0, 0), 0, 0), (.lconst 0, (0, 0, 0, 0, 0), 0, 0), (.lcmp, (0, 0, 0, 0, 0), 0, 0)] = some 355 ∧ px_t1 cX12_detour 355 .lt 408 = true := by decide +kernel
theorem q_X12_detour_408 : px_bk 12 11 cX12_detour 408 [(.lload 4, (0, 0, 0, 0, 0), 0, 0), (.lstore 4, (0, 0, 0, 0, 0), 0, 0), (.iinc 6 1, (0, 0, 0, 0, 0), 1, 0), (.goto (-81), (0, 0, 0, 0, 0), 0, 0)] = some 334 := by decide +kernel
theorem q_X12_detour_358 : px_bk 12 11 cX12_detour 358 [(.lload 4, (0, 0, 0, 0, 0), 0, 0), (.lconst 0, (0, 0, 0, 0, 0), 0, 0), (.lcmp, (0, 0, 0, 0, 0), 0, 0)] = some 362 ∧ px_t1 cX12_detour 362 .lt 398 = true := by decide +kernel
theorem q_X12_detour_398 : px_bk 12 11 cX12_detour 398 [(.aload_n 0, (0, 0, 0, 0, 0), 0, 0), (.getfield 161, (12, 75, 3, 145, 0), 0, 0), (.iload 6, (0, 0, 0, 0, 0), 0, 0), (.laload, (0, 0, 0, 0, 0), 0, 0), (.goto 5, (0, 0, 0, 0, 0), 0, 0), (.lstore 4, (0, 0, 0, 0, 0), 0, 0), (.iinc 6 1, (0, 0, 0, 0, 0), 1, 0), (.goto (-81), (0, 0, 0, 0, 0), 0, 0)] = some 334 := by decide +kernel
theorem q_X12_detour_365 : px_bk 12 11 cX12_detour 365 [(.iload_n 3, (0, 0, 0, 0, 0), 0, 0)] = some 366 ∧ px_t1 cX12_detour 366 .eq 385 = true := by decide +kernel
theorem q_X12_detour_385 : px_bk 12 11 cX12_detour 385 [(.aload_n 0, (0, 0, 0, 0, 0), 0, 0), (.getfield 161, (12, 75, 3, 145, 0), 0, 0), (.iload 6, (0, 0, 0, 0, 0), 0, 0), (.laload, (0, 0, 0, 0, 0), 0, 0), (.lload 4, (0, 0, 0, 0, 0), 0, 0), (.lcmp, (0, 0, 0, 0, 0), 0, 0)] = some 395 ∧ px_t1 cX12_detour 395 .ge 408 = true := by decide +kernel
theorem q_X12_detour_369 : px_bk 12 11 cX12_detour 369 [(.aload_n 0, (0, 0, 0, 0, 0), 0, 0), (.getfield 161, (12, 75, 3, 145, 0), 0, 0), (.iload 6, (0, 0, 0, 0, 0), 0, 0), (.laload, (0, 0, 0, 0, 0), 0, 0), (.lload 4, (0, 0, 0, 0, 0), 0, 0), (.lcmp, (0, 0, 0, 0, 0), 0, 0)] = some 379 ∧ px_t1 cX12_detour 379 .le 408 = true := by decide +kernel
theorem q_X12_detour_382 : px_bk 12 11 cX12_detour 382 [(.goto 16, (0, 0, 0, 0, 0), 0, 0), (.aload_n 0, (0, 0, 0, 0, 0), 0, 0), (.getfield 161, (12, 75, 3, 145, 0), 0, 0), (.iload 6, (0, 0, 0, 0, 0), 0, 0), (.laload, (0, 0, 0, 0, 0), 0, 0), (.goto 5, (0, 0, 0, 0, 0), 0, 0), (.lstore 4, (0, 0, 0, 0, 0), 0, 0), (.iinc 6 1, (0, 0, 0, 0, 0), 1, 0), (.goto (-81), (0, 0, 0, 0, 0), 0, 0)] = some 334 := by decide +kernel
set_option maxRecDepth 100000 in
theorem l_detour334 {n : Nat} {R : px_R} (hg : px_G n R) {Q : px_Q} (a o lo : Int32) {I : px_I} {L : px_L} (hw : 0 ≤ I 103 61 ∧ I 103 61 ≤ 20) (hq : ∀ r, Q (some (.int r)) n I L R) : ∀ k : Int32, k ≤ 64 + I 103 61 + 1 → 0 ≤ k → ∀ m : Int64, px M_X12_detour 0 0 334 [(0, .ref 103), (1, .int a), (2, .int o), (3, .int lo), (4, .long m), (6, .int k)] [] n I L R Q := by
  refine px_up _ (fun k ih hk => ?_)
  intro h0 m
  refine px_igt rfl q_X12_detour_334 hg rfl trivial (fun c343 => ?_) (fun c343 => ?_)
  · refine px_ri rfl q_X12_detour_418 rfl rfl rfl hg rfl trivial ?_
    exact hq _
  · refine px_llt rfl q_X12_detour_346 hg rfl ⟨trivial, (by first | decide | (refine ⟨?_, ?_⟩ <;> grind) | grind)⟩ (fun c355 => ?_) (fun c355 => ?_)
    · refine px_b rfl q_X12_detour_408 hg rfl trivial ?_
      exact px_go (ih (k + 1) (by grind) (by grind) (by grind) _) ⟨rfl, rfl, rfl, rfl, rfl, rfl, trivial⟩
    · refine px_llt rfl q_X12_detour_358 hg rfl trivial (fun c362 => ?_) (fun c362 => ?_)
      · refine px_b rfl q_X12_detour_398 hg rfl ⟨trivial, (by first | decide | (refine ⟨?_, ?_⟩ <;> grind) | grind)⟩ ?_
        exact px_go (ih (k + 1) (by grind) (by grind) (by grind) _) ⟨rfl, rfl, rfl, rfl, rfl, rfl, trivial⟩
      · refine px_eq rfl q_X12_detour_365 hg rfl trivial (fun c366 => ?_) (fun c366 => ?_)
        · refine px_lge rfl q_X12_detour_385 hg rfl ⟨trivial, (by first | decide | (refine ⟨?_, ?_⟩ <;> grind) | grind)⟩ (fun c395 => ?_) (fun c395 => ?_)
          · refine px_b rfl q_X12_detour_408 hg rfl trivial ?_
            exact px_go (ih (k + 1) (by grind) (by grind) (by grind) _) ⟨rfl, rfl, rfl, rfl, rfl, rfl, trivial⟩
          · refine px_b rfl q_X12_detour_398 hg rfl ⟨trivial, (by first | decide | (refine ⟨?_, ?_⟩ <;> grind) | grind)⟩ ?_
            exact px_go (ih (k + 1) (by grind) (by grind) (by grind) _) ⟨rfl, rfl, rfl, rfl, rfl, rfl, trivial⟩
        · refine px_lle rfl q_X12_detour_369 hg rfl ⟨trivial, (by first | decide | (refine ⟨?_, ?_⟩ <;> grind) | grind)⟩ (fun c379 => ?_) (fun c379 => ?_)
          · refine px_b rfl q_X12_detour_408 hg rfl trivial ?_
            exact px_go (ih (k + 1) (by grind) (by grind) (by grind) _) ⟨rfl, rfl, rfl, rfl, rfl, rfl, trivial⟩
          · refine px_b rfl q_X12_detour_382 hg rfl ⟨trivial, (by first | decide | (refine ⟨?_, ?_⟩ <;> grind) | grind)⟩ ?_
            exact px_go (ih (k + 1) (by grind) (by grind) (by grind) _) ⟨rfl, rfl, rfl, rfl, rfl, rfl, trivial⟩

theorem q_X12_detour_286 : px_bk 12 11 cX12_detour 286 [(.iload 5, (0, 0, 0, 0, 0), 0, 0), (.sipush 129, (0, 0, 0, 0, 0), 129, 0)] = some 291 ∧ px_t2 cX12_detour 291 .ge 314 = true := by decide +kernel
theorem q_X12_detour_314 : px_bk 12 11 cX12_detour 314 [(.iinc 4 (-1), (0, 0, 0, 0, 0), -1, 0), (.goto (-244), (0, 0, 0, 0, 0), 0, 0)] = some 73 := by decide +kernel
theorem q_X12_detour_294 : px_bk 12 11 cX12_detour 294 [(.aload_n 0, (0, 0, 0, 0, 0), 0, 0), (.getfield 161, (12, 75, 3, 145, 0), 0, 0), (.iload 5, (0, 0, 0, 0, 0), 0, 0), (.aload_n 0, (0, 0, 0, 0, 0), 0, 0), (.getfield 164, (12, 76, 3, 146, 0), 0, 0), (.iload 5, (0, 0, 0, 0, 0), 0, 0), (.laload, (0, 0, 0, 0, 0), 0, 0), (.lastore, (0, 0, 0, 0, 0), 0, 0), (.iinc 5 1, (0, 0, 0, 0, 0), 1, 0), (.goto (-25), (0, 0, 0, 0, 0), 0, 0)] = some 286 := by decide +kernel
set_option maxRecDepth 100000 in
theorem l_detour286 {n : Nat} {R : px_R} (hg : px_G n R) {Q : px_Q} (a o lo left : Int32) {I : px_I} (L : px_L) (hq : ∀ L2, mNL L L2 → px M_X12_detour 0 0 73 [(0, .ref 103), (1, .int a), (2, .int o), (3, .int lo), (4, .int (left + -1))] [] n I L2 R Q) : ∀ k : Int32, k ≤ 129 → 0 ≤ k → ∀ L1, mNL L L1 → px M_X12_detour 0 0 286 [(0, .ref 103), (1, .int a), (2, .int o), (3, .int lo), (4, .int left), (5, .int k)] [] n I L1 R Q := by
  refine px_up 129 (fun k ih hk => ?_)
  intro h0 L1 h1
  refine px_ige rfl q_X12_detour_286 hg rfl trivial (fun c291 => ?_) (fun c291 => ?_)
  · refine px_b rfl q_X12_detour_314 hg rfl trivial ?_
    exact px_go (hq _ h1) ⟨rfl, rfl, rfl, rfl, rfl, trivial⟩
  · refine px_b rfl q_X12_detour_294 hg rfl ⟨⟨trivial, (by first | decide | (refine ⟨?_, ?_⟩ <;> grind) | grind)⟩, (by first | decide | (refine ⟨?_, ?_⟩ <;> grind) | grind)⟩ ?_
    exact px_go (ih (k + 1) (by grind) (by grind) (by grind) _ (by first | exact h1 | exact h1.u5 _ _ | exact h1.u6 _ _)) ⟨rfl, rfl, rfl, rfl, rfl, rfl, trivial⟩

theorem q_X12_detour_119 : px_bk 12 11 cX12_detour 119 [(.iload 6, (0, 0, 0, 0, 0), 0, 0), (.iconst 3, (0, 0, 0, 0, 0), 3, 0)] = some 122 ∧ px_t2 cX12_detour 122 .ge 277 = true := by decide +kernel
theorem q_X12_detour_277 : px_bk 12 11 cX12_detour 277 [(.iinc 5 1, (0, 0, 0, 0, 0), 1, 0), (.goto (-172), (0, 0, 0, 0, 0), 0, 0)] = some 108 := by decide +kernel
theorem q_X12_detour_125 : px_bk 12 11 cX12_detour 125 [(.aload_n 0, (0, 0, 0, 0, 0), 0, 0), (.getfield 161, (12, 75, 3, 145, 0), 0, 0), (.iload 5, (0, 0, 0, 0, 0), 0, 0), (.laload, (0, 0, 0, 0, 0), 0, 0), (.lconst 0, (0, 0, 0, 0, 0), 0, 0), (.lcmp, (0, 0, 0, 0, 0), 0, 0)] = some 134 ∧ px_t1 cX12_detour 134 .lt 277 = true := by decide +kernel
theorem q_X12_detour_137 : px_bk 12 11 cX12_detour 137 [(.aload_n 0, (0, 0, 0, 0, 0), 0, 0), (.iload 5, (0, 0, 0, 0, 0), 0, 0), (.bipush 64, (0, 0, 0, 0, 0), 64, 0), (.isub, (0, 0, 0, 0, 0), 0, 0), (.iload 6, (0, 0, 0, 0, 0), 0, 0), (.iconst 1, (0, 0, 0, 0, 0), 1, 0), (.isub, (0, 0, 0, 0, 0), 0, 0), (.iload 4, (0, 0, 0, 0, 0), 0, 0)] = some 149 ∧ px_tv cX12_detour 149 465 = true := by decide +kernel
theorem q_X12_detour_152 : px_bk 12 11 cX12_detour 152 [(.istore 7, (0, 0, 0, 0, 0), 0, 0), (.aload_n 0, (0, 0, 0, 0, 0), 0, 0), (.getfield 161, (12, 75, 3, 145, 0), 0, 0), (.iload 5, (0, 0, 0, 0, 0), 0, 0), (.laload, (0, 0, 0, 0, 0), 0, 0), (.iload 7, (0, 0, 0, 0, 0), 0, 0)] = some 163 ∧ px_tS cX12_detour 163 385 = true := by decide +kernel
theorem q_X12_detour_166 : px_bk 12 11 cX12_detour 166 [(.i2l, (0, 0, 0, 0, 0), 0, 0), (.ladd, (0, 0, 0, 0, 0), 0, 0), (.lstore 8, (0, 0, 0, 0, 0), 0, 0), (.aload_n 0, (0, 0, 0, 0, 0), 0, 0), (.getfield 164, (12, 76, 3, 146, 0), 0, 0), (.iload 7, (0, 0, 0, 0, 0), 0, 0), (.bipush 64, (0, 0, 0, 0, 0), 64, 0), (.iadd, (0, 0, 0, 0, 0), 0, 0), (.laload, (0, 0, 0, 0, 0), 0, 0), (.lconst 0, (0, 0, 0, 0, 0), 0, 0), (.lcmp, (0, 0, 0, 0, 0), 0, 0)] = some 182 ∧ px_t1 cX12_detour 182 .lt 224 = true := by decide +kernel
theorem q_X12_detour_224 : px_bk 12 11 cX12_detour 224 [(.iconst 1, (0, 0, 0, 0, 0), 1, 0), (.goto 4, (0, 0, 0, 0, 0), 0, 0), (.istore 10, (0, 0, 0, 0, 0), 0, 0), (.aload_n 0, (0, 0, 0, 0, 0), 0, 0), (.getfield 164, (12, 76, 3, 146, 0), 0, 0), (.iload 7, (0, 0, 0, 0, 0), 0, 0), (.bipush 64, (0, 0, 0, 0, 0), 64, 0), (.iadd, (0, 0, 0, 0, 0), 0, 0), (.aload_n 0, (0, 0, 0, 0, 0), 0, 0), (.getfield 137, (12, 58, 3, 137, 0), 0, 0), (.iload 6, (0, 0, 0, 0, 0), 0, 0), (.iaload, (0, 0, 0, 0, 0), 0, 0)] = some 247 ∧ px_t1 cX12_detour 247 .le 260 = true := by decide +kernel
theorem q_X12_detour_260 : px_bk 12 11 cX12_detour 260 [(.aload_n 0, (0, 0, 0, 0, 0), 0, 0), (.getfield 164, (12, 76, 3, 146, 0), 0, 0), (.iload 7, (0, 0, 0, 0, 0), 0, 0), (.bipush 64, (0, 0, 0, 0, 0), 64, 0), (.iadd, (0, 0, 0, 0, 0), 0, 0), (.laload, (0, 0, 0, 0, 0), 0, 0), (.lastore, (0, 0, 0, 0, 0), 0, 0), (.iinc 6 1, (0, 0, 0, 0, 0), 1, 0), (.goto (-155), (0, 0, 0, 0, 0), 0, 0)] = some 119 := by decide +kernel
theorem q_X12_detour_250 : px_bk 12 11 cX12_detour 250 [(.iload 10, (0, 0, 0, 0, 0), 0, 0)] = some 252 ∧ px_t1 cX12_detour 252 .eq 260 = true := by decide +kernel
theorem q_X12_detour_255 : px_bk 12 11 cX12_detour 255 [(.lload 8, (0, 0, 0, 0, 0), 0, 0), (.goto 13, (0, 0, 0, 0, 0), 0, 0), (.lastore, (0, 0, 0, 0, 0), 0, 0), (.iinc 6 1, (0, 0, 0, 0, 0), 1, 0), (.goto (-155), (0, 0, 0, 0, 0), 0, 0)] = some 119 := by decide +kernel
theorem q_X12_detour_185 : px_bk 12 11 cX12_detour 185 [(.iload_n 3, (0, 0, 0, 0, 0), 0, 0)] = some 186 ∧ px_t1 cX12_detour 186 .eq 208 = true := by decide +kernel
theorem q_X12_detour_208 : px_bk 12 11 cX12_detour 208 [(.lload 8, (0, 0, 0, 0, 0), 0, 0), (.aload_n 0, (0, 0, 0, 0, 0), 0, 0), (.getfield 164, (12, 76, 3, 146, 0), 0, 0), (.iload 7, (0, 0, 0, 0, 0), 0, 0), (.bipush 64, (0, 0, 0, 0, 0), 64, 0), (.iadd, (0, 0, 0, 0, 0), 0, 0), (.laload, (0, 0, 0, 0, 0), 0, 0), (.lcmp, (0, 0, 0, 0, 0), 0, 0)] = some 221 ∧ px_t1 cX12_detour 221 .ge 228 = true := by decide +kernel
theorem q_X12_detour_228 : px_bk 12 11 cX12_detour 228 [(.iconst 0, (0, 0, 0, 0, 0), 0, 0), (.istore 10, (0, 0, 0, 0, 0), 0, 0), (.aload_n 0, (0, 0, 0, 0, 0), 0, 0), (.getfield 164, (12, 76, 3, 146, 0), 0, 0), (.iload 7, (0, 0, 0, 0, 0), 0, 0), (.bipush 64, (0, 0, 0, 0, 0), 64, 0), (.iadd, (0, 0, 0, 0, 0), 0, 0), (.aload_n 0, (0, 0, 0, 0, 0), 0, 0), (.getfield 137, (12, 58, 3, 137, 0), 0, 0), (.iload 6, (0, 0, 0, 0, 0), 0, 0), (.iaload, (0, 0, 0, 0, 0), 0, 0)] = some 247 ∧ px_t1 cX12_detour 247 .le 260 = true := by decide +kernel
theorem q_X12_detour_189 : px_bk 12 11 cX12_detour 189 [(.lload 8, (0, 0, 0, 0, 0), 0, 0), (.aload_n 0, (0, 0, 0, 0, 0), 0, 0), (.getfield 164, (12, 76, 3, 146, 0), 0, 0), (.iload 7, (0, 0, 0, 0, 0), 0, 0), (.bipush 64, (0, 0, 0, 0, 0), 64, 0), (.iadd, (0, 0, 0, 0, 0), 0, 0), (.laload, (0, 0, 0, 0, 0), 0, 0), (.lcmp, (0, 0, 0, 0, 0), 0, 0)] = some 202 ∧ px_t1 cX12_detour 202 .le 228 = true := by decide +kernel
theorem q_X12_detour_205 : px_bk 12 11 cX12_detour 205 [(.goto 19, (0, 0, 0, 0, 0), 0, 0), (.iconst 1, (0, 0, 0, 0, 0), 1, 0), (.goto 4, (0, 0, 0, 0, 0), 0, 0), (.istore 10, (0, 0, 0, 0, 0), 0, 0), (.aload_n 0, (0, 0, 0, 0, 0), 0, 0), (.getfield 164, (12, 76, 3, 146, 0), 0, 0), (.iload 7, (0, 0, 0, 0, 0), 0, 0), (.bipush 64, (0, 0, 0, 0, 0), 64, 0), (.iadd, (0, 0, 0, 0, 0), 0, 0), (.aload_n 0, (0, 0, 0, 0, 0), 0, 0), (.getfield 137, (12, 58, 3, 137, 0), 0, 0), (.iload 6, (0, 0, 0, 0, 0), 0, 0), (.iaload, (0, 0, 0, 0, 0), 0, 0)] = some 247 ∧ px_t1 cX12_detour 247 .le 260 = true := by decide +kernel
set_option maxRecDepth 100000 in
theorem l_detour119 {n : Nat} {R : px_R} (hg : px_G n R) {Q : px_Q} (a o lo left k : Int32) (hk : 1 ≤ k ∧ k < 128) {I : px_I} (hp : 0 ≤ I 103 60) (L : px_L) (hq : ∀ L2, mNL L L2 → px M_X12_detour 0 0 108 [(0, .ref 103), (1, .int a), (2, .int o), (3, .int lo), (4, .int left), (5, .int (k + 1))] [] n I L2 R Q) : ∀ d : Int32, d ≤ 3 → 0 ≤ d → ∀ L1, mNL L L1 → px M_X12_detour 0 0 119 [(0, .ref 103), (1, .int a), (2, .int o), (3, .int lo), (4, .int left), (5, .int k), (6, .int d)] [] n I L1 R Q := by
  refine px_up 3 (fun d ih hd => ?_)
  intro h0 L1 h1
  refine px_ige rfl q_X12_detour_119 hg rfl trivial (fun c122 => ?_) (fun c122 => ?_)
  · refine px_b rfl q_X12_detour_277 hg rfl trivial ?_
    exact px_go (hq _ h1) ⟨rfl, rfl, rfl, rfl, rfl, rfl, trivial⟩
  · refine px_llt rfl q_X12_detour_125 hg rfl ⟨trivial, (by first | with_reducible assumption | decide | (refine ⟨?_, ?_⟩ <;> grind))⟩ (fun c134 => ?_) (fun c134 => ?_)
    · refine px_b rfl q_X12_detour_277 hg rfl trivial ?_
      exact px_go (hq _ h1) ⟨rfl, rfl, rfl, rfl, rfl, rfl, trivial⟩
    · refine px_cVP (ci := 12) rfl q_X12_detour_137 hg rfl trivial lk_12_465 nm_X12_off (k_off hg _ _ _ (by grind) (by grind) (by grind)) rfl rfl (px_lit hg rfl) rfl rfl rfl ⟨rfl, rfl⟩ ?_
      intro x149 h149
      obtain ⟨z1, z2⟩ := h149
      have z3 : 0 ≤ x149 + 64 ∧ x149 + 64 < 129 := ⟨by grind, by grind⟩
      refine px_cSP rfl q_X12_detour_152 hg rfl ⟨trivial, (by first | with_reducible assumption | decide | (refine ⟨?_, ?_⟩ <;> grind))⟩ lk_12_385 nm_X12_size (k_size hg _) rfl rfl rfl ⟨rfl, rfl⟩ ?_
      intro x163 h163
      refine px_llt rfl q_X12_detour_166 hg rfl ⟨trivial, (by first | with_reducible assumption | decide | (refine ⟨?_, ?_⟩ <;> grind))⟩ (fun c182 => ?_) (fun c182 => ?_)
      · refine px_le rfl q_X12_detour_224 hg rfl ⟨trivial, (by first | with_reducible assumption | decide | (refine ⟨?_, ?_⟩ <;> grind))⟩ (fun c247 => ?_) (fun c247 => ?_)
        · refine px_b rfl q_X12_detour_260 hg rfl ⟨⟨trivial, (by first | with_reducible assumption | decide | (refine ⟨?_, ?_⟩ <;> grind))⟩, (by first | with_reducible assumption | decide | (refine ⟨?_, ?_⟩ <;> grind))⟩ ?_
          exact px_go (ih (d + 1) (by grind) (by grind) (by grind) _ (by first | exact h1 | exact h1.u5 _ _ | exact h1.u6 _ _)) ⟨rfl, rfl, rfl, rfl, rfl, rfl, rfl, trivial⟩
        · refine px_eq rfl q_X12_detour_250 hg rfl trivial (fun c252 => ?_) (fun c252 => ?_)
          · refine px_b rfl q_X12_detour_260 hg rfl ⟨⟨trivial, (by first | with_reducible assumption | decide | (refine ⟨?_, ?_⟩ <;> grind))⟩, (by first | with_reducible assumption | decide | (refine ⟨?_, ?_⟩ <;> grind))⟩ ?_
            exact px_go (ih (d + 1) (by grind) (by grind) (by grind) _ (by first | exact h1 | exact h1.u5 _ _ | exact h1.u6 _ _)) ⟨rfl, rfl, rfl, rfl, rfl, rfl, rfl, trivial⟩
          · refine px_b rfl q_X12_detour_255 hg rfl ⟨trivial, (by first | with_reducible assumption | decide | (refine ⟨?_, ?_⟩ <;> grind))⟩ ?_
            exact px_go (ih (d + 1) (by grind) (by grind) (by grind) _ (by first | exact h1 | exact h1.u5 _ _ | exact h1.u6 _ _)) ⟨rfl, rfl, rfl, rfl, rfl, rfl, rfl, trivial⟩
      · refine px_eq rfl q_X12_detour_185 hg rfl trivial (fun c186 => ?_) (fun c186 => ?_)
        · refine px_lge rfl q_X12_detour_208 hg rfl ⟨trivial, (by first | with_reducible assumption | decide | (refine ⟨?_, ?_⟩ <;> grind))⟩ (fun c221 => ?_) (fun c221 => ?_)
          · refine px_le rfl q_X12_detour_228 hg rfl ⟨trivial, (by first | with_reducible assumption | decide | (refine ⟨?_, ?_⟩ <;> grind))⟩ (fun c247 => ?_) (fun c247 => ?_)
            · refine px_b rfl q_X12_detour_260 hg rfl ⟨⟨trivial, (by first | with_reducible assumption | decide | (refine ⟨?_, ?_⟩ <;> grind))⟩, (by first | with_reducible assumption | decide | (refine ⟨?_, ?_⟩ <;> grind))⟩ ?_
              exact px_go (ih (d + 1) (by grind) (by grind) (by grind) _ (by first | exact h1 | exact h1.u5 _ _ | exact h1.u6 _ _)) ⟨rfl, rfl, rfl, rfl, rfl, rfl, rfl, trivial⟩
            · refine px_eq rfl q_X12_detour_250 hg rfl trivial (fun c252 => ?_) (fun c252 => ?_)
              · refine px_b rfl q_X12_detour_260 hg rfl ⟨⟨trivial, (by first | with_reducible assumption | decide | (refine ⟨?_, ?_⟩ <;> grind))⟩, (by first | with_reducible assumption | decide | (refine ⟨?_, ?_⟩ <;> grind))⟩ ?_
                exact px_go (ih (d + 1) (by grind) (by grind) (by grind) _ (by first | exact h1 | exact h1.u5 _ _ | exact h1.u6 _ _)) ⟨rfl, rfl, rfl, rfl, rfl, rfl, rfl, trivial⟩
              · refine px_b rfl q_X12_detour_255 hg rfl ⟨trivial, (by first | with_reducible assumption | decide | (refine ⟨?_, ?_⟩ <;> grind))⟩ ?_
                exact px_go (ih (d + 1) (by grind) (by grind) (by grind) _ (by first | exact h1 | exact h1.u5 _ _ | exact h1.u6 _ _)) ⟨rfl, rfl, rfl, rfl, rfl, rfl, rfl, trivial⟩
          · refine px_le rfl q_X12_detour_224 hg rfl ⟨trivial, (by first | with_reducible assumption | decide | (refine ⟨?_, ?_⟩ <;> grind))⟩ (fun c247 => ?_) (fun c247 => ?_)
            · refine px_b rfl q_X12_detour_260 hg rfl ⟨⟨trivial, (by first | with_reducible assumption | decide | (refine ⟨?_, ?_⟩ <;> grind))⟩, (by first | with_reducible assumption | decide | (refine ⟨?_, ?_⟩ <;> grind))⟩ ?_
              exact px_go (ih (d + 1) (by grind) (by grind) (by grind) _ (by first | exact h1 | exact h1.u5 _ _ | exact h1.u6 _ _)) ⟨rfl, rfl, rfl, rfl, rfl, rfl, rfl, trivial⟩
            · refine px_eq rfl q_X12_detour_250 hg rfl trivial (fun c252 => ?_) (fun c252 => ?_)
              · refine px_b rfl q_X12_detour_260 hg rfl ⟨⟨trivial, (by first | with_reducible assumption | decide | (refine ⟨?_, ?_⟩ <;> grind))⟩, (by first | with_reducible assumption | decide | (refine ⟨?_, ?_⟩ <;> grind))⟩ ?_
                exact px_go (ih (d + 1) (by grind) (by grind) (by grind) _ (by first | exact h1 | exact h1.u5 _ _ | exact h1.u6 _ _)) ⟨rfl, rfl, rfl, rfl, rfl, rfl, rfl, trivial⟩
              · refine px_b rfl q_X12_detour_255 hg rfl ⟨trivial, (by first | with_reducible assumption | decide | (refine ⟨?_, ?_⟩ <;> grind))⟩ ?_
                exact px_go (ih (d + 1) (by grind) (by grind) (by grind) _ (by first | exact h1 | exact h1.u5 _ _ | exact h1.u6 _ _)) ⟨rfl, rfl, rfl, rfl, rfl, rfl, rfl, trivial⟩
        · refine px_lle rfl q_X12_detour_189 hg rfl ⟨trivial, (by first | with_reducible assumption | decide | (refine ⟨?_, ?_⟩ <;> grind))⟩ (fun c202 => ?_) (fun c202 => ?_)
          · refine px_le rfl q_X12_detour_228 hg rfl ⟨trivial, (by first | with_reducible assumption | decide | (refine ⟨?_, ?_⟩ <;> grind))⟩ (fun c247 => ?_) (fun c247 => ?_)
            · refine px_b rfl q_X12_detour_260 hg rfl ⟨⟨trivial, (by first | with_reducible assumption | decide | (refine ⟨?_, ?_⟩ <;> grind))⟩, (by first | with_reducible assumption | decide | (refine ⟨?_, ?_⟩ <;> grind))⟩ ?_
              exact px_go (ih (d + 1) (by grind) (by grind) (by grind) _ (by first | exact h1 | exact h1.u5 _ _ | exact h1.u6 _ _)) ⟨rfl, rfl, rfl, rfl, rfl, rfl, rfl, trivial⟩
            · refine px_eq rfl q_X12_detour_250 hg rfl trivial (fun c252 => ?_) (fun c252 => ?_)
              · refine px_b rfl q_X12_detour_260 hg rfl ⟨⟨trivial, (by first | with_reducible assumption | decide | (refine ⟨?_, ?_⟩ <;> grind))⟩, (by first | with_reducible assumption | decide | (refine ⟨?_, ?_⟩ <;> grind))⟩ ?_
                exact px_go (ih (d + 1) (by grind) (by grind) (by grind) _ (by first | exact h1 | exact h1.u5 _ _ | exact h1.u6 _ _)) ⟨rfl, rfl, rfl, rfl, rfl, rfl, rfl, trivial⟩
              · refine px_b rfl q_X12_detour_255 hg rfl ⟨trivial, (by first | with_reducible assumption | decide | (refine ⟨?_, ?_⟩ <;> grind))⟩ ?_
                exact px_go (ih (d + 1) (by grind) (by grind) (by grind) _ (by first | exact h1 | exact h1.u5 _ _ | exact h1.u6 _ _)) ⟨rfl, rfl, rfl, rfl, rfl, rfl, rfl, trivial⟩
          · refine px_le rfl q_X12_detour_205 hg rfl ⟨trivial, (by first | with_reducible assumption | decide | (refine ⟨?_, ?_⟩ <;> grind))⟩ (fun c247 => ?_) (fun c247 => ?_)
            · refine px_b rfl q_X12_detour_260 hg rfl ⟨⟨trivial, (by first | with_reducible assumption | decide | (refine ⟨?_, ?_⟩ <;> grind))⟩, (by first | with_reducible assumption | decide | (refine ⟨?_, ?_⟩ <;> grind))⟩ ?_
              exact px_go (ih (d + 1) (by grind) (by grind) (by grind) _ (by first | exact h1 | exact h1.u5 _ _ | exact h1.u6 _ _)) ⟨rfl, rfl, rfl, rfl, rfl, rfl, rfl, trivial⟩
            · refine px_eq rfl q_X12_detour_250 hg rfl trivial (fun c252 => ?_) (fun c252 => ?_)
              · refine px_b rfl q_X12_detour_260 hg rfl ⟨⟨trivial, (by first | with_reducible assumption | decide | (refine ⟨?_, ?_⟩ <;> grind))⟩, (by first | with_reducible assumption | decide | (refine ⟨?_, ?_⟩ <;> grind))⟩ ?_
                exact px_go (ih (d + 1) (by grind) (by grind) (by grind) _ (by first | exact h1 | exact h1.u5 _ _ | exact h1.u6 _ _)) ⟨rfl, rfl, rfl, rfl, rfl, rfl, rfl, trivial⟩
              · refine px_b rfl q_X12_detour_255 hg rfl ⟨trivial, (by first | with_reducible assumption | decide | (refine ⟨?_, ?_⟩ <;> grind))⟩ ?_
                exact px_go (ih (d + 1) (by grind) (by grind) (by grind) _ (by first | exact h1 | exact h1.u5 _ _ | exact h1.u6 _ _)) ⟨rfl, rfl, rfl, rfl, rfl, rfl, rfl, trivial⟩

theorem q_X12_detour_108 : px_bk 12 11 cX12_detour 108 [(.iload 5, (0, 0, 0, 0, 0), 0, 0), (.sipush 128, (0, 0, 0, 0, 0), 128, 0)] = some 113 ∧ px_t2 cX12_detour 113 .ge 283 = true := by decide +kernel
theorem q_X12_detour_283 : px_bk 12 11 cX12_detour 283 [(.iconst 0, (0, 0, 0, 0, 0), 0, 0), (.istore 5, (0, 0, 0, 0, 0), 0, 0)] = some 286 := by decide +kernel
theorem q_X12_detour_116 : px_bk 12 11 cX12_detour 116 [(.iconst 0, (0, 0, 0, 0, 0), 0, 0), (.istore 6, (0, 0, 0, 0, 0), 0, 0)] = some 119 := by decide +kernel
set_option maxRecDepth 100000 in
theorem l_detour108 {n : Nat} {R : px_R} (hg : px_G n R) {Q : px_Q} (a o lo left : Int32) {I : px_I} (hp : 0 ≤ I 103 60) (L : px_L) (hq : ∀ L2, mNL L L2 → px M_X12_detour 0 0 73 [(0, .ref 103), (1, .int a), (2, .int o), (3, .int lo), (4, .int (left + -1))] [] n I L2 R Q) : ∀ k : Int32, k ≤ 128 → 1 ≤ k → ∀ L1, mNL L L1 → px M_X12_detour 0 0 108 [(0, .ref 103), (1, .int a), (2, .int o), (3, .int lo), (4, .int left), (5, .int k)] [] n I L1 R Q := by
  refine px_up 128 (fun k ih hk => ?_)
  intro h0 L1 h1
  refine px_ige rfl q_X12_detour_108 hg rfl trivial (fun c113 => ?_) (fun c113 => ?_)
  · refine px_b rfl q_X12_detour_283 hg rfl trivial ?_
    exact px_go (l_detour286 hg a o lo left L1 (fun L2 h2 => hq L2 (h1.trans h2)) 0 (by decide) (by decide) L1 (fun _ _ _ => rfl)) ⟨rfl, rfl, rfl, rfl, rfl, rfl, trivial⟩
  · refine px_b rfl q_X12_detour_116 hg rfl trivial ?_
    exact px_go (l_detour119 hg a o lo left k (by grind) hp L1 (fun L2 h2 => ih (k + 1) (by grind) (by grind) (by grind) L2 (h1.trans h2)) 0 (by decide) (by decide) L1 (fun _ _ _ => rfl)) ⟨rfl, rfl, rfl, rfl, rfl, rfl, rfl, trivial⟩

theorem q_X12_detour_81 : px_bk 12 11 cX12_detour 81 [(.iload 5, (0, 0, 0, 0, 0), 0, 0), (.sipush 129, (0, 0, 0, 0, 0), 129, 0)] = some 86 ∧ px_t2 cX12_detour 86 .ge 105 = true := by decide +kernel
theorem q_X12_detour_105 : px_bk 12 11 cX12_detour 105 [(.iconst 1, (0, 0, 0, 0, 0), 1, 0), (.istore 5, (0, 0, 0, 0, 0), 0, 0)] = some 108 := by decide +kernel
theorem q_X12_detour_89 : px_bk 12 11 cX12_detour 89 [(.aload_n 0, (0, 0, 0, 0, 0), 0, 0), (.getfield 164, (12, 76, 3, 146, 0), 0, 0), (.iload 5, (0, 0, 0, 0, 0), 0, 0), (.ldc2_w 463, (0, 0, 0, 0, 0), 0, -1), (.lastore, (0, 0, 0, 0, 0), 0, 0), (.iinc 5 1, (0, 0, 0, 0, 0), 1, 0), (.goto (-21), (0, 0, 0, 0, 0), 0, 0)] = some 81 := by decide +kernel
set_option maxRecDepth 100000 in
theorem l_detour81 {n : Nat} {R : px_R} (hg : px_G n R) {Q : px_Q} (a o lo left : Int32) {I : px_I} (hp : 0 ≤ I 103 60) (L : px_L) (hq : ∀ L2, mNL L L2 → px M_X12_detour 0 0 73 [(0, .ref 103), (1, .int a), (2, .int o), (3, .int lo), (4, .int (left + -1))] [] n I L2 R Q) : ∀ k : Int32, k ≤ 129 → 0 ≤ k → ∀ L1, mNL L L1 → px M_X12_detour 0 0 81 [(0, .ref 103), (1, .int a), (2, .int o), (3, .int lo), (4, .int left), (5, .int k)] [] n I L1 R Q := by
  refine px_up 129 (fun k ih hk => ?_)
  intro h0 L1 h1
  refine px_ige rfl q_X12_detour_81 hg rfl trivial (fun c86 => ?_) (fun c86 => ?_)
  · refine px_b rfl q_X12_detour_105 hg rfl trivial ?_
    exact px_go (l_detour108 hg a o lo left hp L1 (fun L2 h2 => hq L2 (h1.trans h2)) 1 (by decide) (by decide) L1 (fun _ _ _ => rfl)) ⟨rfl, rfl, rfl, rfl, rfl, rfl, trivial⟩
  · refine px_b rfl q_X12_detour_89 hg rfl ⟨trivial, (by first | decide | (refine ⟨?_, ?_⟩ <;> grind) | grind)⟩ ?_
    exact px_go (ih (k + 1) (by grind) (by grind) (by grind) _ (by first | exact h1 | exact h1.u5 _ _ | exact h1.u6 _ _)) ⟨rfl, rfl, rfl, rfl, rfl, rfl, trivial⟩

theorem q_X12_detour_73 : px_bk 12 11 cX12_detour 73 [(.iload 4, (0, 0, 0, 0, 0), 0, 0)] = some 75 ∧ px_t1 cX12_detour 75 .lt 320 = true := by decide +kernel
theorem q_X12_detour_320 : px_bk 12 11 cX12_detour 320 [(.ldc2_w 463, (0, 0, 0, 0, 0), 0, -1), (.lstore 4, (0, 0, 0, 0, 0), 0, 0), (.bipush 64, (0, 0, 0, 0, 0), 64, 0), (.aload_n 0, (0, 0, 0, 0, 0), 0, 0), (.getfield 456, (12, 61, 0, 0, 0), 0, 0), (.isub, (0, 0, 0, 0, 0), 0, 0), (.istore 6, (0, 0, 0, 0, 0), 0, 0)] = some 334 := by decide +kernel
theorem q_X12_detour_78 : px_bk 12 11 cX12_detour 78 [(.iconst 0, (0, 0, 0, 0, 0), 0, 0), (.istore 5, (0, 0, 0, 0, 0), 0, 0)] = some 81 := by decide +kernel
set_option maxRecDepth 100000 in
theorem l_detour73 {n : Nat} {R : px_R} (hg : px_G n R) {Q : px_Q} (a o lo : Int32) {I : px_I} (hW : mW I) (L : px_L) (hq : ∀ r L2, mNL L L2 → Q (some (.int r)) n I L2 R) : ∀ left : Int32, -1 ≤ left → ∀ L1, mNL L L1 → px M_X12_detour 0 0 73 [(0, .ref 103), (1, .int a), (2, .int o), (3, .int lo), (4, .int left)] [] n I L1 R Q := by
  refine px_dn (-1) (fun left ih hl => ?_)
  intro L1 h1
  have hp : 0 ≤ I 103 60 := by unfold mW at hW; grind
  have hw : 0 ≤ I 103 61 ∧ I 103 61 ≤ 20 := by unfold mW at hW; grind
  refine px_lt rfl q_X12_detour_73 hg rfl trivial (fun c75 => ?_) (fun c75 => ?_)
  · refine px_b rfl q_X12_detour_320 hg rfl trivial ?_
    exact px_go (l_detour334 hg a o lo hw (fun r => hq r _ h1) (64 - I 103 61) (by grind) (by grind) _) ⟨rfl, rfl, rfl, rfl, rfl, rfl, trivial⟩
  · refine px_b rfl q_X12_detour_78 hg rfl trivial ?_
    exact px_go (l_detour81 hg a o lo left hp L1 (fun L2 h2 => ih (left + -1) (by grind) (by grind) L2 (h1.trans h2)) 0 (by decide) (by decide) L1 (fun _ _ _ => rfl)) ⟨rfl, rfl, rfl, rfl, rfl, rfl, trivial⟩

theorem q_X12_detour_31 : px_bk 12 11 cX12_detour 31 [(.iload 4, (0, 0, 0, 0, 0), 0, 0), (.sipush 129, (0, 0, 0, 0, 0), 129, 0)] = some 36 ∧ px_t2 cX12_detour 36 .ge 68 = true := by decide +kernel
theorem q_X12_detour_68 : px_bk 12 11 cX12_detour 68 [(.iload_n 1, (0, 0, 0, 0, 0), 0, 0), (.iconst 1, (0, 0, 0, 0, 0), 1, 0), (.isub, (0, 0, 0, 0, 0), 0, 0), (.istore 4, (0, 0, 0, 0, 0), 0, 0)] = some 73 := by decide +kernel
theorem q_X12_detour_39 : px_bk 12 11 cX12_detour 39 [(.aload_n 0, (0, 0, 0, 0, 0), 0, 0), (.getfield 161, (12, 75, 3, 145, 0), 0, 0), (.iload 4, (0, 0, 0, 0, 0), 0, 0), (.iload 4, (0, 0, 0, 0, 0), 0, 0), (.iload_n 2, (0, 0, 0, 0, 0), 0, 0), (.bipush 64, (0, 0, 0, 0, 0), 64, 0), (.iadd, (0, 0, 0, 0, 0), 0, 0)] = some 51 ∧ px_t2 cX12_detour 51 .ne 58 = true := by decide +kernel
theorem q_X12_detour_58 : px_bk 12 11 cX12_detour 58 [(.ldc2_w 463, (0, 0, 0, 0, 0), 0, -1), (.lastore, (0, 0, 0, 0, 0), 0, 0), (.iinc 4 1, (0, 0, 0, 0, 0), 1, 0), (.goto (-34), (0, 0, 0, 0, 0), 0, 0)] = some 31 := by decide +kernel
theorem q_X12_detour_54 : px_bk 12 11 cX12_detour 54 [(.lconst 0, (0, 0, 0, 0, 0), 0, 0), (.goto 6, (0, 0, 0, 0, 0), 0, 0), (.lastore, (0, 0, 0, 0, 0), 0, 0), (.iinc 4 1, (0, 0, 0, 0, 0), 1, 0), (.goto (-34), (0, 0, 0, 0, 0), 0, 0)] = some 31 := by decide +kernel
set_option maxRecDepth 100000 in
theorem l_detour31 {n : Nat} {R : px_R} (hg : px_G n R) {Q : px_Q} (a o lo : Int32) (ha : 1 ≤ a ∧ a ≤ 40) {I : px_I} (hW : mW I) (L : px_L) (hq : ∀ r L2, mNL L L2 → Q (some (.int r)) n I L2 R) : ∀ k : Int32, k ≤ 129 → 0 ≤ k → ∀ L1, mNL L L1 → px M_X12_detour 0 0 31 [(0, .ref 103), (1, .int a), (2, .int o), (3, .int lo), (4, .int k)] [] n I L1 R Q := by
  refine px_up 129 (fun k ih hk => ?_)
  intro h0 L1 h1
  refine px_ige rfl q_X12_detour_31 hg rfl trivial (fun c36 => ?_) (fun c36 => ?_)
  · refine px_b rfl q_X12_detour_68 hg rfl trivial ?_
    exact px_go (l_detour73 hg a o lo hW L hq (a - 1) (by grind) L1 h1) ⟨rfl, rfl, rfl, rfl, rfl, trivial⟩
  · refine px_ine rfl q_X12_detour_39 hg rfl trivial (fun c51 => ?_) (fun c51 => ?_)
    · refine px_b rfl q_X12_detour_58 hg rfl ⟨trivial, (by first | decide | (refine ⟨?_, ?_⟩ <;> grind) | grind)⟩ ?_
      exact px_go (ih (k + 1) (by grind) (by grind) (by grind) _ (by first | exact h1 | exact h1.u5 _ _ | exact h1.u6 _ _)) ⟨rfl, rfl, rfl, rfl, rfl, trivial⟩
    · refine px_b rfl q_X12_detour_54 hg rfl ⟨trivial, (by first | decide | (refine ⟨?_, ?_⟩ <;> grind) | grind)⟩ ?_
      exact px_go (ih (k + 1) (by grind) (by grind) (by grind) _ (by first | exact h1 | exact h1.u5 _ _ | exact h1.u6 _ _)) ⟨rfl, rfl, rfl, rfl, rfl, trivial⟩

theorem q_X12_detour_0 : px_bk 12 11 cX12_detour 0 [(.iload_n 1, (0, 0, 0, 0, 0), 0, 0), (.i2l, (0, 0, 0, 0, 0), 0, 0), (.lconst 1, (0, 0, 0, 0, 0), 0, 1), (.ldc2_w 444, (0, 0, 0, 0, 0), 0, 40)] = some 6 ∧ px_tS cX12_detour 6 167 = true := by decide +kernel
theorem q_X12_detour_9 : px_bk 12 11 cX12_detour 9 [] = some 9 ∧ px_t1 cX12_detour 9 .eq 26 = true := by decide +kernel
theorem q_X12_detour_26 : px_bk 12 11 cX12_detour 26 [(.iconst (-1), (0, 0, 0, 0, 0), -1, 0)] = some 27 ∧ px_tr cX12_detour 27 .ireturn = true := by decide +kernel
theorem q_X12_detour_12 : px_bk 12 11 cX12_detour 12 [(.iload_n 2, (0, 0, 0, 0, 0), 0, 0), (.i2l, (0, 0, 0, 0, 0), 0, 0), (.ldc2_w 461, (0, 0, 0, 0, 0), 0, -20), (.ldc2_w 448, (0, 0, 0, 0, 0), 0, 20)] = some 20 ∧ px_tS cX12_detour 20 167 = true := by decide +kernel
theorem q_X12_detour_23 : px_bk 12 11 cX12_detour 23 [] = some 23 ∧ px_t1 cX12_detour 23 .ne 28 = true := by decide +kernel
theorem q_X12_detour_28 : px_bk 12 11 cX12_detour 28 [(.iconst 0, (0, 0, 0, 0, 0), 0, 0), (.istore 4, (0, 0, 0, 0, 0), 0, 0)] = some 31 := by decide +kernel
set_option maxRecDepth 100000 in
theorem k_detour {n : Nat} {I : px_I} {L : px_L} {R : px_R} (hg : px_G n R) (a o lo : Int32) (hW : mW I) : px_KS M_X12_detour [.ref 103, .int a, .int o, .int lo] n I L R (fun r I2 L2 => I2 = I ∧ mNL L L2) := by
  refine px_of (plainFor_of_name np_RX12) (fun _ _ _ => trivial) rfl ?_
  refine px_cSP rfl q_X12_detour_0 hg rfl trivial lk_12_167 nm_X12_in (k_inI hg _ (1) (40) (by decide) (by decide)) rfl rfl rfl ⟨rfl, rfl⟩ ?_
  intro x6 h6
  refine px_eq rfl q_X12_detour_9 hg rfl trivial (fun c9 => ?_) (fun c9 => ?_)
  · replace h6 := px_bf h6 c9
    refine px_riS rfl q_X12_detour_26 rfl rfl rfl hg rfl trivial ⟨⟨rfl, rfl⟩, ?_⟩
    exact ⟨rfl, fun _ _ _ => rfl⟩
  · replace h6 := px_bt h6 c9
    refine px_cSP rfl q_X12_detour_12 hg rfl trivial lk_12_167 nm_X12_in (k_inI hg _ (-20) (20) (by decide) (by decide)) rfl rfl rfl ⟨rfl, rfl⟩ ?_
    intro x20 h20
    refine px_ne rfl q_X12_detour_23 hg rfl trivial (fun c23 => ?_) (fun c23 => ?_)
    · replace h20 := px_bt h20 c23
      refine px_b rfl q_X12_detour_28 hg rfl trivial ?_
      exact px_go (l_detour31 hg a o lo (by grind) hW L (fun r L2 h => ⟨rfl, rfl, r, rfl, rfl, h⟩) 0 (by decide) (by decide) L (fun _ _ _ => rfl)) ⟨rfl, rfl, rfl, rfl, rfl, trivial⟩
    · replace h20 := px_bf h20 c23
      refine px_riS rfl q_X12_detour_26 rfl rfl rfl hg rfl trivial ⟨⟨rfl, rfl⟩, ?_⟩
      exact ⟨rfl, fun _ _ _ => rfl⟩
