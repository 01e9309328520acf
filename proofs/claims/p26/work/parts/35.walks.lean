/-! walks, runs, meetings -/
theorem px_aald {n cu su pc : Nat} {R : px_R} {M : px_M} {Q : px_Q} {ls : px_Ls} {rest : List Value} {I : px_I} {L : px_L} {i : Int32} (hg : px_G n R) (hd : decode M.2.1 pc = .ok (.aaload, 1)) (hi : 0 ≤ i ∧ i < 6) (kk : px M cu su (pc + 1) ls (va_rf (R 89 i.toNatClampNeg) :: rest) n I L R Q) : px M cu su pc ls (.int i :: .ref 89 :: rest) n I L R Q := by
  intro p l e s m args below meth c base cst D cid Z H locs lr X hW hS hl
  have k2 := kk p l e s m args below meth c base cst D cid Z H locs lr X hW hS hl
  rw [List.map_cons, px_v_rf] at k2
  exact px_ald X hW (by decide) (Nat.lt_of_lt_of_le (by decide) hg.1) rfl hi hd k2
theorem px_aast {n cu su pc : Nat} {R : px_R} {M : px_M} {Q : px_Q} {ls : px_Ls} {rest : List Value} {I : px_I} {L : px_L} {i : Int32} {w : Nat} (hg : px_G n R) (hw : px_is n w 10) (hd : decode M.2.1 pc = .ok (.aastore, 1)) (hi : 0 ≤ i ∧ i < 6) (kk : px M cu su (pc + 1) ls rest n I L (px_u R 89 i.toNatClampNeg (some w)) Q) : px M cu su pc ls (.ref w :: .int i :: .ref 89 :: rest) n I L R Q := by
  intro p l e s m args below meth c base cst D cid Z H locs lr X hW hS hl
  exact px_ast X hW hS (by decide) (Nat.lt_of_lt_of_le (by decide) hg.1) rfl hw.1 hw.2.1 hw.2.2 hi hd (fun H1 locs1 hW hS => kk p l e s m args below meth c base cst D cid Z H1 locs1 lr X hW hS hl)
def cWI (I I2 : px_I) : Prop := ∀ b j, b ≠ 87 → b ≠ 88 → ¬ (b = 86 ∧ (j = 2 ∨ j = 15 ∨ j = 16 ∨ j = 17)) → I2 b j = I b j
def cWL (L L2 : px_L) : Prop := ∀ b, b ≠ 86 → L2 b = L b
theorem cWI.trans {I I1 I2 : px_I} (h : cWI I I1) (h2 : cWI I1 I2) : cWI I I2 := fun b j h3 h4 h5 => (h2 b j h3 h4 h5).trans (h b j h3 h4 h5)
theorem cWL.trans {L L1 L2 : px_L} (h : cWL L L1) (h2 : cWL L1 L2) : cWL L L2 := fun b h3 => (h2 b h3).trans (h b h3)
theorem cWI.rfl' {I : px_I} : cWI I I := fun _ _ _ _ _ => rfl
theorem cWL.rfl' {L : px_L} : cWL L L := fun _ _ => rfl
theorem cWI.a7 {I I1 : px_I} (h : cWI I I1) (k : Nat) (v : Int32) : cWI I (px_u I1 87 k v) := fun b j h3 h4 h5 => by rw [px_u_ne h3]; exact h b j h3 h4 h5
theorem cWI.a8 {I I1 : px_I} (h : cWI I I1) (k : Nat) (v : Int32) : cWI I (px_u I1 88 k v) := fun b j h3 h4 h5 => by rw [px_u_ne h4]; exact h b j h3 h4 h5
theorem cWI.f {I I1 : px_I} (h : cWI I I1) (k : Nat) (v : Int32) (hk : k = 2 ∨ k = 15 ∨ k = 16 ∨ k = 17) : cWI I (px_u I1 86 k v) := fun b j h3 h4 h5 => by rw [px_ur, ← h b j h3 h4 h5]; grind
theorem cWL.u {L L1 : px_L} (h : cWL L L1) (k : Nat) (v : Int64) : cWL L (px_u L1 86 k v) := fun b h3 => by rw [px_u_ne h3]; exact h b h3
/-- of a walk: what is open, where it heads -/
def cWk (I : px_I) : Prop := (0 ≤ I 86 2 ∧ I 86 2 ≤ 80) ∧ (0 ≤ I 86 15 ∧ I 86 15 ≤ 15) ∧ (I 86 17 = 0 ∨ I 86 17 = 1)
theorem px_dvI {x k : Int32} (hk : 2 ≤ k.toInt) (h : 0 ≤ x) : (x / k).toInt = x.toInt / k.toInt ∧ (x - x / k * k).toInt = x.toInt % k.toInt := by
  have hx : 0 ≤ x.toInt := Int32.le_iff_toInt_le.mp h
  have hx2 := x.toInt_lt
  have e : (x / k).toInt = x.toInt / k.toInt := by
    rw [Int32.toInt_div_of_ne_right _ _ (fun q => by rw [q] at hk; exact absurd hk (by decide))]
    exact Int.tdiv_eq_ediv_of_nonneg hx
  refine ⟨e, ?_⟩
  have h1 := Int.mul_ediv_add_emod x.toInt k.toInt
  have h2 : 0 ≤ x.toInt / k.toInt := Int.ediv_nonneg hx (by omega)
  have h3 : 0 ≤ x.toInt % k.toInt := Int.emod_nonneg _ (by omega)
  have h4 : x.toInt / k.toInt * k.toInt = x.toInt - x.toInt % k.toInt := by rw [Int.mul_comm]; omega
  have h5 : 0 ≤ x.toInt / k.toInt * k.toInt := Int.mul_nonneg h2 (by omega)
  rw [Int32.toInt_sub, Int32.toInt_mul, e, h4, Int.bmod_eq_of_le (n := x.toInt - x.toInt % k.toInt) (by omega) (by omega), Int.bmod_eq_of_le (by omega) (by omega)]
  omega
theorem px_i32 {x a b : Int32} (h1 : a.toInt ≤ x.toInt) (h2 : x.toInt ≤ b.toInt) : a ≤ x ∧ x ≤ b := ⟨Int32.le_iff_toInt_le.mpr h1, Int32.le_iff_toInt_le.mpr h2⟩
theorem px_rm16 {x : Int32} (h : 0 ≤ x) : 0 ≤ x - x / 16 * 16 ∧ x - x / 16 * 16 ≤ 15 := by
  have e := (px_dvI (k := 16) (by decide) h).2
  rw [show (16 : Int32).toInt = 16 by decide] at e
  exact px_i32 (by rw [e, show (0 : Int32).toInt = 0 by decide]; omega) (by rw [e, show (15 : Int32).toInt = 15 by decide]; omega)
theorem px_rm4 {x : Int32} (h : 0 ≤ x ∧ x ≤ 15) : (0 ≤ x - x / 4 * 4 ∧ x - x / 4 * 4 < 4) ∧ x / 4 ≤ 3 := by
  have e := px_dvI (k := 4) (by decide) h.1
  rw [show (4 : Int32).toInt = 4 by decide] at e
  have h2 := Int32.le_iff_toInt_le.mp h.2
  rw [show (15 : Int32).toInt = 15 by decide] at h2
  exact ⟨⟨Int32.le_iff_toInt_le.mpr (by rw [e.2, show (0 : Int32).toInt = 0 by decide]; omega), Int32.lt_iff_toInt_lt.mpr (by rw [e.2, show (4 : Int32).toInt = 4 by decide]; omega)⟩, Int32.le_iff_toInt_le.mpr (by rw [e.1, show (3 : Int32).toInt = 3 by decide]; omega)⟩
theorem px_s96 {s : Int32} (h : ¬ s < 0) (h2 : s / 16 < 6) : 0 ≤ s ∧ s < 96 := by
  have h0 : 0 ≤ s := Int32.not_lt.mp h
  have e := (px_dvI (k := 16) (by decide) h0).1
  rw [show (16 : Int32).toInt = 16 by decide] at e
  have h3 := Int32.lt_iff_toInt_lt.mp h2
  rw [e, show (6 : Int32).toInt = 6 by decide] at h3
  exact ⟨h0, Int32.lt_iff_toInt_lt.mpr (by rw [show (96 : Int32).toInt = 96 by decide]; omega)⟩
theorem px_n6 {x : Int32} (h : 0 ≤ x ∧ x < 6) : x.toNatClampNeg < 6 := by
  have h3 := Int32.lt_iff_toInt_lt.mp h.2
  rw [show (6 : Int32).toInt = 6 by decide] at h3
  unfold Int32.toNatClampNeg
  omega

theorem q_X9_take_0 : px_bk 9 6 cX9_take 0 [(.aload_n 0, (0, 0, 0, 0, 0), 0, 0), (.iload_n 1, (0, 0, 0, 0, 0), 0, 0), (.putfield 20, (9, 3, 0, 0, 0), 0, 0), (.aload_n 0, (0, 0, 0, 0, 0), 0, 0), (.iload_n 2, (0, 0, 0, 0, 0), 0, 0), (.putfield 23, (9, 4, 0, 0, 0), 0, 0), (.aload_n 0, (0, 0, 0, 0, 0), 0, 0), (.iload_n 3, (0, 0, 0, 0, 0), 0, 0), (.putfield 26, (9, 5, 0, 0, 0), 0, 0), (.aload_n 0, (0, 0, 0, 0, 0), 0, 0), (.iload 4, (0, 0, 0, 0, 0), 0, 0), (.putfield 29, (9, 6, 0, 0, 0), 0, 0), (.aload_n 0, (0, 0, 0, 0, 0), 0, 0), (.iload 5, (0, 0, 0, 0, 0), 0, 0), (.putfield 32, (9, 7, 0, 0, 0), 0, 0)] = some 27 ∧ px_tr cX9_take 27 .return_ = true := by decide +kernel
set_option maxRecDepth 100000 in
theorem c_takeW {n : Nat} {I : px_I} {L : px_L} {R : px_R} (hg : px_G n R) (a b d e f : Int32) : px_KV M_X9_take [.ref 86, .int a, .int b, .int d, .int e, .int f] n I L R (fun I2 L2 => L2 = L ∧ I2 = px_u (px_u (px_u (px_u (px_u I 86 3 a) 86 4 b) 86 5 d) 86 6 e) 86 7 f) := by
  refine px_of (plainFor_of_name np_RX9) (fun _ _ _ => trivial) rfl ?_
  refine px_rvW rfl q_X9_take_0 rfl rfl rfl hg rfl trivial ⟨⟨rfl, rfl⟩, ?_⟩
  exact ⟨rfl, rfl⟩

theorem q_X9_begin_0 : px_bk 9 2 cX9_begin 0 [(.aload_n 0, (0, 0, 0, 0, 0), 0, 0), (.iconst 0, (0, 0, 0, 0, 0), 0, 0), (.putfield 16, (9, 2, 0, 0, 0), 0, 0), (.aload_n 0, (0, 0, 0, 0, 0), 0, 0), (.lconst 0, (0, 0, 0, 0, 0), 0, 0), (.putfield 35, (9, 8, 1, 0, 0), 0, 0), (.aload_n 0, (0, 0, 0, 0, 0), 0, 0), (.lconst 0, (0, 0, 0, 0, 0), 0, 0), (.putfield 39, (9, 9, 1, 0, 0), 0, 0), (.aload_n 0, (0, 0, 0, 0, 0), 0, 0), (.lconst 0, (0, 0, 0, 0, 0), 0, 0), (.putfield 42, (9, 10, 1, 0, 0), 0, 0), (.aload_n 0, (0, 0, 0, 0, 0), 0, 0), (.lconst 0, (0, 0, 0, 0, 0), 0, 0), (.putfield 45, (9, 11, 1, 0, 0), 0, 0), (.aload_n 0, (0, 0, 0, 0, 0), 0, 0), (.lconst 0, (0, 0, 0, 0, 0), 0, 0), (.putfield 48, (9, 12, 1, 0, 0), 0, 0), (.aload_n 0, (0, 0, 0, 0, 0), 0, 0), (.lconst 0, (0, 0, 0, 0, 0), 0, 0), (.putfield 51, (9, 13, 1, 0, 0), 0, 0), (.aload_n 0, (0, 0, 0, 0, 0), 0, 0), (.lconst 0, (0, 0, 0, 0, 0), 0, 0), (.putfield 54, (9, 14, 1, 0, 0), 0, 0), (.aload_n 0, (0, 0, 0, 0, 0), 0, 0), (.iload_n 1, (0, 0, 0, 0, 0), 0, 0), (.putfield 57, (9, 15, 0, 0, 0), 0, 0), (.aload_n 0, (0, 0, 0, 0, 0), 0, 0), (.iconst 0, (0, 0, 0, 0, 0), 0, 0), (.putfield 60, (9, 16, 0, 0, 0), 0, 0)] = some 50 ∧ px_tr cX9_begin 50 .return_ = true := by decide +kernel
set_option maxRecDepth 100000 in
theorem c_beginW {n : Nat} {I : px_I} {L : px_L} {R : px_R} (hg : px_G n R) (x : Int32) (hx : 0 ≤ x ∧ x ≤ 15) : px_KV M_X9_begin [.ref 86, .int x] n I L R (fun I2 L2 => (0 ≤ I2 86 2 ∧ I2 86 2 ≤ 80) ∧ (0 ≤ I2 86 15 ∧ I2 86 15 ≤ 15) ∧ cWI I I2 ∧ cWL L L2) := by
  refine px_of (plainFor_of_name np_RX9) (fun _ _ _ => trivial) rfl ?_
  refine px_rvW rfl q_X9_begin_0 rfl rfl rfl hg rfl trivial ⟨⟨rfl, rfl⟩, ?_⟩
  exact ⟨by simp [px_ur], by simp [px_ur]; exact hx, (by repeat (first | exact cWI.rfl' | with_reducible assumption | refine cWI.a7 ?_ _ _ | refine cWI.a8 ?_ _ _ | refine cWI.f ?_ _ _ (by decide))), (by repeat (first | exact cWL.rfl' | with_reducible assumption | refine cWL.u ?_ _ _))⟩

theorem q_X9_push_0 : px_bk 9 3 cX9_push 0 [(.aload_n 0, (0, 0, 0, 0, 0), 0, 0), (.getfield 16, (9, 2, 0, 0, 0), 0, 0), (.bipush 80, (0, 0, 0, 0, 0), 80, 0)] = some 6 ∧ px_t2 cX9_push 6 .ge 42 = true := by decide +kernel
theorem q_X9_push_42 : px_bk 9 3 cX9_push 42 [(.aload_n 0, (0, 0, 0, 0, 0), 0, 0), (.iconst 0, (0, 0, 0, 0, 0), 0, 0), (.putfield 63, (9, 17, 2, 0, 0), 0, 0)] = some 47 ∧ px_tr cX9_push 47 .return_ = true := by decide +kernel
theorem q_X9_push_9 : px_bk 9 3 cX9_push 9 [(.aload_n 0, (0, 0, 0, 0, 0), 0, 0), (.getfield 9, (9, 0, 3, 87, 0), 0, 0), (.aload_n 0, (0, 0, 0, 0, 0), 0, 0), (.getfield 16, (9, 2, 0, 0, 0), 0, 0), (.iload_n 1, (0, 0, 0, 0, 0), 0, 0), (.iastore, (0, 0, 0, 0, 0), 0, 0), (.aload_n 0, (0, 0, 0, 0, 0), 0, 0), (.getfield 13, (9, 1, 3, 88, 0), 0, 0), (.aload_n 0, (0, 0, 0, 0, 0), 0, 0), (.getfield 16, (9, 2, 0, 0, 0), 0, 0), (.iload_n 2, (0, 0, 0, 0, 0), 0, 0), (.iastore, (0, 0, 0, 0, 0), 0, 0), (.aload_n 0, (0, 0, 0, 0, 0), 0, 0), (.dup, (0, 0, 0, 0, 0), 0, 0), (.getfield 16, (9, 2, 0, 0, 0), 0, 0), (.iconst 1, (0, 0, 0, 0, 0), 1, 0), (.iadd, (0, 0, 0, 0, 0), 0, 0), (.putfield 16, (9, 2, 0, 0, 0), 0, 0), (.goto 8, (0, 0, 0, 0, 0), 0, 0)] = some 47 ∧ px_tr cX9_push 47 .return_ = true := by decide +kernel
set_option maxRecDepth 100000 in
theorem c_push {n : Nat} {I : px_I} {L : px_L} {R : px_R} (hg : px_G n R) (p t : Int32) (h : cWk I) : px_KV M_X9_push [.ref 86, .int p, .int t] n I L R (fun I2 L2 => L2 = L ∧ cWk I2 ∧ cWI I I2) := by
  refine px_of (plainFor_of_name np_RX9) (fun _ _ _ => trivial) rfl ?_
  have hk := h
  unfold cWk at h
  refine px_ige rfl q_X9_push_0 hg rfl trivial (fun c6 => ?_) (fun c6 => ?_)
  · refine px_rvW rfl q_X9_push_42 rfl rfl rfl hg rfl ⟨trivial, (by first | exact Or.inl rfl | (refine ⟨?_, ?_⟩ <;> grind))⟩ ⟨⟨rfl, rfl⟩, ?_⟩
    exact ⟨rfl, by unfold cWk; first | exact h | (simp [px_ur]; grind), (by repeat (first | exact cWI.rfl' | with_reducible assumption | refine cWI.a7 ?_ _ _ | refine cWI.a8 ?_ _ _ | refine cWI.f ?_ _ _ (by decide)))⟩
  · refine px_rvW rfl q_X9_push_9 rfl rfl rfl hg rfl ⟨⟨trivial, (by first | exact Or.inl rfl | (refine ⟨?_, ?_⟩ <;> grind))⟩, (by first | exact Or.inl rfl | (refine ⟨?_, ?_⟩ <;> grind))⟩ ⟨⟨rfl, rfl⟩, ?_⟩
    exact ⟨rfl, by unfold cWk; first | exact h | (simp [px_ur]; grind), (by repeat (first | exact cWI.rfl' | with_reducible assumption | refine cWI.a7 ?_ _ _ | refine cWI.a8 ?_ _ _ | refine cWI.f ?_ _ _ (by decide)))⟩

theorem q_X9_turnBack_0 : px_bk 9 3 cX9_turnBack 0 [(.aload_n 0, (0, 0, 0, 0, 0), 0, 0), (.getfield 16, (9, 2, 0, 0, 0), 0, 0), (.iconst 1, (0, 0, 0, 0, 0), 1, 0), (.isub, (0, 0, 0, 0, 0), 0, 0), (.istore_n 2, (0, 0, 0, 0, 0), 0, 0), (.iload_n 2, (0, 0, 0, 0, 0), 0, 0), (.iconst 0, (0, 0, 0, 0, 0), 0, 0), (.bipush 79, (0, 0, 0, 0, 0), 79, 0)] = some 11 ∧ px_tS cX9_turnBack 11 78 = true := by decide +kernel
theorem q_X9_turnBack_14 : px_bk 9 3 cX9_turnBack 14 [] = some 14 ∧ px_t1 cX9_turnBack 14 .ne 21 = true := by decide +kernel
theorem q_X9_turnBack_21 : px_bk 9 3 cX9_turnBack 21 [(.aload_n 0, (0, 0, 0, 0, 0), 0, 0), (.getfield 13, (9, 1, 3, 88, 0), 0, 0), (.iload_n 2, (0, 0, 0, 0, 0), 0, 0), (.dup2, (0, 0, 0, 0, 0), 0, 0), (.iaload, (0, 0, 0, 0, 0), 0, 0), (.iconst 1, (0, 0, 0, 0, 0), 1, 0), (.isub, (0, 0, 0, 0, 0), 0, 0), (.iastore, (0, 0, 0, 0, 0), 0, 0), (.aload_n 0, (0, 0, 0, 0, 0), 0, 0), (.getfield 13, (9, 1, 3, 88, 0), 0, 0), (.iload_n 2, (0, 0, 0, 0, 0), 0, 0), (.iaload, (0, 0, 0, 0, 0), 0, 0)] = some 37 ∧ px_t1 cX9_turnBack 37 .le 47 = true := by decide +kernel
theorem q_X9_turnBack_47 : px_bk 9 3 cX9_turnBack 47 [(.aload_n 0, (0, 0, 0, 0, 0), 0, 0), (.dup, (0, 0, 0, 0, 0), 0, 0), (.getfield 16, (9, 2, 0, 0, 0), 0, 0), (.iconst 1, (0, 0, 0, 0, 0), 1, 0), (.isub, (0, 0, 0, 0, 0), 0, 0), (.putfield 16, (9, 2, 0, 0, 0), 0, 0), (.iload_n 1, (0, 0, 0, 0, 0), 0, 0), (.iconst 1, (0, 0, 0, 0, 0), 1, 0), (.iadd, (0, 0, 0, 0, 0), 0, 0)] = some 60 ∧ px_tr cX9_turnBack 60 .ireturn = true := by decide +kernel
theorem q_X9_turnBack_40 : px_bk 9 3 cX9_turnBack 40 [(.aload_n 0, (0, 0, 0, 0, 0), 0, 0), (.getfield 9, (9, 0, 3, 87, 0), 0, 0), (.iload_n 2, (0, 0, 0, 0, 0), 0, 0), (.iaload, (0, 0, 0, 0, 0), 0, 0)] = some 46 ∧ px_tr cX9_turnBack 46 .ireturn = true := by decide +kernel
theorem q_X9_turnBack_17 : px_bk 9 3 cX9_turnBack 17 [(.iload_n 1, (0, 0, 0, 0, 0), 0, 0), (.iconst 1, (0, 0, 0, 0, 0), 1, 0), (.iadd, (0, 0, 0, 0, 0), 0, 0)] = some 20 ∧ px_tr cX9_turnBack 20 .ireturn = true := by decide +kernel
set_option maxRecDepth 100000 in
theorem c_turnBack {n : Nat} {I : px_I} {L : px_L} {R : px_R} (hg : px_G n R) (a : Int32) (h : cWk I) : px_KS M_X9_turnBack [.ref 86, .int a] n I L R (fun r I2 L2 => L2 = L ∧ cWk I2 ∧ cWI I I2) := by
  refine px_of (plainFor_of_name np_RX9) (fun _ _ _ => trivial) rfl ?_
  have hk := h
  unfold cWk at h
  refine px_cSNP rfl q_X9_turnBack_0 hg rfl trivial lk_9_78 nm_X11_within (c_within hg _ _ _) rfl rfl rfl ⟨rfl, rfl⟩ ?_
  intro x11 h11
  refine px_ne rfl q_X9_turnBack_14 hg rfl trivial (fun c14 => ?_) (fun c14 => ?_)
  · replace h11 := px_bt h11 c14
    refine px_le rfl q_X9_turnBack_21 hg rfl ⟨⟨⟨trivial, (by first | with_reducible assumption | (refine ⟨?_, ?_⟩ <;> grind))⟩, (by first | with_reducible assumption | (refine ⟨?_, ?_⟩ <;> grind))⟩, (by first | with_reducible assumption | (refine ⟨?_, ?_⟩ <;> grind))⟩ (fun c37 => ?_) (fun c37 => ?_)
    · refine px_riS rfl q_X9_turnBack_47 rfl rfl rfl hg rfl trivial ⟨⟨rfl, rfl⟩, ?_⟩
      exact ⟨rfl, by unfold cWk; first | exact h | (simp [px_ur]; grind), (by repeat (first | exact cWI.rfl' | with_reducible assumption | refine cWI.a7 ?_ _ _ | refine cWI.a8 ?_ _ _ | refine cWI.f ?_ _ _ (by decide)))⟩
    · refine px_riS rfl q_X9_turnBack_40 rfl rfl rfl hg rfl ⟨trivial, (by first | with_reducible assumption | (refine ⟨?_, ?_⟩ <;> grind))⟩ ⟨⟨rfl, rfl⟩, ?_⟩
      exact ⟨rfl, by unfold cWk; first | exact h | (simp [px_ur]; grind), (by repeat (first | exact cWI.rfl' | with_reducible assumption | refine cWI.a7 ?_ _ _ | refine cWI.a8 ?_ _ _ | refine cWI.f ?_ _ _ (by decide)))⟩
  · replace h11 := px_bf h11 c14
    refine px_riS rfl q_X9_turnBack_17 rfl rfl rfl hg rfl trivial ⟨⟨rfl, rfl⟩, ?_⟩
    exact ⟨rfl, by unfold cWk; first | exact h | (simp [px_ur]; grind), (by repeat (first | exact cWI.rfl' | with_reducible assumption | refine cWI.a7 ?_ _ _ | refine cWI.a8 ?_ _ _ | refine cWI.f ?_ _ _ (by decide)))⟩

theorem q_X9_pop_0 : px_bk 9 3 cX9_pop 0 [(.aload_n 0, (0, 0, 0, 0, 0), 0, 0), (.getfield 16, (9, 2, 0, 0, 0), 0, 0), (.iconst 1, (0, 0, 0, 0, 0), 1, 0), (.isub, (0, 0, 0, 0, 0), 0, 0), (.istore_n 2, (0, 0, 0, 0, 0), 0, 0), (.iload_n 2, (0, 0, 0, 0, 0), 0, 0), (.iconst 0, (0, 0, 0, 0, 0), 0, 0), (.bipush 79, (0, 0, 0, 0, 0), 79, 0)] = some 11 ∧ px_tS cX9_pop 11 78 = true := by decide +kernel
theorem q_X9_pop_14 : px_bk 9 3 cX9_pop 14 [] = some 14 ∧ px_t1 cX9_pop 14 .ne 21 = true := by decide +kernel
theorem q_X9_pop_21 : px_bk 9 3 cX9_pop 21 [(.aload_n 0, (0, 0, 0, 0, 0), 0, 0), (.dup, (0, 0, 0, 0, 0), 0, 0), (.getfield 16, (9, 2, 0, 0, 0), 0, 0), (.iconst 1, (0, 0, 0, 0, 0), 1, 0), (.isub, (0, 0, 0, 0, 0), 0, 0), (.putfield 16, (9, 2, 0, 0, 0), 0, 0), (.aload_n 0, (0, 0, 0, 0, 0), 0, 0), (.getfield 9, (9, 0, 3, 87, 0), 0, 0), (.iload_n 2, (0, 0, 0, 0, 0), 0, 0), (.iaload, (0, 0, 0, 0, 0), 0, 0)] = some 37 ∧ px_tr cX9_pop 37 .ireturn = true := by decide +kernel
theorem q_X9_pop_17 : px_bk 9 3 cX9_pop 17 [(.iload_n 1, (0, 0, 0, 0, 0), 0, 0), (.iconst 1, (0, 0, 0, 0, 0), 1, 0), (.iadd, (0, 0, 0, 0, 0), 0, 0)] = some 20 ∧ px_tr cX9_pop 20 .ireturn = true := by decide +kernel
set_option maxRecDepth 100000 in
theorem c_pop {n : Nat} {I : px_I} {L : px_L} {R : px_R} (hg : px_G n R) (a : Int32) (h : cWk I) : px_KS M_X9_pop [.ref 86, .int a] n I L R (fun r I2 L2 => L2 = L ∧ cWk I2 ∧ cWI I I2) := by
  refine px_of (plainFor_of_name np_RX9) (fun _ _ _ => trivial) rfl ?_
  have hk := h
  unfold cWk at h
  refine px_cSNP rfl q_X9_pop_0 hg rfl trivial lk_9_78 nm_X11_within (c_within hg _ _ _) rfl rfl rfl ⟨rfl, rfl⟩ ?_
  intro x11 h11
  refine px_ne rfl q_X9_pop_14 hg rfl trivial (fun c14 => ?_) (fun c14 => ?_)
  · replace h11 := px_bt h11 c14
    refine px_riS rfl q_X9_pop_21 rfl rfl rfl hg rfl ⟨trivial, (by first | with_reducible assumption | (refine ⟨?_, ?_⟩ <;> grind))⟩ ⟨⟨rfl, rfl⟩, ?_⟩
    exact ⟨rfl, by unfold cWk; first | exact h | (simp [px_ur]; grind), (by repeat (first | exact cWI.rfl' | with_reducible assumption | refine cWI.a7 ?_ _ _ | refine cWI.a8 ?_ _ _ | refine cWI.f ?_ _ _ (by decide)))⟩
  · replace h11 := px_bf h11 c14
    refine px_riS rfl q_X9_pop_17 rfl rfl rfl hg rfl trivial ⟨⟨rfl, rfl⟩, ?_⟩
    exact ⟨rfl, by unfold cWk; first | exact h | (simp [px_ur]; grind), (by repeat (first | exact cWI.rfl' | with_reducible assumption | refine cWI.a7 ?_ _ _ | refine cWI.a8 ?_ _ _ | refine cWI.f ?_ _ _ (by decide)))⟩

theorem q_X9_layLine_33 : px_bk 9 9 cX9_layLine 33 [(.iload 5, (0, 0, 0, 0, 0), 0, 0), (.iload_n 2, (0, 0, 0, 0, 0), 0, 0)] = some 36 ∧ px_t2 cX9_layLine 36 .ge 56 = true := by decide +kernel
theorem q_X9_layLine_56 : px_bk 9 9 cX9_layLine 56 [(.aload_n 0, (0, 0, 0, 0, 0), 0, 0), (.dup, (0, 0, 0, 0, 0), 0, 0), (.getfield 35, (9, 8, 1, 0, 0), 0, 0), (.iload_n 1, (0, 0, 0, 0, 0), 0, 0), (.i2l, (0, 0, 0, 0, 0), 0, 0), (.iload_n 3, (0, 0, 0, 0, 0), 0, 0), (.i2l, (0, 0, 0, 0, 0), 0, 0), (.lmul, (0, 0, 0, 0, 0), 0, 0), (.ladd, (0, 0, 0, 0, 0), 0, 0), (.putfield 35, (9, 8, 1, 0, 0), 0, 0), (.aload_n 0, (0, 0, 0, 0, 0), 0, 0), (.dup, (0, 0, 0, 0, 0), 0, 0), (.getfield 39, (9, 9, 1, 0, 0), 0, 0), (.iload_n 1, (0, 0, 0, 0, 0), 0, 0), (.i2l, (0, 0, 0, 0, 0), 0, 0), (.iload 4, (0, 0, 0, 0, 0), 0, 0), (.i2l, (0, 0, 0, 0, 0), 0, 0), (.lmul, (0, 0, 0, 0, 0), 0, 0), (.ladd, (0, 0, 0, 0, 0), 0, 0), (.putfield 39, (9, 9, 1, 0, 0), 0, 0), (.iload_n 3, (0, 0, 0, 0, 0), 0, 0)] = some 86 ∧ px_tS cX9_layLine 86 129 = true := by decide +kernel
theorem q_X9_layLine_89 : px_bk 9 9 cX9_layLine 89 [(.istore_n 3, (0, 0, 0, 0, 0), 0, 0), (.iload 4, (0, 0, 0, 0, 0), 0, 0)] = some 92 ∧ px_tS cX9_layLine 92 129 = true := by decide +kernel
theorem q_X9_layLine_95 : px_bk 9 9 cX9_layLine 95 [(.istore 4, (0, 0, 0, 0, 0), 0, 0), (.iload_n 1, (0, 0, 0, 0, 0), 0, 0), (.i2l, (0, 0, 0, 0, 0), 0, 0), (.aload_n 0, (0, 0, 0, 0, 0), 0, 0), (.getfield 20, (9, 3, 0, 0, 0), 0, 0), (.i2l, (0, 0, 0, 0, 0), 0, 0), (.lmul, (0, 0, 0, 0, 0), 0, 0), (.ldc2_w 132, (0, 0, 0, 0, 0), 0, 9), (.ladd, (0, 0, 0, 0, 0), 0, 0), (.ldc2_w 134, (0, 0, 0, 0, 0), 0, 10), (.ldiv, (0, 0, 0, 0, 0), 0, 0), (.lstore 5, (0, 0, 0, 0, 0), 0, 0), (.iload_n 1, (0, 0, 0, 0, 0), 0, 0), (.i2l, (0, 0, 0, 0, 0), 0, 0), (.aload_n 0, (0, 0, 0, 0, 0), 0, 0), (.getfield 54, (9, 14, 1, 0, 0), 0, 0), (.lmul, (0, 0, 0, 0, 0), 0, 0), (.ldc2_w 132, (0, 0, 0, 0, 0), 0, 9), (.ladd, (0, 0, 0, 0, 0), 0, 0), (.ldc2_w 134, (0, 0, 0, 0, 0), 0, 10), (.ldiv, (0, 0, 0, 0, 0), 0, 0), (.lstore 7, (0, 0, 0, 0, 0), 0, 0), (.aload_n 0, (0, 0, 0, 0, 0), 0, 0), (.dup, (0, 0, 0, 0, 0), 0, 0), (.getfield 45, (9, 11, 1, 0, 0), 0, 0), (.lload 5, (0, 0, 0, 0, 0), 0, 0), (.iload_n 3, (0, 0, 0, 0, 0), 0, 0), (.i2l, (0, 0, 0, 0, 0), 0, 0), (.lmul, (0, 0, 0, 0, 0), 0, 0), (.lload 7, (0, 0, 0, 0, 0), 0, 0), (.iload 4, (0, 0, 0, 0, 0), 0, 0), (.i2l, (0, 0, 0, 0, 0), 0, 0), (.lmul, (0, 0, 0, 0, 0), 0, 0), (.ladd, (0, 0, 0, 0, 0), 0, 0), (.ldc2_w 136, (0, 0, 0, 0, 0), 0, 999), (.ladd, (0, 0, 0, 0, 0), 0, 0), (.ldc2_w 138, (0, 0, 0, 0, 0), 0, 1000), (.ldiv, (0, 0, 0, 0, 0), 0, 0), (.ladd, (0, 0, 0, 0, 0), 0, 0), (.putfield 45, (9, 11, 1, 0, 0), 0, 0), (.aload_n 0, (0, 0, 0, 0, 0), 0, 0), (.dup, (0, 0, 0, 0, 0), 0, 0), (.getfield 48, (9, 12, 1, 0, 0), 0, 0), (.lload 5, (0, 0, 0, 0, 0), 0, 0), (.iload 4, (0, 0, 0, 0, 0), 0, 0), (.i2l, (0, 0, 0, 0, 0), 0, 0), (.lmul, (0, 0, 0, 0, 0), 0, 0), (.lload 7, (0, 0, 0, 0, 0), 0, 0), (.iload_n 3, (0, 0, 0, 0, 0), 0, 0), (.i2l, (0, 0, 0, 0, 0), 0, 0), (.lmul, (0, 0, 0, 0, 0), 0, 0), (.ladd, (0, 0, 0, 0, 0), 0, 0), (.ldc2_w 136, (0, 0, 0, 0, 0), 0, 999), (.ladd, (0, 0, 0, 0, 0), 0, 0), (.ldc2_w 138, (0, 0, 0, 0, 0), 0, 1000), (.ldiv, (0, 0, 0, 0, 0), 0, 0), (.ladd, (0, 0, 0, 0, 0), 0, 0), (.putfield 48, (9, 12, 1, 0, 0), 0, 0), (.aload_n 0, (0, 0, 0, 0, 0), 0, 0), (.dup, (0, 0, 0, 0, 0), 0, 0), (.getfield 51, (9, 13, 1, 0, 0), 0, 0), (.iload_n 1, (0, 0, 0, 0, 0), 0, 0), (.i2l, (0, 0, 0, 0, 0), 0, 0), (.aload_n 0, (0, 0, 0, 0, 0), 0, 0), (.getfield 23, (9, 4, 0, 0, 0), 0, 0), (.i2l, (0, 0, 0, 0, 0), 0, 0), (.lmul, (0, 0, 0, 0, 0), 0, 0), (.ldc2_w 132, (0, 0, 0, 0, 0), 0, 9), (.ladd, (0, 0, 0, 0, 0), 0, 0), (.ldc2_w 134, (0, 0, 0, 0, 0), 0, 10), (.ldiv, (0, 0, 0, 0, 0), 0, 0), (.ladd, (0, 0, 0, 0, 0), 0, 0), (.putfield 51, (9, 13, 1, 0, 0), 0, 0)] = some 215 ∧ px_tr cX9_layLine 215 .return_ = true := by decide +kernel
theorem q_X9_layLine_39 : px_bk 9 9 cX9_layLine 39 [(.iload_n 3, (0, 0, 0, 0, 0), 0, 0), (.istore 6, (0, 0, 0, 0, 0), 0, 0), (.iload 4, (0, 0, 0, 0, 0), 0, 0), (.ineg, (0, 0, 0, 0, 0), 0, 0), (.istore_n 3, (0, 0, 0, 0, 0), 0, 0), (.iload 6, (0, 0, 0, 0, 0), 0, 0), (.istore 4, (0, 0, 0, 0, 0), 0, 0), (.iinc 5 1, (0, 0, 0, 0, 0), 1, 0), (.goto (-20), (0, 0, 0, 0, 0), 0, 0)] = some 33 := by decide +kernel
set_option maxRecDepth 100000 in
theorem l_layLine {n : Nat} {R : px_R} (hg : px_G n R) {Q : px_Q} (x q : Int32) {I : px_I} (L : px_L) (hq : ∀ L2, cWL L L2 → Q none n I L2 R) : ∀ i : Int32, i ≤ 4 → 0 ≤ i → ∀ a b : Int32, q ≤ 3 → px M_X9_layLine 0 0 33 [(0, .ref 86), (1, .int x), (2, .int q), (3, .int a), (4, .int b), (5, .int i)] [] n I L R Q := by
  refine px_up 4 (fun i ih hi => ?_)
  intro h0 a b hq3
  refine px_ige rfl q_X9_layLine_33 hg rfl trivial (fun c36 => ?_) (fun c36 => ?_)
  · refine px_cSP rfl q_X9_layLine_56 hg rfl trivial lk_9_129 nm_J9_abs_0f7a4 (j_abs hg _) rfl rfl rfl ⟨rfl, rfl⟩ ?_
    intro x86 h86
    refine px_cSP rfl q_X9_layLine_89 hg rfl trivial lk_9_129 nm_J9_abs_0f7a4 (j_abs hg _) rfl rfl rfl ⟨rfl, rfl⟩ ?_
    intro x92 h92
    refine px_rv rfl q_X9_layLine_95 rfl rfl rfl hg rfl ⟨⟨⟨⟨⟨trivial, (by decide)⟩, (by decide)⟩, (by decide)⟩, (by decide)⟩, (by decide)⟩ ?_
    exact hq _ (by repeat (first | exact cWL.rfl' | with_reducible assumption | refine cWL.u ?_ _ _))
  · refine px_b rfl q_X9_layLine_39 hg rfl trivial ?_
    exact px_go (ih (i + 1) (by grind) (by grind) (by grind) _ _ hq3) ⟨rfl, rfl, rfl, rfl, rfl, rfl, trivial⟩

theorem q_X9_layLine_0 : px_bk 9 9 cX9_layLine 0 [(.aload_n 0, (0, 0, 0, 0, 0), 0, 0), (.getfield 57, (9, 15, 0, 0, 0), 0, 0), (.iconst 4, (0, 0, 0, 0, 0), 4, 0), (.idiv, (0, 0, 0, 0, 0), 0, 0), (.istore_n 2, (0, 0, 0, 0, 0), 0, 0)] = some 7 := by decide +kernel
theorem q_X9_layLine_10 : px_bk 9 9 cX9_layLine 10 [(.aload_n 0, (0, 0, 0, 0, 0), 0, 0), (.getfield 57, (9, 15, 0, 0, 0), 0, 0), (.iconst 4, (0, 0, 0, 0, 0), 4, 0), (.irem, (0, 0, 0, 0, 0), 0, 0)] = some 16 := by decide +kernel
theorem q_X9_layLine_17 : px_bk 9 9 cX9_layLine 17 [(.istore_n 3, (0, 0, 0, 0, 0), 0, 0)] = some 18 := by decide +kernel
theorem q_X9_layLine_21 : px_bk 9 9 cX9_layLine 21 [(.aload_n 0, (0, 0, 0, 0, 0), 0, 0), (.getfield 57, (9, 15, 0, 0, 0), 0, 0), (.iconst 4, (0, 0, 0, 0, 0), 4, 0), (.irem, (0, 0, 0, 0, 0), 0, 0)] = some 27 := by decide +kernel
theorem q_X9_layLine_28 : px_bk 9 9 cX9_layLine 28 [(.istore 4, (0, 0, 0, 0, 0), 0, 0), (.iconst 0, (0, 0, 0, 0, 0), 0, 0), (.istore 5, (0, 0, 0, 0, 0), 0, 0)] = some 33 := by decide +kernel
set_option maxRecDepth 100000 in
theorem c_layLine {n : Nat} {I : px_I} {L : px_L} {R : px_R} (hg : px_G n R) (x : Int32) (h : 0 ≤ I 86 15 ∧ I 86 15 ≤ 15) : px_KV M_X9_layLine [.ref 86, .int x] n I L R (fun I2 L2 => I2 = I ∧ cWL L L2) := by
  refine px_of (plainFor_of_name np_RX9) (fun _ _ _ => trivial) rfl ?_
  have hq5 := px_rm4 h
  have hq4 := hq5.1
  refine px_b rfl q_X9_layLine_0 hg rfl ⟨trivial, (by decide)⟩ ?_
  refine px_sEast (by decide +kernel) (px_i4 197 rfl rfl) ?_
  refine px_b rfl q_X9_layLine_10 hg rfl ⟨trivial, (by decide)⟩ ?_
  refine px_iEast (by decide +kernel) hq4 ?_
  refine px_b rfl q_X9_layLine_17 hg rfl trivial ?_
  refine px_sNorth (by decide +kernel) (px_i4 199 rfl rfl) ?_
  refine px_b rfl q_X9_layLine_21 hg rfl ⟨trivial, (by decide)⟩ ?_
  refine px_iNorth (by decide +kernel) hq4 ?_
  refine px_b rfl q_X9_layLine_28 hg rfl trivial ?_
  exact px_go (l_layLine hg x _ L (fun L2 h => ⟨rfl, rfl, rfl, rfl, h⟩) 0 (by decide) (by decide) _ _ hq5.2) ⟨rfl, rfl, rfl, rfl, rfl, rfl, trivial⟩

theorem q_X9_staysNear_0 : px_bk 9 1 cX9_staysNear 0 [(.aload_n 0, (0, 0, 0, 0, 0), 0, 0), (.getfield 35, (9, 8, 1, 0, 0), 0, 0)] = some 4 ∧ px_tS cX9_staysNear 4 140 = true := by decide +kernel
theorem q_X9_staysNear_7 : px_bk 9 1 cX9_staysNear 7 [(.ldc2_w 143, (0, 0, 0, 0, 0), 0, 100000000), (.lcmp, (0, 0, 0, 0, 0), 0, 0)] = some 11 ∧ px_t1 cX9_staysNear 11 .gt 42 = true := by decide +kernel
theorem q_X9_staysNear_42 : px_bk 9 1 cX9_staysNear 42 [(.iconst 0, (0, 0, 0, 0, 0), 0, 0)] = some 43 ∧ px_tr cX9_staysNear 43 .ireturn = true := by decide +kernel
theorem q_X9_staysNear_14 : px_bk 9 1 cX9_staysNear 14 [(.aload_n 0, (0, 0, 0, 0, 0), 0, 0), (.getfield 39, (9, 9, 1, 0, 0), 0, 0)] = some 18 ∧ px_tS cX9_staysNear 18 140 = true := by decide +kernel
theorem q_X9_staysNear_21 : px_bk 9 1 cX9_staysNear 21 [(.ldc2_w 143, (0, 0, 0, 0, 0), 0, 100000000), (.lcmp, (0, 0, 0, 0, 0), 0, 0)] = some 25 ∧ px_t1 cX9_staysNear 25 .gt 42 = true := by decide +kernel
theorem q_X9_staysNear_28 : px_bk 9 1 cX9_staysNear 28 [(.aload_n 0, (0, 0, 0, 0, 0), 0, 0), (.getfield 42, (9, 10, 1, 0, 0), 0, 0)] = some 32 ∧ px_tS cX9_staysNear 32 140 = true := by decide +kernel
theorem q_X9_staysNear_35 : px_bk 9 1 cX9_staysNear 35 [(.ldc2_w 143, (0, 0, 0, 0, 0), 0, 100000000), (.lcmp, (0, 0, 0, 0, 0), 0, 0)] = some 39 ∧ px_t1 cX9_staysNear 39 .le 44 = true := by decide +kernel
theorem q_X9_staysNear_44 : px_bk 9 1 cX9_staysNear 44 [(.aload_n 0, (0, 0, 0, 0, 0), 0, 0), (.getfield 45, (9, 11, 1, 0, 0), 0, 0), (.ldc2_w 143, (0, 0, 0, 0, 0), 0, 100000000), (.lcmp, (0, 0, 0, 0, 0), 0, 0)] = some 52 ∧ px_t1 cX9_staysNear 52 .gt 92 = true := by decide +kernel
theorem q_X9_staysNear_92 : px_bk 9 1 cX9_staysNear 92 [(.iconst 0, (0, 0, 0, 0, 0), 0, 0)] = some 93 ∧ px_tr cX9_staysNear 93 .ireturn = true := by decide +kernel
theorem q_X9_staysNear_55 : px_bk 9 1 cX9_staysNear 55 [(.aload_n 0, (0, 0, 0, 0, 0), 0, 0), (.getfield 48, (9, 12, 1, 0, 0), 0, 0), (.ldc2_w 143, (0, 0, 0, 0, 0), 0, 100000000), (.lcmp, (0, 0, 0, 0, 0), 0, 0)] = some 63 ∧ px_t1 cX9_staysNear 63 .gt 92 = true := by decide +kernel
theorem q_X9_staysNear_66 : px_bk 9 1 cX9_staysNear 66 [(.aload_n 0, (0, 0, 0, 0, 0), 0, 0), (.getfield 51, (9, 13, 1, 0, 0), 0, 0), (.ldc2_w 143, (0, 0, 0, 0, 0), 0, 100000000), (.lcmp, (0, 0, 0, 0, 0), 0, 0)] = some 74 ∧ px_t1 cX9_staysNear 74 .gt 92 = true := by decide +kernel
theorem q_X9_staysNear_77 : px_bk 9 1 cX9_staysNear 77 [(.aload_n 0, (0, 0, 0, 0, 0), 0, 0), (.getfield 54, (9, 14, 1, 0, 0), 0, 0), (.ldc2_w 143, (0, 0, 0, 0, 0), 0, 100000000), (.lcmp, (0, 0, 0, 0, 0), 0, 0)] = some 85 ∧ px_t1 cX9_staysNear 85 .gt 92 = true := by decide +kernel
theorem q_X9_staysNear_88 : px_bk 9 1 cX9_staysNear 88 [(.iconst 1, (0, 0, 0, 0, 0), 1, 0), (.goto 4, (0, 0, 0, 0, 0), 0, 0)] = some 93 ∧ px_tr cX9_staysNear 93 .ireturn = true := by decide +kernel
set_option maxRecDepth 100000 in
theorem c_staysNear {n : Nat} {I : px_I} {L : px_L} {R : px_R} (hg : px_G n R)  : px_KP M_X9_staysNear [.ref 86] n I L R (fun r => r = 0 ∨ r = 1) := by
  refine px_of (plainFor_of_name np_RX9) (fun _ _ _ => trivial) rfl ?_
  refine px_cSQ rfl q_X9_staysNear_0 hg rfl trivial lk_9_140 nm_J9_abs_067f4 (j_absL hg _) rfl rfl rfl ⟨rfl, rfl⟩ ?_
  intro x4 h4
  refine px_lgt rfl q_X9_staysNear_7 hg rfl trivial (fun c11 => ?_) (fun c11 => ?_)
  · refine px_rzP rfl q_X9_staysNear_42 rfl rfl rfl hg rfl trivial ⟨⟨rfl, rfl, rfl, rfl⟩, (by first | exact Or.inl rfl | exact Or.inr rfl | grind), ?_⟩
    first | exact Or.inl rfl | exact Or.inr rfl
  · refine px_cSQ rfl q_X9_staysNear_14 hg rfl trivial lk_9_140 nm_J9_abs_067f4 (j_absL hg _) rfl rfl rfl ⟨rfl, rfl⟩ ?_
    intro x18 h18
    refine px_lgt rfl q_X9_staysNear_21 hg rfl trivial (fun c25 => ?_) (fun c25 => ?_)
    · refine px_rzP rfl q_X9_staysNear_42 rfl rfl rfl hg rfl trivial ⟨⟨rfl, rfl, rfl, rfl⟩, (by first | exact Or.inl rfl | exact Or.inr rfl | grind), ?_⟩
      first | exact Or.inl rfl | exact Or.inr rfl
    · refine px_cSQ rfl q_X9_staysNear_28 hg rfl trivial lk_9_140 nm_J9_abs_067f4 (j_absL hg _) rfl rfl rfl ⟨rfl, rfl⟩ ?_
      intro x32 h32
      refine px_lle rfl q_X9_staysNear_35 hg rfl trivial (fun c39 => ?_) (fun c39 => ?_)
      · refine px_lgt rfl q_X9_staysNear_44 hg rfl trivial (fun c52 => ?_) (fun c52 => ?_)
        · refine px_rzP rfl q_X9_staysNear_92 rfl rfl rfl hg rfl trivial ⟨⟨rfl, rfl, rfl, rfl⟩, (by first | exact Or.inl rfl | exact Or.inr rfl | grind), ?_⟩
          first | exact Or.inl rfl | exact Or.inr rfl
        · refine px_lgt rfl q_X9_staysNear_55 hg rfl trivial (fun c63 => ?_) (fun c63 => ?_)
          · refine px_rzP rfl q_X9_staysNear_92 rfl rfl rfl hg rfl trivial ⟨⟨rfl, rfl, rfl, rfl⟩, (by first | exact Or.inl rfl | exact Or.inr rfl | grind), ?_⟩
            first | exact Or.inl rfl | exact Or.inr rfl
          · refine px_lgt rfl q_X9_staysNear_66 hg rfl trivial (fun c74 => ?_) (fun c74 => ?_)
            · refine px_rzP rfl q_X9_staysNear_92 rfl rfl rfl hg rfl trivial ⟨⟨rfl, rfl, rfl, rfl⟩, (by first | exact Or.inl rfl | exact Or.inr rfl | grind), ?_⟩
              first | exact Or.inl rfl | exact Or.inr rfl
            · refine px_lgt rfl q_X9_staysNear_77 hg rfl trivial (fun c85 => ?_) (fun c85 => ?_)
              · refine px_rzP rfl q_X9_staysNear_92 rfl rfl rfl hg rfl trivial ⟨⟨rfl, rfl, rfl, rfl⟩, (by first | exact Or.inl rfl | exact Or.inr rfl | grind), ?_⟩
                first | exact Or.inl rfl | exact Or.inr rfl
              · refine px_rzP rfl q_X9_staysNear_88 rfl rfl rfl hg rfl trivial ⟨⟨rfl, rfl, rfl, rfl⟩, (by first | exact Or.inl rfl | exact Or.inr rfl | grind), ?_⟩
                first | exact Or.inl rfl | exact Or.inr rfl
      · refine px_rzP rfl q_X9_staysNear_42 rfl rfl rfl hg rfl trivial ⟨⟨rfl, rfl, rfl, rfl⟩, (by first | exact Or.inl rfl | exact Or.inr rfl | grind), ?_⟩
        first | exact Or.inl rfl | exact Or.inr rfl

theorem q_X9_step_0 : px_bk 9 3 cX9_step 0 [(.aload_n 0, (0, 0, 0, 0, 0), 0, 0), (.dup, (0, 0, 0, 0, 0), 0, 0), (.getfield 60, (9, 16, 0, 0, 0), 0, 0), (.iconst 1, (0, 0, 0, 0, 0), 1, 0), (.iadd, (0, 0, 0, 0, 0), 0, 0), (.putfield 60, (9, 16, 0, 0, 0), 0, 0), (.iload_n 1, (0, 0, 0, 0, 0), 0, 0)] = some 11 := by decide +kernel
theorem q_X9_step_11S : decode cX9_step 11 = .ok (.tableswitch 150 0 4 #[33, 41, 71, 85, 99], 33) := by decide +kernel
theorem q_X9_step_44 : px_bk 9 3 cX9_step 44 [(.aload_n 0, (0, 0, 0, 0, 0), 0, 0), (.iload_n 2, (0, 0, 0, 0, 0), 0, 0)] = some 46 ∧ px_tv cX9_step 46 108 = true := by decide +kernel
theorem q_X9_step_49 : px_bk 9 3 cX9_step 49 [(.goto 128, (0, 0, 0, 0, 0), 0, 0), (.aload_n 0, (0, 0, 0, 0, 0), 0, 0), (.aload_n 0, (0, 0, 0, 0, 0), 0, 0)] = some 179 ∧ px_tv cX9_step 179 119 = true := by decide +kernel
theorem q_X9_step_182 : px_bk 9 3 cX9_step 182 [(.putfield 63, (9, 17, 2, 0, 0), 0, 0)] = some 185 ∧ px_tr cX9_step 185 .return_ = true := by decide +kernel
theorem q_X9_step_52 : px_bk 9 3 cX9_step 52 [(.aload_n 0, (0, 0, 0, 0, 0), 0, 0), (.aload_n 0, (0, 0, 0, 0, 0), 0, 0), (.getfield 57, (9, 15, 0, 0, 0), 0, 0), (.iload_n 2, (0, 0, 0, 0, 0), 0, 0), (.iadd, (0, 0, 0, 0, 0), 0, 0), (.bipush 16, (0, 0, 0, 0, 0), 16, 0), (.irem, (0, 0, 0, 0, 0), 0, 0), (.putfield 57, (9, 15, 0, 0, 0), 0, 0), (.aload_n 0, (0, 0, 0, 0, 0), 0, 0), (.dup, (0, 0, 0, 0, 0), 0, 0), (.getfield 54, (9, 14, 1, 0, 0), 0, 0), (.aload_n 0, (0, 0, 0, 0, 0), 0, 0), (.getfield 26, (9, 5, 0, 0, 0), 0, 0), (.i2l, (0, 0, 0, 0, 0), 0, 0), (.ladd, (0, 0, 0, 0, 0), 0, 0), (.putfield 54, (9, 14, 1, 0, 0), 0, 0), (.goto 98, (0, 0, 0, 0, 0), 0, 0), (.aload_n 0, (0, 0, 0, 0, 0), 0, 0), (.aload_n 0, (0, 0, 0, 0, 0), 0, 0)] = some 179 ∧ px_tv cX9_step 179 119 = true := by decide +kernel
theorem q_X9_step_82 : px_bk 9 3 cX9_step 82 [(.aload_n 0, (0, 0, 0, 0, 0), 0, 0), (.dup, (0, 0, 0, 0, 0), 0, 0), (.getfield 42, (9, 10, 1, 0, 0), 0, 0), (.iload_n 2, (0, 0, 0, 0, 0), 0, 0), (.i2l, (0, 0, 0, 0, 0), 0, 0), (.ladd, (0, 0, 0, 0, 0), 0, 0), (.putfield 42, (9, 10, 1, 0, 0), 0, 0), (.goto 84, (0, 0, 0, 0, 0), 0, 0), (.aload_n 0, (0, 0, 0, 0, 0), 0, 0), (.aload_n 0, (0, 0, 0, 0, 0), 0, 0)] = some 179 ∧ px_tv cX9_step 179 119 = true := by decide +kernel
theorem q_X9_step_96 : px_bk 9 3 cX9_step 96 [(.aload_n 0, (0, 0, 0, 0, 0), 0, 0), (.dup, (0, 0, 0, 0, 0), 0, 0), (.getfield 42, (9, 10, 1, 0, 0), 0, 0), (.iload_n 2, (0, 0, 0, 0, 0), 0, 0), (.i2l, (0, 0, 0, 0, 0), 0, 0), (.lsub, (0, 0, 0, 0, 0), 0, 0), (.putfield 42, (9, 10, 1, 0, 0), 0, 0), (.goto 70, (0, 0, 0, 0, 0), 0, 0), (.aload_n 0, (0, 0, 0, 0, 0), 0, 0), (.aload_n 0, (0, 0, 0, 0, 0), 0, 0)] = some 179 ∧ px_tv cX9_step 179 119 = true := by decide +kernel
theorem q_X9_step_110 : px_bk 9 3 cX9_step 110 [(.aload_n 0, (0, 0, 0, 0, 0), 0, 0), (.aload_n 0, (0, 0, 0, 0, 0), 0, 0), (.getfield 45, (9, 11, 1, 0, 0), 0, 0), (.aload_n 0, (0, 0, 0, 0, 0), 0, 0), (.getfield 29, (9, 6, 0, 0, 0), 0, 0), (.i2l, (0, 0, 0, 0, 0), 0, 0)] = some 120 ∧ px_tS cX9_step 120 113 = true := by decide +kernel
theorem q_X9_step_123 : px_bk 9 3 cX9_step 123 [(.putfield 45, (9, 11, 1, 0, 0), 0, 0), (.aload_n 0, (0, 0, 0, 0, 0), 0, 0), (.aload_n 0, (0, 0, 0, 0, 0), 0, 0), (.getfield 48, (9, 12, 1, 0, 0), 0, 0), (.aload_n 0, (0, 0, 0, 0, 0), 0, 0), (.getfield 29, (9, 6, 0, 0, 0), 0, 0), (.i2l, (0, 0, 0, 0, 0), 0, 0)] = some 136 ∧ px_tS cX9_step 136 113 = true := by decide +kernel
theorem q_X9_step_139 : px_bk 9 3 cX9_step 139 [(.putfield 48, (9, 12, 1, 0, 0), 0, 0), (.aload_n 0, (0, 0, 0, 0, 0), 0, 0), (.aload_n 0, (0, 0, 0, 0, 0), 0, 0), (.getfield 54, (9, 14, 1, 0, 0), 0, 0), (.aload_n 0, (0, 0, 0, 0, 0), 0, 0), (.getfield 26, (9, 5, 0, 0, 0), 0, 0), (.i2l, (0, 0, 0, 0, 0), 0, 0)] = some 152 ∧ px_tS cX9_step 152 113 = true := by decide +kernel
theorem q_X9_step_155 : px_bk 9 3 cX9_step 155 [(.putfield 54, (9, 14, 1, 0, 0), 0, 0), (.goto 19, (0, 0, 0, 0, 0), 0, 0), (.aload_n 0, (0, 0, 0, 0, 0), 0, 0), (.aload_n 0, (0, 0, 0, 0, 0), 0, 0)] = some 179 ∧ px_tv cX9_step 179 119 = true := by decide +kernel
theorem q_X9_step_161 : px_bk 9 3 cX9_step 161 [(.aload_n 0, (0, 0, 0, 0, 0), 0, 0), (.aload_n 0, (0, 0, 0, 0, 0), 0, 0), (.getfield 54, (9, 14, 1, 0, 0), 0, 0), (.aload_n 0, (0, 0, 0, 0, 0), 0, 0), (.getfield 32, (9, 7, 0, 0, 0), 0, 0), (.i2l, (0, 0, 0, 0, 0), 0, 0)] = some 171 ∧ px_tS cX9_step 171 113 = true := by decide +kernel
theorem q_X9_step_174 : px_bk 9 3 cX9_step 174 [(.putfield 54, (9, 14, 1, 0, 0), 0, 0), (.aload_n 0, (0, 0, 0, 0, 0), 0, 0), (.aload_n 0, (0, 0, 0, 0, 0), 0, 0)] = some 179 ∧ px_tv cX9_step 179 119 = true := by decide +kernel
set_option maxRecDepth 100000 in
theorem c_step {n : Nat} {I : px_I} {L : px_L} {R : px_R} (hg : px_G n R) (k v : Int32) (h : cWk I) (hv : 0 ≤ v ∧ v ≤ 1000000) : px_KV M_X9_step [.ref 86, .int k, .int v] n I L R (fun I2 L2 => cWk I2 ∧ cWI I I2 ∧ cWL L L2) := by
  refine px_of (plainFor_of_name np_RX9) (fun _ _ _ => trivial) rfl ?_
  have hk := h
  unfold cWk at h
  have h16 := px_rm16 (x := I 86 15 + v) (by grind)
  refine px_b rfl q_X9_step_0 hg rfl trivial ?_
  by_cases s11_0 : k = 0
  · refine px_swI (tgt := 44) (off := 33) q_X9_step_11S s11_0 (by decide) (by decide) (by decide) (by decide) ?_
    refine px_cVW (ci := 9) rfl q_X9_step_44 hg rfl trivial lk_9_108 nm_X9_layLine (c_layLine hg _ (by simp only [px_ur]; simpa using h.2.1)) rfl rfl (px_lit hg rfl) rfl rfl rfl ⟨rfl, rfl⟩ ?_
    intro I46 L46 h46
    obtain ⟨rfl, h46⟩ := h46
    refine px_cVP (ci := 9) rfl q_X9_step_49 hg rfl trivial lk_9_119 nm_X9_staysNear (c_staysNear hg) rfl rfl (px_lit hg rfl) rfl rfl rfl ⟨rfl, rfl⟩ ?_
    intro x179 h179
    refine px_rvW rfl q_X9_step_182 rfl rfl rfl hg rfl ⟨trivial, (by first | decide | exact h179)⟩ ⟨⟨rfl, rfl⟩, ?_⟩
    exact ⟨by unfold cWk; simp [px_ur]; grind, (by repeat (first | exact cWI.rfl' | with_reducible assumption | refine cWI.a7 ?_ _ _ | refine cWI.a8 ?_ _ _ | refine cWI.f ?_ _ _ (by decide))), (by repeat (first | exact cWL.rfl' | with_reducible assumption | refine cWL.u ?_ _ _))⟩
  by_cases s11_1 : k = 1
  · refine px_swI (tgt := 52) (off := 41) q_X9_step_11S s11_1 (by decide) (by decide) (by decide) (by decide) ?_
    refine px_cVP (ci := 9) rfl q_X9_step_52 hg rfl ⟨trivial, (by first | decide | exact h179)⟩ lk_9_119 nm_X9_staysNear (c_staysNear hg) rfl rfl (px_lit hg rfl) rfl rfl rfl ⟨rfl, rfl⟩ ?_
    intro x179 h179
    refine px_rvW rfl q_X9_step_182 rfl rfl rfl hg rfl ⟨trivial, (by first | decide | exact h179)⟩ ⟨⟨rfl, rfl⟩, ?_⟩
    exact ⟨by unfold cWk; simp [px_ur]; grind, (by repeat (first | exact cWI.rfl' | with_reducible assumption | refine cWI.a7 ?_ _ _ | refine cWI.a8 ?_ _ _ | refine cWI.f ?_ _ _ (by decide))), (by repeat (first | exact cWL.rfl' | with_reducible assumption | refine cWL.u ?_ _ _))⟩
  by_cases s11_2 : k = 2
  · refine px_swI (tgt := 82) (off := 71) q_X9_step_11S s11_2 (by decide) (by decide) (by decide) (by decide) ?_
    refine px_cVP (ci := 9) rfl q_X9_step_82 hg rfl trivial lk_9_119 nm_X9_staysNear (c_staysNear hg) rfl rfl (px_lit hg rfl) rfl rfl rfl ⟨rfl, rfl⟩ ?_
    intro x179 h179
    refine px_rvW rfl q_X9_step_182 rfl rfl rfl hg rfl ⟨trivial, (by first | decide | exact h179)⟩ ⟨⟨rfl, rfl⟩, ?_⟩
    exact ⟨by unfold cWk; simp [px_ur]; grind, (by repeat (first | exact cWI.rfl' | with_reducible assumption | refine cWI.a7 ?_ _ _ | refine cWI.a8 ?_ _ _ | refine cWI.f ?_ _ _ (by decide))), (by repeat (first | exact cWL.rfl' | with_reducible assumption | refine cWL.u ?_ _ _))⟩
  by_cases s11_3 : k = 3
  · refine px_swI (tgt := 96) (off := 85) q_X9_step_11S s11_3 (by decide) (by decide) (by decide) (by decide) ?_
    refine px_cVP (ci := 9) rfl q_X9_step_96 hg rfl trivial lk_9_119 nm_X9_staysNear (c_staysNear hg) rfl rfl (px_lit hg rfl) rfl rfl rfl ⟨rfl, rfl⟩ ?_
    intro x179 h179
    refine px_rvW rfl q_X9_step_182 rfl rfl rfl hg rfl ⟨trivial, (by first | decide | exact h179)⟩ ⟨⟨rfl, rfl⟩, ?_⟩
    exact ⟨by unfold cWk; simp [px_ur]; grind, (by repeat (first | exact cWI.rfl' | with_reducible assumption | refine cWI.a7 ?_ _ _ | refine cWI.a8 ?_ _ _ | refine cWI.f ?_ _ _ (by decide))), (by repeat (first | exact cWL.rfl' | with_reducible assumption | refine cWL.u ?_ _ _))⟩
  by_cases s11_4 : k = 4
  · refine px_swI (tgt := 110) (off := 99) q_X9_step_11S s11_4 (by decide) (by decide) (by decide) (by decide) ?_
    refine px_cSQ rfl q_X9_step_110 hg rfl trivial lk_9_113 nm_J9_min_f86c9 (j_minL hg _ _) rfl rfl rfl ⟨rfl, rfl⟩ ?_
    intro x120 h120
    refine px_cSQ rfl q_X9_step_123 hg rfl trivial lk_9_113 nm_J9_min_f86c9 (j_minL hg _ _) rfl rfl rfl ⟨rfl, rfl⟩ ?_
    intro x136 h136
    refine px_cSQ rfl q_X9_step_139 hg rfl trivial lk_9_113 nm_J9_min_f86c9 (j_minL hg _ _) rfl rfl rfl ⟨rfl, rfl⟩ ?_
    intro x152 h152
    refine px_cVP (ci := 9) rfl q_X9_step_155 hg rfl trivial lk_9_119 nm_X9_staysNear (c_staysNear hg) rfl rfl (px_lit hg rfl) rfl rfl rfl ⟨rfl, rfl⟩ ?_
    intro x179 h179
    refine px_rvW rfl q_X9_step_182 rfl rfl rfl hg rfl ⟨trivial, (by first | decide | exact h179)⟩ ⟨⟨rfl, rfl⟩, ?_⟩
    exact ⟨by unfold cWk; simp [px_ur]; grind, (by repeat (first | exact cWI.rfl' | with_reducible assumption | refine cWI.a7 ?_ _ _ | refine cWI.a8 ?_ _ _ | refine cWI.f ?_ _ _ (by decide))), (by repeat (first | exact cWL.rfl' | with_reducible assumption | refine cWL.u ?_ _ _))⟩
  refine px_swO (tgt := 161) q_X9_step_11S (px_out 0 4 (by decide) (fun k9 h8 h9 => ?_)) (by decide) ?_
  · match k9, h8, h9 with
    | 0, _, _ => exact s11_0
    | 1, _, _ => exact s11_1
    | 2, _, _ => exact s11_2
    | 3, _, _ => exact s11_3
    | 4, _, _ => exact s11_4
    | k9 + 5, _, h9 => exact absurd h9 (by omega)
  refine px_cSQ rfl q_X9_step_161 hg rfl trivial lk_9_113 nm_J9_min_f86c9 (j_minL hg _ _) rfl rfl rfl ⟨rfl, rfl⟩ ?_
  intro x171 h171
  refine px_cVP (ci := 9) rfl q_X9_step_174 hg rfl trivial lk_9_119 nm_X9_staysNear (c_staysNear hg) rfl rfl (px_lit hg rfl) rfl rfl rfl ⟨rfl, rfl⟩ ?_
  intro x179 h179
  refine px_rvW rfl q_X9_step_182 rfl rfl rfl hg rfl ⟨trivial, (by first | decide | exact h179)⟩ ⟨⟨rfl, rfl⟩, ?_⟩
  exact ⟨by unfold cWk; simp [px_ur]; grind, (by repeat (first | exact cWI.rfl' | with_reducible assumption | refine cWI.a7 ?_ _ _ | refine cWI.a8 ?_ _ _ | refine cWI.f ?_ _ _ (by decide))), (by repeat (first | exact cWL.rfl' | with_reducible assumption | refine cWL.u ?_ _ _))⟩

theorem q_X9_follow_0 : px_bk 9 4 cX9_follow 0 [(.iload_n 1, (0, 0, 0, 0, 0), 0, 0)] = some 1 := by decide +kernel
theorem q_X9_follow_1S : decode cX9_follow 1 = .ok (.tableswitch 71 6 10 #[35, 47, 53, 63, 69], 35) := by decide +kernel
theorem q_X9_follow_36 : px_bk 9 4 cX9_follow 36 [(.aload_n 0, (0, 0, 0, 0, 0), 0, 0), (.iload_n 3, (0, 0, 0, 0, 0), 0, 0), (.iconst 1, (0, 0, 0, 0, 0), 1, 0), (.iadd, (0, 0, 0, 0, 0), 0, 0), (.iload_n 2, (0, 0, 0, 0, 0), 0, 0)] = some 41 ∧ px_tv cX9_follow 41 94 = true := by decide +kernel
theorem q_X9_follow_44 : px_bk 9 4 cX9_follow 44 [(.iload_n 3, (0, 0, 0, 0, 0), 0, 0), (.iconst 1, (0, 0, 0, 0, 0), 1, 0), (.iadd, (0, 0, 0, 0, 0), 0, 0)] = some 47 ∧ px_tr cX9_follow 47 .ireturn = true := by decide +kernel
theorem q_X9_follow_48 : px_bk 9 4 cX9_follow 48 [(.aload_n 0, (0, 0, 0, 0, 0), 0, 0), (.iload_n 3, (0, 0, 0, 0, 0), 0, 0)] = some 50 ∧ px_tv cX9_follow 50 98 = true := by decide +kernel
theorem q_X9_follow_53 : px_bk 9 4 cX9_follow 53 [] = some 53 ∧ px_tr cX9_follow 53 .ireturn = true := by decide +kernel
theorem q_X9_follow_54 : px_bk 9 4 cX9_follow 54 [(.aload_n 0, (0, 0, 0, 0, 0), 0, 0), (.iload_n 3, (0, 0, 0, 0, 0), 0, 0), (.iconst 1, (0, 0, 0, 0, 0), 1, 0), (.iadd, (0, 0, 0, 0, 0), 0, 0), (.iconst 0, (0, 0, 0, 0, 0), 0, 0)] = some 59 ∧ px_tv cX9_follow 59 94 = true := by decide +kernel
theorem q_X9_follow_62 : px_bk 9 4 cX9_follow 62 [(.iload_n 2, (0, 0, 0, 0, 0), 0, 0)] = some 63 ∧ px_tr cX9_follow 63 .ireturn = true := by decide +kernel
theorem q_X9_follow_64 : px_bk 9 4 cX9_follow 64 [(.aload_n 0, (0, 0, 0, 0, 0), 0, 0), (.iload_n 3, (0, 0, 0, 0, 0), 0, 0)] = some 66 ∧ px_tv cX9_follow 66 102 = true := by decide +kernel
theorem q_X9_follow_69 : px_bk 9 4 cX9_follow 69 [] = some 69 ∧ px_tr cX9_follow 69 .ireturn = true := by decide +kernel
theorem q_X9_follow_70 : px_bk 9 4 cX9_follow 70 [(.iload_n 2, (0, 0, 0, 0, 0), 0, 0)] = some 71 ∧ px_tr cX9_follow 71 .ireturn = true := by decide +kernel
theorem q_X9_follow_72 : px_bk 9 4 cX9_follow 72 [(.aload_n 0, (0, 0, 0, 0, 0), 0, 0), (.iload_n 1, (0, 0, 0, 0, 0), 0, 0), (.iload_n 2, (0, 0, 0, 0, 0), 0, 0)] = some 75 ∧ px_tv cX9_follow 75 105 = true := by decide +kernel
theorem q_X9_follow_78 : px_bk 9 4 cX9_follow 78 [(.iload_n 3, (0, 0, 0, 0, 0), 0, 0), (.iconst 1, (0, 0, 0, 0, 0), 1, 0), (.iadd, (0, 0, 0, 0, 0), 0, 0)] = some 81 ∧ px_tr cX9_follow 81 .ireturn = true := by decide +kernel
set_option maxRecDepth 100000 in
theorem c_follow {n : Nat} {I : px_I} {L : px_L} {R : px_R} (hg : px_G n R) (k v a : Int32) (h : cWk I) (hv : 0 ≤ v ∧ v ≤ 1000000) : px_KS M_X9_follow [.ref 86, .int k, .int v, .int a] n I L R (fun r I2 L2 => cWk I2 ∧ cWI I I2 ∧ cWL L L2) := by
  refine px_of (plainFor_of_name np_RX9) (fun _ _ _ => trivial) rfl ?_
  refine px_b rfl q_X9_follow_0 hg rfl trivial ?_
  by_cases s1_6 : k = 6
  · refine px_swI (tgt := 36) (off := 35) q_X9_follow_1S s1_6 (by decide) (by decide) (by decide) (by decide) ?_
    refine px_cVW (ci := 9) rfl q_X9_follow_36 hg rfl trivial lk_9_94 nm_X9_push (c_push hg _ _ (by assumption)) rfl rfl (px_lit hg rfl) rfl rfl rfl ⟨rfl, rfl⟩ ?_
    intro I41 L41 h41
    obtain ⟨rfl, h41⟩ := h41
    refine px_riS rfl q_X9_follow_44 rfl rfl rfl hg rfl trivial ⟨⟨rfl, rfl⟩, ?_⟩
    first | exact ⟨h, cWI.rfl', cWL.rfl'⟩ | exact ⟨h41.1, h41.2, cWL.rfl'⟩ | exact ⟨h50.1, h50.2, cWL.rfl'⟩ | exact ⟨h59.1, h59.2, cWL.rfl'⟩ | exact ⟨h66.1, h66.2, cWL.rfl'⟩ | exact h75
  by_cases s1_7 : k = 7
  · refine px_swI (tgt := 48) (off := 47) q_X9_follow_1S s1_7 (by decide) (by decide) (by decide) (by decide) ?_
    refine px_cVS (ci := 9) rfl q_X9_follow_48 hg rfl trivial lk_9_98 nm_X9_turnBack (c_turnBack hg _ (by assumption)) rfl rfl (px_lit hg rfl) rfl rfl rfl ⟨rfl, rfl⟩ ?_
    intro x50 I50 L50 h50
    obtain ⟨rfl, h50⟩ := h50
    refine px_riS rfl q_X9_follow_53 rfl rfl rfl hg rfl trivial ⟨⟨rfl, rfl⟩, ?_⟩
    first | exact ⟨h, cWI.rfl', cWL.rfl'⟩ | exact ⟨h41.1, h41.2, cWL.rfl'⟩ | exact ⟨h50.1, h50.2, cWL.rfl'⟩ | exact ⟨h59.1, h59.2, cWL.rfl'⟩ | exact ⟨h66.1, h66.2, cWL.rfl'⟩ | exact h75
  by_cases s1_8 : k = 8
  · refine px_swI (tgt := 54) (off := 53) q_X9_follow_1S s1_8 (by decide) (by decide) (by decide) (by decide) ?_
    refine px_cVW (ci := 9) rfl q_X9_follow_54 hg rfl trivial lk_9_94 nm_X9_push (c_push hg _ _ (by assumption)) rfl rfl (px_lit hg rfl) rfl rfl rfl ⟨rfl, rfl⟩ ?_
    intro I59 L59 h59
    obtain ⟨rfl, h59⟩ := h59
    refine px_riS rfl q_X9_follow_62 rfl rfl rfl hg rfl trivial ⟨⟨rfl, rfl⟩, ?_⟩
    first | exact ⟨h, cWI.rfl', cWL.rfl'⟩ | exact ⟨h41.1, h41.2, cWL.rfl'⟩ | exact ⟨h50.1, h50.2, cWL.rfl'⟩ | exact ⟨h59.1, h59.2, cWL.rfl'⟩ | exact ⟨h66.1, h66.2, cWL.rfl'⟩ | exact h75
  by_cases s1_9 : k = 9
  · refine px_swI (tgt := 64) (off := 63) q_X9_follow_1S s1_9 (by decide) (by decide) (by decide) (by decide) ?_
    refine px_cVS (ci := 9) rfl q_X9_follow_64 hg rfl trivial lk_9_102 nm_X9_pop (c_pop hg _ (by assumption)) rfl rfl (px_lit hg rfl) rfl rfl rfl ⟨rfl, rfl⟩ ?_
    intro x66 I66 L66 h66
    obtain ⟨rfl, h66⟩ := h66
    refine px_riS rfl q_X9_follow_69 rfl rfl rfl hg rfl trivial ⟨⟨rfl, rfl⟩, ?_⟩
    first | exact ⟨h, cWI.rfl', cWL.rfl'⟩ | exact ⟨h41.1, h41.2, cWL.rfl'⟩ | exact ⟨h50.1, h50.2, cWL.rfl'⟩ | exact ⟨h59.1, h59.2, cWL.rfl'⟩ | exact ⟨h66.1, h66.2, cWL.rfl'⟩ | exact h75
  by_cases s1_10 : k = 10
  · refine px_swI (tgt := 70) (off := 69) q_X9_follow_1S s1_10 (by decide) (by decide) (by decide) (by decide) ?_
    refine px_riS rfl q_X9_follow_70 rfl rfl rfl hg rfl trivial ⟨⟨rfl, rfl⟩, ?_⟩
    first | exact ⟨h, cWI.rfl', cWL.rfl'⟩ | exact ⟨h41.1, h41.2, cWL.rfl'⟩ | exact ⟨h50.1, h50.2, cWL.rfl'⟩ | exact ⟨h59.1, h59.2, cWL.rfl'⟩ | exact ⟨h66.1, h66.2, cWL.rfl'⟩ | exact h75
  refine px_swO (tgt := 72) q_X9_follow_1S (px_out 6 10 (by decide) (fun k9 h8 h9 => ?_)) (by decide) ?_
  · match k9, h8, h9 with
    | 6, _, _ => exact s1_6
    | 7, _, _ => exact s1_7
    | 8, _, _ => exact s1_8
    | 9, _, _ => exact s1_9
    | 10, _, _ => exact s1_10
    | 0, h8, _ => exact absurd h8 (by decide)
    | 1, h8, _ => exact absurd h8 (by decide)
    | 2, h8, _ => exact absurd h8 (by decide)
    | 3, h8, _ => exact absurd h8 (by decide)
    | 4, h8, _ => exact absurd h8 (by decide)
    | 5, h8, _ => exact absurd h8 (by decide)
    | k9 + 11, _, h9 => exact absurd h9 (by omega)
  refine px_cVW (ci := 9) rfl q_X9_follow_72 hg rfl trivial lk_9_105 nm_X9_step (c_step hg _ _ (by assumption) (by assumption)) rfl rfl (px_lit hg rfl) rfl rfl rfl ⟨rfl, rfl⟩ ?_
  intro I75 L75 h75
  refine px_riS rfl q_X9_follow_78 rfl rfl rfl hg rfl trivial ⟨⟨rfl, rfl⟩, ?_⟩
  first | exact ⟨h, cWI.rfl', cWL.rfl'⟩ | exact ⟨h41.1, h41.2, cWL.rfl'⟩ | exact ⟨h50.1, h50.2, cWL.rfl'⟩ | exact ⟨h59.1, h59.2, cWL.rfl'⟩ | exact ⟨h66.1, h66.2, cWL.rfl'⟩ | exact h75

theorem cWI.wv {I I2 : px_I} {w : Nat} (h : cWI I I2) (h0 : w = 77 ∨ 147 ≤ w) (hv : cWv I w) : cWv I2 w := by
  refine ⟨?_, fun k => ?_⟩
  · rw [h w 2 (by omega) (by omega) (by omega)]; exact hv.1
  · rw [h (w + 2) k (by omega) (by omega) (by omega)]; exact hv.2 k

theorem q_X9_go_29 : px_bk 9 5 cX9_go 29 [(.iload 4, (0, 0, 0, 0, 0), 0, 0), (.ldc 74, (0, 0, 0, 0, 0), 1000000, 0)] = some 33 ∧ px_t2 cX9_go 33 .ge 89 = true := by decide +kernel
theorem q_X9_go_89 : px_bk 9 5 cX9_go 89 [] = some 89 ∧ px_tr cX9_go 89 .return_ = true := by decide +kernel
theorem q_X9_go_36 : px_bk 9 5 cX9_go 36 [(.aload_n 0, (0, 0, 0, 0, 0), 0, 0), (.getfield 63, (9, 17, 0, 0, 0), 0, 0)] = some 40 ∧ px_t1 cX9_go 40 .eq 89 = true := by decide +kernel
theorem q_X9_go_43 : px_bk 9 5 cX9_go 43 [(.iload_n 3, (0, 0, 0, 0, 0), 0, 0), (.iconst 0, (0, 0, 0, 0, 0), 0, 0), (.aload_n 1, (0, 0, 0, 0, 0), 0, 0), (.getfield 75, (10, 2, 5, 0, 0), 0, 0), (.iconst 1, (0, 0, 0, 0, 0), 1, 0), (.isub, (0, 0, 0, 0, 0), 0, 0)] = some 51 ∧ px_tS cX9_go 51 78 = true := by decide +kernel
theorem q_X9_go_54 : px_bk 9 5 cX9_go 54 [] = some 54 ∧ px_t1 cX9_go 54 .eq 64 = true := by decide +kernel
theorem q_X9_go_64 : px_bk 9 5 cX9_go 64 [] = some 64 ∧ px_tr cX9_go 64 .return_ = true := by decide +kernel
theorem q_X9_go_57 : px_bk 9 5 cX9_go 57 [(.iload_n 3, (0, 0, 0, 0, 0), 0, 0), (.sipush 200, (0, 0, 0, 0, 0), 200, 0)] = some 61 ∧ px_t2 cX9_go 61 .lt 65 = true := by decide +kernel
theorem q_X9_go_65 : px_bk 9 5 cX9_go 65 [(.aload_n 0, (0, 0, 0, 0, 0), 0, 0), (.aload_n 1, (0, 0, 0, 0, 0), 0, 0), (.getfield 84, (10, 0, 6, 1, 0), 0, 0), (.iload_n 3, (0, 0, 0, 0, 0), 0, 0), (.iaload, (1, 0, 0, 0, 0), 200, 0), (.aload_n 1, (0, 0, 0, 0, 0), 0, 0), (.getfield 87, (10, 1, 6, 2, 0), 0, 0), (.iload_n 3, (0, 0, 0, 0, 0), 0, 0), (.iaload, (1, 0, 0, 0, 0), 200, 0), (.iload_n 3, (0, 0, 0, 0, 0), 0, 0)] = some 79 ∧ px_tv cX9_go 79 90 = true := by decide +kernel
theorem q_X9_go_82 : px_bk 9 5 cX9_go 82 [(.istore_n 3, (0, 0, 0, 0, 0), 0, 0), (.iinc 4 1, (0, 0, 0, 0, 0), 1, 0), (.goto (-57), (0, 0, 0, 0, 0), 0, 0)] = some 29 := by decide +kernel
set_option maxRecDepth 100000 in
theorem l_go {n : Nat} {R : px_R} {w : Nat} (hg : px_G n R) (hw : cWay n w) {Q : px_Q} (s : Int32) (h0 : w = 77 ∨ 147 ≤ w) {I0 : px_I} (L0 : px_L) (hv : cWv I0 w) (hq : ∀ I2 L2, (I2 86 17 = 0 ∨ I2 86 17 = 1) → cWI I0 I2 → cWL L0 L2 → Q none n I2 L2 R) : ∀ i : Int32, i ≤ 1000000 → ∀ (a : Int32) (I : px_I) (L : px_L), cWk I → cWI I0 I → cWL L0 L → px M_X9_go 0 0 29 [(0, .ref 86), (1, .ref w), (2, .int s), (3, .int a), (4, .int i)] [] n I L R Q := by
  refine px_up 1000000 (fun i ih hi => ?_)
  intro a I L hk hI hL
  have hv2 := hI.wv h0 hv
  refine px_ige rfl q_X9_go_29 hg rfl trivial (fun c33 => ?_) (fun c33 => ?_)
  · refine px_rv rfl q_X9_go_89 rfl rfl rfl hg rfl trivial ?_
    exact hq _ _ hk.2.2 hI hL
  · refine px_eq rfl q_X9_go_36 hg rfl trivial (fun c40 => ?_) (fun c40 => ?_)
    · refine px_rv rfl q_X9_go_89 rfl rfl rfl hg rfl trivial ?_
      exact hq _ _ hk.2.2 hI hL
    · refine px_cSNP rfl q_X9_go_43 hg rfl ⟨trivial, (by first | exact hw.1 | exact hw.2.1 | exact hw.2.2 | with_reducible assumption)⟩ lk_9_78 nm_X11_within (c_within hg _ _ _) rfl rfl rfl ⟨rfl, rfl⟩ ?_
      intro x51 h51
      refine px_eq rfl q_X9_go_54 hg rfl trivial (fun c54 => ?_) (fun c54 => ?_)
      · replace h51 := px_bf h51 c54
        refine px_rv rfl q_X9_go_64 rfl rfl rfl hg rfl trivial ?_
        exact hq _ _ hk.2.2 hI hL
      · replace h51 := px_bt h51 c54
        refine px_ilt rfl q_X9_go_57 hg rfl trivial (fun c61 => ?_) (fun c61 => ?_)
        · have ha : 0 ≤ a ∧ a < 200 := by grind
          have hn := hv2.2 a.toNatClampNeg
          refine px_cVS (ci := 9) rfl q_X9_go_65 hg rfl ⟨⟨⟨⟨⟨⟨trivial, (by first | exact hw.1 | exact hw.2.1 | exact hw.2.2 | with_reducible assumption)⟩, (by first | exact hw.1 | exact hw.2.1 | exact hw.2.2 | with_reducible assumption)⟩, (by first | exact hw.1 | exact hw.2.1 | exact hw.2.2 | with_reducible assumption)⟩, (by first | exact hw.1 | exact hw.2.1 | exact hw.2.2 | with_reducible assumption)⟩, (by first | exact hw.1 | exact hw.2.1 | exact hw.2.2 | with_reducible assumption)⟩, (by first | exact hw.1 | exact hw.2.1 | exact hw.2.2 | with_reducible assumption)⟩ lk_9_90 nm_X9_follow (c_follow hg _ _ _ hk hn) rfl rfl (px_lit hg rfl) rfl rfl rfl ⟨rfl, rfl⟩ ?_
          intro x79 I79 L79 h79
          refine px_b rfl q_X9_go_82 hg rfl trivial ?_
          exact px_go (ih (i + 1) (by grind) (by grind) _ _ _ h79.1 (hI.trans h79.2.1) (hL.trans h79.2.2)) ⟨rfl, rfl, rfl, rfl, rfl, trivial⟩
        · refine px_rv rfl q_X9_go_64 rfl rfl rfl hg rfl trivial ?_
          exact hq _ _ hk.2.2 hI hL

theorem q_X9_go_0 : px_bk 9 5 cX9_go 0 [(.aload_n 0, (0, 0, 0, 0, 0), 0, 0), (.iload_n 2, (0, 0, 0, 0, 0), 0, 0)] = some 2 ∧ px_tv cX9_go 2 67 = true := by decide +kernel
theorem q_X9_go_5 : px_bk 9 5 cX9_go 5 [(.aload_n 0, (0, 0, 0, 0, 0), 0, 0), (.aload_n 1, (0, 0, 0, 0, 0), 0, 0), (.getfield 71, (10, 3, 5, 0, 0), 0, 0), (.sipush 5000, (0, 0, 0, 0, 0), 5000, 0)] = some 13 ∧ px_t2 cX9_go 13 .gt 20 = true := by decide +kernel
theorem q_X9_go_20 : px_bk 9 5 cX9_go 20 [(.iconst 0, (0, 0, 0, 0, 0), 0, 0), (.putfield 63, (9, 17, 2, 0, 0), 0, 0), (.iconst 0, (0, 0, 0, 0, 0), 0, 0), (.istore_n 3, (0, 0, 0, 0, 0), 0, 0), (.iconst 0, (0, 0, 0, 0, 0), 0, 0), (.istore 4, (0, 0, 0, 0, 0), 0, 0)] = some 29 := by decide +kernel
theorem q_X9_go_16 : px_bk 9 5 cX9_go 16 [(.iconst 1, (0, 0, 0, 0, 0), 1, 0), (.goto 4, (0, 0, 0, 0, 0), 0, 0), (.putfield 63, (9, 17, 2, 0, 0), 0, 0), (.iconst 0, (0, 0, 0, 0, 0), 0, 0), (.istore_n 3, (0, 0, 0, 0, 0), 0, 0), (.iconst 0, (0, 0, 0, 0, 0), 0, 0), (.istore 4, (0, 0, 0, 0, 0), 0, 0)] = some 29 := by decide +kernel
set_option maxRecDepth 100000 in
theorem c_go {n : Nat} {I : px_I} {L : px_L} {R : px_R} {w : Nat} (hg : px_G n R) (hw : cWay n w) (s : Int32) (hs : 0 ≤ s ∧ s ≤ 15) (h0 : w = 77 ∨ 147 ≤ w) (hv : cWv I w) : px_KV M_X9_go [.ref 86, .ref w, .int s] n I L R (fun I2 L2 => (I2 86 17 = 0 ∨ I2 86 17 = 1) ∧ cWI I I2 ∧ cWL L L2) := by
  refine px_of (plainFor_of_name np_RX9) (fun _ _ _ => trivial) rfl ?_
  refine px_cVW (ci := 9) rfl q_X9_go_0 hg rfl trivial lk_9_67 nm_X9_begin (c_beginW hg _ (by assumption)) rfl rfl (px_lit hg rfl) rfl rfl rfl ⟨rfl, rfl⟩ ?_
  intro I2 L2 h2
  obtain ⟨h2a, h2b, h2c, h2d⟩ := h2
  refine px_igt rfl q_X9_go_5 hg rfl ⟨trivial, (by first | exact hw.1 | exact Or.inl rfl | exact Or.inr rfl)⟩ (fun c13 => ?_) (fun c13 => ?_)
  · refine px_b rfl q_X9_go_20 hg rfl ⟨trivial, (by first | exact hw.1 | exact Or.inl rfl | exact Or.inr rfl)⟩ ?_
    exact px_go (l_go hg hw s h0 L hv (fun I2 L2 h1 h2 h3 => ⟨rfl, rfl, rfl, h1, h2, h3⟩) 0 (by decide) 0 _ _ (by unfold cWk; simp [px_ur]; grind) (h2c.f _ _ (by decide)) h2d) ⟨rfl, rfl, rfl, rfl, rfl, trivial⟩
  · refine px_b rfl q_X9_go_16 hg rfl ⟨trivial, (by first | exact hw.1 | exact Or.inl rfl | exact Or.inr rfl)⟩ ?_
    exact px_go (l_go hg hw s h0 L hv (fun I2 L2 h1 h2 h3 => ⟨rfl, rfl, rfl, h1, h2, h3⟩) 0 (by decide) 0 _ _ (by unfold cWk; simp [px_ur]; grind) (h2c.f _ _ (by decide)) h2d) ⟨rfl, rfl, rfl, rfl, rfl, trivial⟩

def cTold (n : Nat) (I : px_I) (R : px_R) : Prop := ∀ i : Nat, i < 6 → ∀ w, R 89 i = some w → (w = 77 ∨ 147 ≤ w) ∧ cWay n w ∧ cWv I w
def cMI (I I2 : px_I) : Prop := ∀ b j, b ≠ 87 → b ≠ 88 → b ≠ 90 → b ≠ 91 → ¬ (b = 86 ∧ (j = 2 ∨ j = 15 ∨ j = 16 ∨ j = 17)) → I2 b j = I b j
theorem cMI.rfl' {I : px_I} : cMI I I := fun _ _ _ _ _ _ _ => rfl
theorem cMI.trans {I I1 I2 : px_I} (h : cMI I I1) (h2 : cMI I1 I2) : cMI I I2 := fun b j h3 h4 h5 h6 h7 => (h2 b j h3 h4 h5 h6 h7).trans (h b j h3 h4 h5 h6 h7)
theorem cWI.M {I I2 : px_I} (h : cWI I I2) : cMI I I2 := fun b j h3 h4 h5 h6 h7 => h b j h3 h4 h7
theorem cMI.k {I I1 : px_I} (h : cMI I I1) (k : Nat) (v : Int32) : cMI I (px_u I1 90 k v) := fun b j h3 h4 h5 h6 h7 => by rw [px_u_ne h5]; exact h b j h3 h4 h5 h6 h7
theorem cMI.a {I I1 : px_I} (h : cMI I I1) (k : Nat) (v : Int32) : cMI I (px_u I1 91 k v) := fun b j h3 h4 h5 h6 h7 => by rw [px_u_ne h6]; exact h b j h3 h4 h5 h6 h7
theorem cMI.told {n : Nat} {I I2 : px_I} {R : px_R} (h : cMI I I2) (ht : cTold n I R) : cTold n I2 R := fun i hi w hw => by
  obtain ⟨h1, h2, h3⟩ := ht i hi w hw
  refine ⟨h1, h2, ?_, fun k => ?_⟩
  · rw [h w 2 (by omega) (by omega) (by omega) (by omega) (by omega)]; exact h3.1
  · rw [h (w + 2) k (by omega) (by omega) (by omega) (by omega) (by omega)]; exact h3.2 k
def cKF (I I2 : px_I) : Prop := ∀ b, b ≠ 90 → I2 b = I b
def cAF (I I2 : px_I) : Prop := ∀ b, b ≠ 91 → I2 b = I b
theorem cKF.u {I I1 : px_I} (h : cKF I I1) (k : Nat) (v : Int32) : cKF I (px_u I1 90 k v) := fun b h3 => by rw [px_u_ne h3]; exact h b h3
theorem cAF.u {I I1 : px_I} (h : cAF I I1) (k : Nat) (v : Int32) : cAF I (px_u I1 91 k v) := fun b h3 => by rw [px_u_ne h3]; exact h b h3
theorem cAF.M {I I2 : px_I} (h : cAF I I2) : cMI I I2 := fun b j h3 h4 h5 h6 h7 => by rw [h b h6]
theorem cKF.M {I I2 : px_I} (h : cKF I I2) : cMI I I2 := fun b j h3 h4 h5 h6 h7 => by rw [h b h5]

theorem q_X5_hasPlace_0 : px_bk 5 2 cX5_hasPlace 0 [(.iload_n 1, (0, 0, 0, 0, 0), 0, 0)] = some 1 ∧ px_t1 cX5_hasPlace 1 .lt 14 = true := by decide +kernel
theorem q_X5_hasPlace_14 : px_bk 5 2 cX5_hasPlace 14 [(.iconst 0, (0, 0, 0, 0, 0), 0, 0)] = some 15 ∧ px_tr cX5_hasPlace 15 .ireturn = true := by decide +kernel
theorem q_X5_hasPlace_4 : px_bk 5 2 cX5_hasPlace 4 [(.iload_n 1, (0, 0, 0, 0, 0), 0, 0), (.bipush 6, (0, 0, 0, 0, 0), 6, 0)] = some 7 ∧ px_t2 cX5_hasPlace 7 .ge 14 = true := by decide +kernel
theorem q_X5_hasPlace_10 : px_bk 5 2 cX5_hasPlace 10 [(.iconst 1, (0, 0, 0, 0, 0), 1, 0), (.goto 4, (0, 0, 0, 0, 0), 0, 0)] = some 15 ∧ px_tr cX5_hasPlace 15 .ireturn = true := by decide +kernel
set_option maxRecDepth 100000 in
theorem c_hasPlace {n : Nat} {I : px_I} {L : px_L} {R : px_R} (hg : px_G n R) (x : Int32) : px_KP M_X5_hasPlace [.ref 85, .int x] n I L R (fun r => (r = 1 ∧ (0 ≤ x ∧ x < 6)) ∨ (r = 0 ∧ ¬ (0 ≤ x ∧ x < 6))) := by
  refine px_of (plainFor_of_name np_RX5) (fun _ _ _ => trivial) rfl ?_
  refine px_lt rfl q_X5_hasPlace_0 hg rfl trivial (fun c1 => ?_) (fun c1 => ?_)
  · refine px_rzP rfl q_X5_hasPlace_14 rfl rfl rfl hg rfl trivial ⟨⟨rfl, rfl, rfl, rfl⟩, (by first | exact Or.inl rfl | exact Or.inr rfl | grind), ?_⟩
    grind
  · refine px_ige rfl q_X5_hasPlace_4 hg rfl trivial (fun c7 => ?_) (fun c7 => ?_)
    · refine px_rzP rfl q_X5_hasPlace_14 rfl rfl rfl hg rfl trivial ⟨⟨rfl, rfl, rfl, rfl⟩, (by first | exact Or.inl rfl | exact Or.inr rfl | grind), ?_⟩
      grind
    · refine px_rzP rfl q_X5_hasPlace_10 rfl rfl rfl hg rfl trivial ⟨⟨rfl, rfl, rfl, rfl⟩, (by first | exact Or.inl rfl | exact Or.inr rfl | grind), ?_⟩
      grind

theorem q_X5_isTold_0 : px_bk 5 2 cX5_isTold 0 [(.aload_n 0, (0, 0, 0, 0, 0), 0, 0), (.iload_n 1, (0, 0, 0, 0, 0), 0, 0)] = some 2 ∧ px_tv cX5_isTold 2 32 = true := by decide +kernel
theorem q_X5_isTold_5 : px_bk 5 2 cX5_isTold 5 [] = some 5 ∧ px_t1 cX5_isTold 5 .eq 21 = true := by decide +kernel
theorem q_X5_isTold_21 : px_bk 5 2 cX5_isTold 21 [(.iconst 0, (0, 0, 0, 0, 0), 0, 0)] = some 22 ∧ px_tr cX5_isTold 22 .ireturn = true := by decide +kernel
theorem q_X5_isTold_8 : px_bk 5 2 cX5_isTold 8 [(.aload_n 0, (0, 0, 0, 0, 0), 0, 0), (.getfield 20, (5, 1, 3, 89, 0), 0, 0), (.iload_n 1, (0, 0, 0, 0, 0), 0, 0)] = some 13 := by decide +kernel
theorem q_X5_isTold_14 : px_bk 5 2 cX5_isTold 14 [] = some 14 ∧ px_t3 cX5_isTold 14 21 = true := by decide +kernel
theorem q_X5_isTold_17 : px_bk 5 2 cX5_isTold 17 [(.iconst 1, (0, 0, 0, 0, 0), 1, 0), (.goto 4, (0, 0, 0, 0, 0), 0, 0)] = some 22 ∧ px_tr cX5_isTold 22 .ireturn = true := by decide +kernel
set_option maxRecDepth 100000 in
theorem c_isTold {n : Nat} {I : px_I} {L : px_L} {R : px_R} (hg : px_G n R) (x : Int32) : px_KP M_X5_isTold [.ref 85, .int x] n I L R (fun r => (r = 1 ∧ ((0 ≤ x ∧ x < 6) ∧ R 89 x.toNatClampNeg ≠ none)) ∨ (r = 0 ∧ ¬ ((0 ≤ x ∧ x < 6) ∧ R 89 x.toNatClampNeg ≠ none))) := by
  refine px_of (plainFor_of_name np_RX5) (fun _ _ _ => trivial) rfl ?_
  refine px_cVP (ci := 5) rfl q_X5_isTold_0 hg rfl trivial lk_5_32 nm_X5_hasPlace (c_hasPlace hg _) rfl rfl (px_lit hg rfl) rfl rfl rfl ⟨rfl, rfl⟩ ?_
  intro x2 h2
  refine px_eq rfl q_X5_isTold_5 hg rfl trivial (fun c5 => ?_) (fun c5 => ?_)
  · replace h2 := px_bf h2 c5
    refine px_rzP rfl q_X5_isTold_21 rfl rfl rfl hg rfl trivial ⟨⟨rfl, rfl, rfl, rfl⟩, (by first | exact Or.inl rfl | exact Or.inr rfl | grind), ?_⟩
    first | exact Or.inl ⟨rfl, h2, by rw [c14]; simp⟩ | exact Or.inr ⟨rfl, fun z => h2 z.1⟩ | exact Or.inr ⟨rfl, fun z => z.2 c14⟩
  · replace h2 := px_bt h2 c5
    refine px_b rfl q_X5_isTold_8 hg rfl trivial ?_
    refine px_aald hg (by decide +kernel) h2 ?_
    refine px_null rfl q_X5_isTold_14 hg rfl trivial (fun c14 => ?_) (fun a14 c14 => ?_)
    · refine px_rzP rfl q_X5_isTold_21 rfl rfl rfl hg rfl trivial ⟨⟨rfl, rfl, rfl, rfl⟩, (by first | exact Or.inl rfl | exact Or.inr rfl | grind), ?_⟩
      first | exact Or.inl ⟨rfl, h2, by rw [c14]; simp⟩ | exact Or.inr ⟨rfl, fun z => h2 z.1⟩ | exact Or.inr ⟨rfl, fun z => z.2 c14⟩
    · refine px_rzP rfl q_X5_isTold_17 rfl rfl rfl hg rfl trivial ⟨⟨rfl, rfl, rfl, rfl⟩, (by first | exact Or.inl rfl | exact Or.inr rfl | grind), ?_⟩
      first | exact Or.inl ⟨rfl, h2, by rw [c14]; simp⟩ | exact Or.inr ⟨rfl, fun z => h2 z.1⟩ | exact Or.inr ⟨rfl, fun z => z.2 c14⟩

theorem q_X5_toldWays_4 : px_bk 5 3 cX5_toldWays 4 [(.iload_n 2, (0, 0, 0, 0, 0), 0, 0), (.bipush 6, (0, 0, 0, 0, 0), 6, 0)] = some 7 ∧ px_t2 cX5_toldWays 7 .ge 30 = true := by decide +kernel
theorem q_X5_toldWays_30 : px_bk 5 3 cX5_toldWays 30 [(.iload_n 1, (0, 0, 0, 0, 0), 0, 0)] = some 31 ∧ px_tr cX5_toldWays 31 .ireturn = true := by decide +kernel
theorem q_X5_toldWays_10 : px_bk 5 3 cX5_toldWays 10 [(.aload_n 0, (0, 0, 0, 0, 0), 0, 0), (.iload_n 2, (0, 0, 0, 0, 0), 0, 0)] = some 12 ∧ px_tv cX5_toldWays 12 36 = true := by decide +kernel
theorem q_X5_toldWays_15 : px_bk 5 3 cX5_toldWays 15 [] = some 15 ∧ px_t1 cX5_toldWays 15 .eq 24 = true := by decide +kernel
theorem q_X5_toldWays_24 : px_bk 5 3 cX5_toldWays 24 [(.iinc 2 1, (0, 0, 0, 0, 0), 1, 0), (.goto (-23), (0, 0, 0, 0, 0), 0, 0)] = some 4 := by decide +kernel
theorem q_X5_toldWays_18 : px_bk 5 3 cX5_toldWays 18 [(.iload_n 1, (0, 0, 0, 0, 0), 0, 0), (.iconst 1, (0, 0, 0, 0, 0), 1, 0), (.iload_n 2, (0, 0, 0, 0, 0), 0, 0), (.ishl, (0, 0, 0, 0, 0), 0, 0), (.ior, (0, 0, 0, 0, 0), 0, 0), (.istore_n 1, (0, 0, 0, 0, 0), 0, 0), (.iinc 2 1, (0, 0, 0, 0, 0), 1, 0), (.goto (-23), (0, 0, 0, 0, 0), 0, 0)] = some 4 := by decide +kernel
set_option maxRecDepth 100000 in
theorem l_toldWays {n : Nat} {R : px_R} (hg : px_G n R) {Q : px_Q} {I : px_I} {L : px_L} (hq : ∀ r, Q (some (.int r)) n I L R) : ∀ i : Int32, i ≤ 6 → 0 ≤ i → ∀ x : Int32, px M_X5_toldWays 0 0 4 [(0, .ref 85), (1, .int x), (2, .int i)] [] n I L R Q := by
  refine px_up 6 (fun i ih hi => ?_)
  intro h0 x
  refine px_ige rfl q_X5_toldWays_4 hg rfl trivial (fun c7 => ?_) (fun c7 => ?_)
  · refine px_ri rfl q_X5_toldWays_30 rfl rfl rfl hg rfl trivial ?_
    exact hq _
  · refine px_cVP (ci := 5) rfl q_X5_toldWays_10 hg rfl trivial lk_5_36 nm_X5_isTold (c_isTold hg _) rfl rfl (px_lit hg rfl) rfl rfl rfl ⟨rfl, rfl⟩ ?_
    intro x12 h12
    refine px_eq rfl q_X5_toldWays_15 hg rfl trivial (fun c15 => ?_) (fun c15 => ?_)
    · replace h12 := px_bf h12 c15
      refine px_b rfl q_X5_toldWays_24 hg rfl trivial ?_
      exact px_go (ih (i + 1) (by grind) (by grind) (by grind) _) ⟨rfl, rfl, rfl, trivial⟩
    · replace h12 := px_bt h12 c15
      refine px_b rfl q_X5_toldWays_18 hg rfl trivial ?_
      exact px_go (ih (i + 1) (by grind) (by grind) (by grind) _) ⟨rfl, rfl, rfl, trivial⟩

theorem q_X5_toldWays_0 : px_bk 5 3 cX5_toldWays 0 [(.iconst 0, (0, 0, 0, 0, 0), 0, 0), (.istore_n 1, (0, 0, 0, 0, 0), 0, 0), (.iconst 0, (0, 0, 0, 0, 0), 0, 0), (.istore_n 2, (0, 0, 0, 0, 0), 0, 0)] = some 4 := by decide +kernel
set_option maxRecDepth 100000 in
theorem c_toldWays {n : Nat} {I : px_I} {L : px_L} {R : px_R} (hg : px_G n R)  : px_KP M_X5_toldWays [.ref 85] n I L R (fun r => True) := by
  refine px_of (plainFor_of_name np_RX5) (fun _ _ _ => trivial) rfl ?_
  refine px_b rfl q_X5_toldWays_0 hg rfl trivial ?_
  exact px_go (l_toldWays hg (fun r => ⟨rfl, rfl, r, rfl, rfl, rfl, trivial⟩) 0 (by decide) (by decide) 0) ⟨rfl, rfl, rfl, trivial⟩

theorem q_X5_forgetAll_2 : px_bk 5 2 cX5_forgetAll 2 [(.iload_n 1, (0, 0, 0, 0, 0), 0, 0), (.bipush 96, (0, 0, 0, 0, 0), 96, 0)] = some 5 ∧ px_t2 cX5_forgetAll 5 .ge 21 = true := by decide +kernel
theorem q_X5_forgetAll_21 : px_bk 5 2 cX5_forgetAll 21 [] = some 21 ∧ px_tr cX5_forgetAll 21 .return_ = true := by decide +kernel
theorem q_X5_forgetAll_8 : px_bk 5 2 cX5_forgetAll 8 [(.aload_n 0, (0, 0, 0, 0, 0), 0, 0), (.getfield 24, (5, 2, 3, 90, 0), 0, 0), (.iload_n 1, (0, 0, 0, 0, 0), 0, 0), (.iconst 0, (0, 0, 0, 0, 0), 0, 0), (.bastore, (0, 0, 0, 0, 0), 0, 0), (.iinc 1 1, (0, 0, 0, 0, 0), 1, 0), (.goto (-16), (0, 0, 0, 0, 0), 0, 0)] = some 2 := by decide +kernel
set_option maxRecDepth 100000 in
theorem l_forgetAll {n : Nat} {R : px_R} (hg : px_G n R) {Q : px_Q} {I : px_I} {L : px_L} (hq : ∀ I2, cKF I I2 → Q none n I2 L R) : ∀ i : Int32, i ≤ 96 → 0 ≤ i → ∀ I1, cKF I I1 → px M_X5_forgetAll 0 0 2 [(0, .ref 85), (1, .int i)] [] n I1 L R Q := by
  refine px_up 96 (fun i ih hi => ?_)
  intro h0 I1 h1
  refine px_ige rfl q_X5_forgetAll_2 hg rfl trivial (fun c5 => ?_) (fun c5 => ?_)
  · refine px_rv rfl q_X5_forgetAll_21 rfl rfl rfl hg rfl trivial ?_
    exact hq _ h1
  · refine px_b rfl q_X5_forgetAll_8 hg rfl ⟨trivial, (by first | decide | (refine ⟨?_, ?_⟩ <;> grind) | grind)⟩ ?_
    exact px_go (ih (i + 1) (by grind) (by grind) (by grind) _ (h1.u _ _)) ⟨rfl, rfl, trivial⟩

theorem q_X5_forgetAll_0 : px_bk 5 2 cX5_forgetAll 0 [(.iconst 0, (0, 0, 0, 0, 0), 0, 0), (.istore_n 1, (0, 0, 0, 0, 0), 0, 0)] = some 2 := by decide +kernel
set_option maxRecDepth 100000 in
theorem c_forgetAll {n : Nat} {I : px_I} {L : px_L} {R : px_R} (hg : px_G n R)  : px_KV M_X5_forgetAll [.ref 85] n I L R (fun I2 L2 => L2 = L ∧ cKF I I2) := by
  refine px_of (plainFor_of_name np_RX5) (fun _ _ _ => trivial) rfl ?_
  refine px_b rfl q_X5_forgetAll_0 hg rfl trivial ?_
  exact px_go (l_forgetAll hg (fun I2 h => ⟨rfl, rfl, rfl, rfl, h⟩) 0 (by decide) (by decide) I (fun _ _ => rfl)) ⟨rfl, rfl, trivial⟩

theorem q_X5_keep_12 : px_bk 5 3 cX5_keep 12 [(.iload_n 2, (0, 0, 0, 0, 0), 0, 0), (.bipush 9, (0, 0, 0, 0, 0), 9, 0)] = some 15 ∧ px_t2 cX5_keep 15 .ge 34 = true := by decide +kernel
theorem q_X5_keep_34 : px_bk 5 3 cX5_keep 34 [] = some 34 ∧ px_tr cX5_keep 34 .return_ = true := by decide +kernel
theorem q_X5_keep_18 : px_bk 5 3 cX5_keep 18 [(.aload_n 0, (0, 0, 0, 0, 0), 0, 0), (.getfield 28, (5, 3, 3, 91, 0), 0, 0), (.iload_n 1, (0, 0, 0, 0, 0), 0, 0), (.iload_n 2, (0, 0, 0, 0, 0), 0, 0), (.iadd, (0, 0, 0, 0, 0), 0, 0), (.ldc 52, (0, 0, 0, 0, 0), -2000000000, 0), (.iastore, (0, 0, 0, 0, 0), 0, 0), (.iinc 2 1, (0, 0, 0, 0, 0), 1, 0), (.goto (-19), (0, 0, 0, 0, 0), 0, 0)] = some 12 := by decide +kernel
set_option maxRecDepth 100000 in
theorem l_keep {n : Nat} {R : px_R} (hg : px_G n R) {Q : px_Q} (a : Int32) (ha : 0 ≤ a ∧ a ≤ 855) {I : px_I} {L : px_L} (hq : ∀ I2, cAF I I2 → Q none n I2 L R) : ∀ i : Int32, i ≤ 9 → 0 ≤ i → ∀ I1, cAF I I1 → px M_X5_keep 0 0 12 [(0, .ref 85), (1, .int a), (2, .int i)] [] n I1 L R Q := by
  refine px_up 9 (fun i ih hi => ?_)
  intro h0 I1 h1
  refine px_ige rfl q_X5_keep_12 hg rfl trivial (fun c15 => ?_) (fun c15 => ?_)
  · refine px_rv rfl q_X5_keep_34 rfl rfl rfl hg rfl trivial ?_
    exact hq _ h1
  · refine px_b rfl q_X5_keep_18 hg rfl ⟨trivial, (by first | decide | (refine ⟨?_, ?_⟩ <;> grind) | grind)⟩ ?_
    exact px_go (ih (i + 1) (by grind) (by grind) (by grind) _ (h1.u _ _)) ⟨rfl, rfl, rfl, trivial⟩

theorem q_X5_keep_0 : px_bk 5 3 cX5_keep 0 [(.aload_n 0, (0, 0, 0, 0, 0), 0, 0), (.getfield 12, (5, 0, 3, 86, 0), 0, 0), (.getfield 48, (9, 17, 0, 0, 0), 0, 0)] = some 7 ∧ px_t1 cX5_keep 7 .ne 35 = true := by decide +kernel
theorem q_X5_keep_35 : px_bk 5 3 cX5_keep 35 [(.aload_n 0, (0, 0, 0, 0, 0), 0, 0), (.getfield 28, (5, 3, 3, 91, 0), 0, 0), (.iload_n 1, (0, 0, 0, 0, 0), 0, 0), (.aload_n 0, (0, 0, 0, 0, 0), 0, 0), (.getfield 12, (5, 0, 3, 86, 0), 0, 0), (.getfield 53, (9, 8, 1, 0, 0), 0, 0), (.l2i, (0, 0, 0, 0, 0), 0, 0), (.iastore, (0, 0, 0, 0, 0), 0, 0), (.aload_n 0, (0, 0, 0, 0, 0), 0, 0), (.getfield 28, (5, 3, 3, 91, 0), 0, 0), (.iload_n 1, (0, 0, 0, 0, 0), 0, 0), (.iconst 1, (0, 0, 0, 0, 0), 1, 0), (.iadd, (0, 0, 0, 0, 0), 0, 0), (.aload_n 0, (0, 0, 0, 0, 0), 0, 0), (.getfield 12, (5, 0, 3, 86, 0), 0, 0), (.getfield 57, (9, 9, 1, 0, 0), 0, 0), (.l2i, (0, 0, 0, 0, 0), 0, 0), (.iastore, (0, 0, 0, 0, 0), 0, 0), (.aload_n 0, (0, 0, 0, 0, 0), 0, 0), (.getfield 28, (5, 3, 3, 91, 0), 0, 0), (.iload_n 1, (0, 0, 0, 0, 0), 0, 0), (.iconst 2, (0, 0, 0, 0, 0), 2, 0), (.iadd, (0, 0, 0, 0, 0), 0, 0), (.aload_n 0, (0, 0, 0, 0, 0), 0, 0), (.getfield 12, (5, 0, 3, 86, 0), 0, 0), (.getfield 60, (9, 10, 1, 0, 0), 0, 0), (.l2i, (0, 0, 0, 0, 0), 0, 0), (.iastore, (0, 0, 0, 0, 0), 0, 0), (.aload_n 0, (0, 0, 0, 0, 0), 0, 0), (.getfield 28, (5, 3, 3, 91, 0), 0, 0), (.iload_n 1, (0, 0, 0, 0, 0), 0, 0), (.iconst 3, (0, 0, 0, 0, 0), 3, 0), (.iadd, (0, 0, 0, 0, 0), 0, 0), (.aload_n 0, (0, 0, 0, 0, 0), 0, 0), (.getfield 12, (5, 0, 3, 86, 0), 0, 0), (.getfield 63, (9, 11, 1, 0, 0), 0, 0), (.l2i, (0, 0, 0, 0, 0), 0, 0), (.iastore, (0, 0, 0, 0, 0), 0, 0), (.aload_n 0, (0, 0, 0, 0, 0), 0, 0), (.getfield 28, (5, 3, 3, 91, 0), 0, 0), (.iload_n 1, (0, 0, 0, 0, 0), 0, 0), (.iconst 4, (0, 0, 0, 0, 0), 4, 0), (.iadd, (0, 0, 0, 0, 0), 0, 0), (.aload_n 0, (0, 0, 0, 0, 0), 0, 0), (.getfield 12, (5, 0, 3, 86, 0), 0, 0), (.getfield 66, (9, 12, 1, 0, 0), 0, 0), (.l2i, (0, 0, 0, 0, 0), 0, 0), (.iastore, (0, 0, 0, 0, 0), 0, 0), (.aload_n 0, (0, 0, 0, 0, 0), 0, 0), (.getfield 28, (5, 3, 3, 91, 0), 0, 0), (.iload_n 1, (0, 0, 0, 0, 0), 0, 0), (.iconst 5, (0, 0, 0, 0, 0), 5, 0), (.iadd, (0, 0, 0, 0, 0), 0, 0), (.aload_n 0, (0, 0, 0, 0, 0), 0, 0), (.getfield 12, (5, 0, 3, 86, 0), 0, 0), (.getfield 69, (9, 13, 1, 0, 0), 0, 0), (.l2i, (0, 0, 0, 0, 0), 0, 0), (.iastore, (0, 0, 0, 0, 0), 0, 0), (.aload_n 0, (0, 0, 0, 0, 0), 0, 0), (.getfield 28, (5, 3, 3, 91, 0), 0, 0), (.iload_n 1, (0, 0, 0, 0, 0), 0, 0), (.bipush 6, (0, 0, 0, 0, 0), 6, 0), (.iadd, (0, 0, 0, 0, 0), 0, 0), (.aload_n 0, (0, 0, 0, 0, 0), 0, 0), (.getfield 12, (5, 0, 3, 86, 0), 0, 0), (.getfield 72, (9, 14, 1, 0, 0), 0, 0), (.l2i, (0, 0, 0, 0, 0), 0, 0), (.iastore, (0, 0, 0, 0, 0), 0, 0), (.aload_n 0, (0, 0, 0, 0, 0), 0, 0), (.getfield 28, (5, 3, 3, 91, 0), 0, 0), (.iload_n 1, (0, 0, 0, 0, 0), 0, 0), (.bipush 7, (0, 0, 0, 0, 0), 7, 0), (.iadd, (0, 0, 0, 0, 0), 0, 0), (.aload_n 0, (0, 0, 0, 0, 0), 0, 0), (.getfield 12, (5, 0, 3, 86, 0), 0, 0), (.getfield 75, (9, 15, 0, 0, 0), 0, 0), (.iastore, (0, 0, 0, 0, 0), 0, 0), (.aload_n 0, (0, 0, 0, 0, 0), 0, 0), (.getfield 28, (5, 3, 3, 91, 0), 0, 0), (.iload_n 1, (0, 0, 0, 0, 0), 0, 0), (.bipush 8, (0, 0, 0, 0, 0), 8, 0), (.iadd, (0, 0, 0, 0, 0), 0, 0), (.aload_n 0, (0, 0, 0, 0, 0), 0, 0), (.getfield 12, (5, 0, 3, 86, 0), 0, 0), (.getfield 79, (9, 16, 0, 0, 0), 0, 0), (.iastore, (0, 0, 0, 0, 0), 0, 0)] = some 178 ∧ px_tr cX5_keep 178 .return_ = true := by decide +kernel
theorem q_X5_keep_10 : px_bk 5 3 cX5_keep 10 [(.iconst 0, (0, 0, 0, 0, 0), 0, 0), (.istore_n 2, (0, 0, 0, 0, 0), 0, 0)] = some 12 := by decide +kernel
set_option maxRecDepth 100000 in
theorem c_keep {n : Nat} {I : px_I} {L : px_L} {R : px_R} (hg : px_G n R) (a : Int32) (ha : 0 ≤ a ∧ a ≤ 855) : px_KV M_X5_keep [.ref 85, .int a] n I L R (fun I2 L2 => L2 = L ∧ cAF I I2) := by
  refine px_of (plainFor_of_name np_RX5) (fun _ _ _ => trivial) rfl ?_
  refine px_ne rfl q_X5_keep_0 hg rfl trivial (fun c7 => ?_) (fun c7 => ?_)
  · refine px_rvW rfl q_X5_keep_35 rfl rfl rfl hg rfl ⟨⟨⟨⟨⟨⟨⟨⟨⟨trivial, (by first | exact Or.inl rfl | (refine ⟨?_, ?_⟩ <;> grind))⟩, (by first | exact Or.inl rfl | (refine ⟨?_, ?_⟩ <;> grind))⟩, (by first | exact Or.inl rfl | (refine ⟨?_, ?_⟩ <;> grind))⟩, (by first | exact Or.inl rfl | (refine ⟨?_, ?_⟩ <;> grind))⟩, (by first | exact Or.inl rfl | (refine ⟨?_, ?_⟩ <;> grind))⟩, (by first | exact Or.inl rfl | (refine ⟨?_, ?_⟩ <;> grind))⟩, (by first | exact Or.inl rfl | (refine ⟨?_, ?_⟩ <;> grind))⟩, (by first | exact Or.inl rfl | (refine ⟨?_, ?_⟩ <;> grind))⟩, (by first | exact Or.inl rfl | (refine ⟨?_, ?_⟩ <;> grind))⟩ ⟨⟨rfl, rfl⟩, ?_⟩
    exact ⟨rfl, (by repeat (first | exact (fun _ _ => rfl) | with_reducible assumption | refine cAF.u ?_ _ _))⟩
  · refine px_b rfl q_X5_keep_10 hg rfl trivial ?_
    exact px_go (l_keep hg a ha (fun I2 h => ⟨rfl, rfl, rfl, rfl, h⟩) 0 (by decide) (by decide) I (fun _ _ => rfl)) ⟨rfl, rfl, rfl, trivial⟩

theorem q_X5_answer_0 : px_bk 5 4 cX5_answer 0 [(.iload_n 1, (0, 0, 0, 0, 0), 0, 0), (.bipush 9, (0, 0, 0, 0, 0), 9, 0), (.imul, (0, 0, 0, 0, 0), 0, 0), (.iload_n 2, (0, 0, 0, 0, 0), 0, 0), (.iadd, (0, 0, 0, 0, 0), 0, 0), (.istore_n 3, (0, 0, 0, 0, 0), 0, 0), (.iload_n 3, (0, 0, 0, 0, 0), 0, 0), (.iconst 0, (0, 0, 0, 0, 0), 0, 0), (.sipush 863, (0, 0, 0, 0, 0), 863, 0)] = some 12 ∧ px_tS cX5_answer 12 82 = true := by decide +kernel
theorem q_X5_answer_15 : px_bk 5 4 cX5_answer 15 [] = some 15 ∧ px_t1 cX5_answer 15 .eq 27 = true := by decide +kernel
theorem q_X5_answer_27 : px_bk 5 4 cX5_answer 27 [(.ldc 52, (0, 0, 0, 0, 0), -2000000000, 0)] = some 29 ∧ px_tr cX5_answer 29 .ireturn = true := by decide +kernel
theorem q_X5_answer_18 : px_bk 5 4 cX5_answer 18 [(.aload_n 0, (0, 0, 0, 0, 0), 0, 0), (.getfield 28, (5, 3, 3, 91, 0), 0, 0), (.iload_n 3, (0, 0, 0, 0, 0), 0, 0), (.iaload, (0, 0, 0, 0, 0), 0, 0), (.goto 5, (0, 0, 0, 0, 0), 0, 0)] = some 29 ∧ px_tr cX5_answer 29 .ireturn = true := by decide +kernel
set_option maxRecDepth 100000 in
theorem c_answer {n : Nat} {I : px_I} {L : px_L} {R : px_R} (hg : px_G n R) (s a : Int32) : px_KP M_X5_answer [.ref 85, .int s, .int a] n I L R (fun r => True) := by
  refine px_of (plainFor_of_name np_RX5) (fun _ _ _ => trivial) rfl ?_
  refine px_cSNP rfl q_X5_answer_0 hg rfl trivial lk_5_82 nm_X11_within (c_within hg _ _ _) rfl rfl rfl ⟨rfl, rfl⟩ ?_
  intro x12 h12
  refine px_eq rfl q_X5_answer_15 hg rfl trivial (fun c15 => ?_) (fun c15 => ?_)
  · replace h12 := px_bf h12 c15
    refine px_riP rfl q_X5_answer_27 rfl rfl rfl hg rfl trivial ⟨⟨rfl, rfl, rfl, rfl⟩, ?_⟩
    trivial
  · replace h12 := px_bt h12 c15
    refine px_riP rfl q_X5_answer_18 rfl rfl rfl hg rfl ⟨trivial, (by refine ⟨?_, ?_⟩ <;> grind)⟩ ⟨⟨rfl, rfl, rfl, rfl⟩, ?_⟩
    trivial

theorem q_X5_make_0 : px_bk 5 2 cX5_make 0 [(.iload_n 1, (0, 0, 0, 0, 0), 0, 0)] = some 1 ∧ px_t1 cX5_make 1 .lt 15 = true := by decide +kernel
theorem q_X5_make_15 : px_bk 5 2 cX5_make 15 [(.iconst 0, (0, 0, 0, 0, 0), 0, 0)] = some 16 ∧ px_tr cX5_make 16 .ireturn = true := by decide +kernel
theorem q_X5_make_4 : px_bk 5 2 cX5_make 4 [(.aload_n 0, (0, 0, 0, 0, 0), 0, 0), (.iload_n 1, (0, 0, 0, 0, 0), 0, 0), (.bipush 16, (0, 0, 0, 0, 0), 16, 0), (.idiv, (0, 0, 0, 0, 0), 0, 0)] = some 9 ∧ px_tv cX5_make 9 36 = true := by decide +kernel
theorem q_X5_make_12 : px_bk 5 2 cX5_make 12 [] = some 12 ∧ px_t1 cX5_make 12 .ne 17 = true := by decide +kernel
theorem q_X5_make_17 : px_bk 5 2 cX5_make 17 [(.aload_n 0, (0, 0, 0, 0, 0), 0, 0), (.getfield 24, (5, 2, 3, 90, 0), 0, 0), (.iload_n 1, (0, 0, 0, 0, 0), 0, 0), (.baload, (0, 0, 0, 0, 0), 0, 0)] = some 23 ∧ px_t1 cX5_make 23 .ne 61 = true := by decide +kernel
theorem q_X5_make_61 : px_bk 5 2 cX5_make 61 [(.iconst 1, (0, 0, 0, 0, 0), 1, 0)] = some 62 ∧ px_tr cX5_make 62 .ireturn = true := by decide +kernel
theorem q_X5_make_26 : px_bk 5 2 cX5_make 26 [(.aload_n 0, (0, 0, 0, 0, 0), 0, 0), (.getfield 12, (5, 0, 3, 86, 0), 0, 0), (.aload_n 0, (0, 0, 0, 0, 0), 0, 0), (.getfield 20, (5, 1, 3, 89, 0), 0, 0), (.iload_n 1, (0, 0, 0, 0, 0), 0, 0), (.bipush 16, (0, 0, 0, 0, 0), 16, 0), (.idiv, (0, 0, 0, 0, 0), 0, 0)] = some 38 := by decide +kernel
theorem q_X5_make_39 : px_bk 5 2 cX5_make 39 [(.iload_n 1, (0, 0, 0, 0, 0), 0, 0), (.bipush 16, (0, 0, 0, 0, 0), 16, 0), (.irem, (0, 0, 0, 0, 0), 0, 0)] = some 43 ∧ px_tv cX5_make 43 40 = true := by decide +kernel
theorem q_X5_make_46 : px_bk 5 2 cX5_make 46 [(.aload_n 0, (0, 0, 0, 0, 0), 0, 0), (.iload_n 1, (0, 0, 0, 0, 0), 0, 0), (.bipush 9, (0, 0, 0, 0, 0), 9, 0), (.imul, (0, 0, 0, 0, 0), 0, 0)] = some 51 ∧ px_tv cX5_make 51 44 = true := by decide +kernel
theorem q_X5_make_54 : px_bk 5 2 cX5_make 54 [(.aload_n 0, (0, 0, 0, 0, 0), 0, 0), (.getfield 24, (5, 2, 3, 90, 0), 0, 0), (.iload_n 1, (0, 0, 0, 0, 0), 0, 0), (.iconst 1, (0, 0, 0, 0, 0), 1, 0), (.bastore, (0, 0, 0, 0, 0), 0, 0), (.iconst 1, (0, 0, 0, 0, 0), 1, 0)] = some 62 ∧ px_tr cX5_make 62 .ireturn = true := by decide +kernel
set_option maxRecDepth 100000 in
theorem c_make {n : Nat} {I : px_I} {L : px_L} {R : px_R} (hg : px_G n R) (s : Int32) (ht : cTold n I R) : px_KS M_X5_make [.ref 85, .int s] n I L R (fun r I2 L2 => (r = 0 ∨ r = 1) ∧ cMI I I2 ∧ cWL L L2) := by
  refine px_of (plainFor_of_name np_RX5) (fun _ _ _ => trivial) rfl ?_
  refine px_lt rfl q_X5_make_0 hg rfl trivial (fun c1 => ?_) (fun c1 => ?_)
  · refine px_rzS rfl q_X5_make_15 rfl rfl rfl hg rfl trivial ⟨⟨rfl, rfl⟩, (by first | exact Or.inl rfl | exact Or.inr rfl | grind), ?_⟩
    first | exact ⟨Or.inl rfl, cMI.rfl', cWL.rfl'⟩ | exact ⟨Or.inr rfl, cMI.rfl', cWL.rfl'⟩ | exact ⟨Or.inr rfl, (h43b.M.trans h51.M).k _ _, h43c⟩
  · refine px_cVP (ci := 5) rfl q_X5_make_4 hg rfl ⟨trivial, (by first | decide | with_reducible assumption | (refine ⟨?_, ?_⟩ <;> grind))⟩ lk_5_36 nm_X5_isTold (c_isTold hg _) rfl rfl (px_lit hg rfl) rfl rfl rfl ⟨rfl, rfl⟩ ?_
    intro x9 h9
    refine px_ne rfl q_X5_make_12 hg rfl trivial (fun c12 => ?_) (fun c12 => ?_)
    · replace h9 := px_bt h9 c12
      have hs9 := px_s96 c1 h9.1.2
      have hs8 : 0 ≤ s / 16 ∧ s / 16 < 6 := h9.1
      have hs7 : 0 ≤ s - s / 16 * 16 ∧ s - s / 16 * 16 ≤ 15 := px_rm16 (by grind)
      obtain ⟨w, hw⟩ := Option.ne_none_iff_exists'.mp h9.2
      obtain ⟨w0, hw1, hw2⟩ := ht _ (px_n6 hs8) w hw
      refine px_ne rfl q_X5_make_17 hg rfl ⟨trivial, (by first | decide | with_reducible assumption | (refine ⟨?_, ?_⟩ <;> grind))⟩ (fun c23 => ?_) (fun c23 => ?_)
      · refine px_rzS rfl q_X5_make_61 rfl rfl rfl hg rfl trivial ⟨⟨rfl, rfl⟩, (by first | exact Or.inl rfl | exact Or.inr rfl | grind), ?_⟩
        first | exact ⟨Or.inl rfl, cMI.rfl', cWL.rfl'⟩ | exact ⟨Or.inr rfl, cMI.rfl', cWL.rfl'⟩ | exact ⟨Or.inr rfl, (h43b.M.trans h51.M).k _ _, h43c⟩
      · refine px_b rfl q_X5_make_26 hg rfl ⟨trivial, (by first | decide | with_reducible assumption | (refine ⟨?_, ?_⟩ <;> grind))⟩ ?_
        refine px_aald hg (by decide +kernel) hs8 ?_
        rw [hw]
        refine px_cVW (ci := 9) rfl q_X5_make_39 hg rfl ⟨trivial, (by first | decide | with_reducible assumption | (refine ⟨?_, ?_⟩ <;> grind))⟩ lk_5_40 nm_X9_go (c_go hg hw1 _ hs7 w0 hw2) rfl rfl (px_lit hg rfl) rfl rfl rfl ⟨rfl, rfl⟩ ?_
        intro I43 L43 h43
        obtain ⟨h43a, h43b, h43c⟩ := h43
        refine px_cVW (ci := 5) rfl q_X5_make_46 hg rfl trivial lk_5_44 nm_X5_keep (c_keep hg _ (by grind)) rfl rfl (px_lit hg rfl) rfl rfl rfl ⟨rfl, rfl⟩ ?_
        intro I51 L51 h51
        obtain ⟨rfl, h51⟩ := h51
        refine px_rzS rfl q_X5_make_54 rfl rfl rfl hg rfl ⟨trivial, (by first | decide | with_reducible assumption | (refine ⟨?_, ?_⟩ <;> grind))⟩ ⟨⟨rfl, rfl⟩, (by first | exact Or.inl rfl | exact Or.inr rfl | grind), ?_⟩
        first | exact ⟨Or.inl rfl, cMI.rfl', cWL.rfl'⟩ | exact ⟨Or.inr rfl, cMI.rfl', cWL.rfl'⟩ | exact ⟨Or.inr rfl, (h43b.M.trans h51.M).k _ _, h43c⟩
    · replace h9 := px_bf h9 c12
      refine px_rzS rfl q_X5_make_15 rfl rfl rfl hg rfl trivial ⟨⟨rfl, rfl⟩, (by first | exact Or.inl rfl | exact Or.inr rfl | grind), ?_⟩
      first | exact ⟨Or.inl rfl, cMI.rfl', cWL.rfl'⟩ | exact ⟨Or.inr rfl, cMI.rfl', cWL.rfl'⟩ | exact ⟨Or.inr rfl, (h43b.M.trans h51.M).k _ _, h43c⟩

def cGI (I I2 : px_I) : Prop := ∀ b, b ≠ 95 → b ≠ 96 → I2 b = I b
theorem cGI.u5 {I I1 : px_I} (h : cGI I I1) (k : Nat) (v : Int32) : cGI I (px_u I1 95 k v) := fun b h3 h4 => by rw [px_u_ne h3]; exact h b h3 h4
theorem cGI.u6 {I I1 : px_I} (h : cGI I I1) (k : Nat) (v : Int32) : cGI I (px_u I1 96 k v) := fun b h3 h4 => by rw [px_u_ne h4]; exact h b h3 h4

theorem q_X3_seen_0 : px_bk 3 4 cX3_seen 0 [(.iload_n 1, (0, 0, 0, 0, 0), 0, 0)] = some 1 ∧ px_tS cX3_seen 1 32 = true := by decide +kernel
theorem q_X3_seen_4 : px_bk 3 4 cX3_seen 4 [] = some 4 ∧ px_t1 cX3_seen 4 .eq 21 = true := by decide +kernel
theorem q_X3_seen_21 : px_bk 3 4 cX3_seen 21 [] = some 21 ∧ px_tr cX3_seen 21 .return_ = true := by decide +kernel
theorem q_X3_seen_7 : px_bk 3 4 cX3_seen 7 [(.aload_n 0, (0, 0, 0, 0, 0), 0, 0), (.getfield 9, (3, 2, 3, 93, 0), 0, 0), (.iload_n 1, (0, 0, 0, 0, 0), 0, 0), (.iload_n 2, (0, 0, 0, 0, 0), 0, 0), (.iastore, (0, 0, 0, 0, 0), 0, 0), (.aload_n 0, (0, 0, 0, 0, 0), 0, 0), (.getfield 15, (3, 3, 3, 94, 0), 0, 0), (.iload_n 1, (0, 0, 0, 0, 0), 0, 0), (.iload_n 3, (0, 0, 0, 0, 0), 0, 0), (.iastore, (0, 0, 0, 0, 0), 0, 0)] = some 21 ∧ px_tr cX3_seen 21 .return_ = true := by decide +kernel
set_option maxRecDepth 100000 in
theorem c_seen {n : Nat} {I : px_I} {L : px_L} {R : px_R} (hg : px_G n R) (a lo hi : Int32) : px_KV M_X3_seen [.ref 92, .int a, .int lo, .int hi] n I L R (fun I2 L2 => L2 = L ∧ I2 = if 0 ≤ a ∧ a ≤ 2 then px_u (px_u I 93 a.toNatClampNeg lo) 94 a.toNatClampNeg hi else I) := by
  refine px_of (plainFor_of_name np_RX3) (fun _ _ _ => trivial) rfl ?_
  refine px_cSNP rfl q_X3_seen_0 hg rfl trivial lk_3_32 nm_X11_isAxis (c_isAxis hg _) rfl rfl rfl ⟨rfl, rfl⟩ ?_
  intro x1 h1
  refine px_eq rfl q_X3_seen_4 hg rfl trivial (fun c4 => ?_) (fun c4 => ?_)
  · replace h1 := px_bf h1 c4
    refine px_rvW rfl q_X3_seen_21 rfl rfl rfl hg rfl trivial ⟨⟨rfl, rfl⟩, ?_⟩
    first | exact ⟨rfl, (if_pos (by assumption)).symm⟩ | exact ⟨rfl, (if_neg (by assumption)).symm⟩
  · replace h1 := px_bt h1 c4
    refine px_rvW rfl q_X3_seen_7 rfl rfl rfl hg rfl ⟨⟨trivial, (by first | decide | (refine ⟨?_, ?_⟩ <;> grind) | grind)⟩, (by first | decide | (refine ⟨?_, ?_⟩ <;> grind) | grind)⟩ ⟨⟨rfl, rfl⟩, ?_⟩
    first | exact ⟨rfl, (if_pos (by assumption)).symm⟩ | exact ⟨rfl, (if_neg (by assumption)).symm⟩

theorem q_X3_look_3 : px_bk 3 5 cX3_look 3 [(.iload 4, (0, 0, 0, 0, 0), 0, 0), (.iconst 3, (0, 0, 0, 0, 0), 3, 0)] = some 6 ∧ px_t2 cX3_look 6 .ge 55 = true := by decide +kernel
theorem q_X3_look_55 : px_bk 3 5 cX3_look 55 [] = some 55 ∧ px_tr cX3_look 55 .return_ = true := by decide +kernel
theorem q_X3_look_9 : px_bk 3 5 cX3_look 9 [(.aload_n 0, (0, 0, 0, 0, 0), 0, 0), (.getfield 18, (3, 4, 3, 95, 0), 0, 0), (.iload 4, (0, 0, 0, 0, 0), 0, 0), (.aload_n 0, (0, 0, 0, 0, 0), 0, 0), (.getfield 24, (3, 0, 3, 33, 0), 0, 0), (.iload 4, (0, 0, 0, 0, 0), 0, 0), (.iload_n 1, (0, 0, 0, 0, 0), 0, 0), (.iload_n 2, (0, 0, 0, 0, 0), 0, 0), (.iload_n 3, (0, 0, 0, 0, 0), 0, 0), (.iconst 0, (0, 0, 0, 0, 0), 0, 0)] = some 25 ∧ px_tv cX3_look 25 36 = true := by decide +kernel
theorem q_X3_look_28 : px_bk 3 5 cX3_look 28 [(.iastore, (0, 0, 0, 0, 0), 0, 0), (.aload_n 0, (0, 0, 0, 0, 0), 0, 0), (.getfield 21, (3, 5, 3, 96, 0), 0, 0), (.iload 4, (0, 0, 0, 0, 0), 0, 0), (.aload_n 0, (0, 0, 0, 0, 0), 0, 0), (.getfield 24, (3, 0, 3, 33, 0), 0, 0), (.iload 4, (0, 0, 0, 0, 0), 0, 0), (.iload_n 1, (0, 0, 0, 0, 0), 0, 0), (.iload_n 2, (0, 0, 0, 0, 0), 0, 0), (.iload_n 3, (0, 0, 0, 0, 0), 0, 0), (.iconst 1, (0, 0, 0, 0, 0), 1, 0)] = some 45 ∧ px_tv cX3_look 45 36 = true := by decide +kernel
theorem q_X3_look_48 : px_bk 3 5 cX3_look 48 [(.iastore, (0, 0, 0, 0, 0), 0, 0), (.iinc 4 1, (0, 0, 0, 0, 0), 1, 0), (.goto (-49), (0, 0, 0, 0, 0), 0, 0)] = some 3 := by decide +kernel
set_option maxRecDepth 100000 in
theorem l_look {n : Nat} {R : px_R} (hg : px_G n R) {Q : px_Q} (f t d : Int32) {I : px_I} (L : px_L) (hs : 0 ≤ I 33 8 ∧ I 33 8 ≤ 80) (hn : I 33 7 ≤ 24) (hq : ∀ I2 L2, cGI I I2 → cDL L L2 → Q none n I2 L2 R) : ∀ i : Int32, i ≤ 3 → 0 ≤ i → ∀ I1 L1, cGI I I1 → cDL L L1 → px M_X3_look 0 0 3 [(0, .ref 92), (1, .int f), (2, .int t), (3, .int d), (4, .int i)] [] n I1 L1 R Q := by
  refine px_up 3 (fun i ih hi => ?_)
  intro h0 I1 L1 h1 h2
  have e : I1 33 = I 33 := h1 33 (by decide) (by decide)
  have hs1 : 0 ≤ I1 33 8 ∧ I1 33 8 ≤ 80 := by rw [e]; exact hs
  have hn1 : I1 33 7 ≤ 24 := by rw [e]; exact hn
  refine px_ige rfl q_X3_look_3 hg rfl trivial (fun c6 => ?_) (fun c6 => ?_)
  · refine px_rv rfl q_X3_look_55 rfl rfl rfl hg rfl trivial ?_
    exact hq _ _ h1 h2
  · refine px_cVS (ci := 7) rfl q_X3_look_9 hg rfl trivial lk_3_36 nm_X7_bound (c_bound hg _ _ _ _ _ hs1 hn1) rfl rfl (px_lit hg rfl) rfl rfl rfl ⟨rfl, rfl⟩ ?_
    intro x25 I25 L25 h25
    obtain ⟨rfl, h25⟩ := h25
    refine px_cVS (ci := 7) rfl q_X3_look_28 hg rfl ⟨trivial, (by first | decide | (refine ⟨?_, ?_⟩ <;> grind) | grind)⟩ lk_3_36 nm_X7_bound (c_bound hg _ _ _ _ _ (by rw [px_u_ne (by decide)]; exact hs1) (by rw [px_u_ne (by decide)]; exact hn1)) rfl rfl (px_lit hg rfl) rfl rfl rfl ⟨rfl, rfl⟩ ?_
    intro x45 I45 L45 h45
    obtain ⟨rfl, h45⟩ := h45
    refine px_b rfl q_X3_look_48 hg rfl ⟨trivial, (by first | decide | (refine ⟨?_, ?_⟩ <;> grind) | grind)⟩ ?_
    exact px_go (ih (i + 1) (by grind) (by grind) (by grind) _ _ ((h1.u5 _ _).u6 _ _) ((h2.trans h25).trans h45)) ⟨rfl, rfl, rfl, rfl, rfl, trivial⟩

theorem q_X3_look_0 : px_bk 3 5 cX3_look 0 [(.iconst 0, (0, 0, 0, 0, 0), 0, 0), (.istore 4, (0, 0, 0, 0, 0), 0, 0)] = some 3 := by decide +kernel
set_option maxRecDepth 100000 in
theorem c_look {n : Nat} {I : px_I} {L : px_L} {R : px_R} (hg : px_G n R) (f t d : Int32) (hs : 0 ≤ I 33 8 ∧ I 33 8 ≤ 80) (hn : I 33 7 ≤ 24) : px_KV M_X3_look [.ref 92, .int f, .int t, .int d] n I L R (fun I2 L2 => cGI I I2 ∧ cDL L L2) := by
  refine px_of (plainFor_of_name np_RX3) (fun _ _ _ => trivial) rfl ?_
  refine px_b rfl q_X3_look_0 hg rfl trivial ?_
  exact px_go (l_look hg f t d L hs hn (fun I2 L2 h1 h2 => ⟨rfl, rfl, rfl, h1, h2⟩) 0 (by decide) (by decide) I L (fun _ _ _ => rfl) (fun _ _ => rfl)) ⟨rfl, rfl, rfl, rfl, rfl, trivial⟩

theorem q_X3_bound_0 : px_bk 3 9 cX3_bound 0 [(.iload_n 3, (0, 0, 0, 0, 0), 0, 0)] = some 1 ∧ px_tS cX3_bound 1 32 = true := by decide +kernel
theorem q_X3_bound_4 : px_bk 3 9 cX3_bound 4 [] = some 4 ∧ px_t1 cX3_bound 4 .ne 10 = true := by decide +kernel
theorem q_X3_bound_10 : px_bk 3 9 cX3_bound 10 [(.iload 4, (0, 0, 0, 0, 0), 0, 0)] = some 12 ∧ px_t1 cX3_bound 12 .eq 24 = true := by decide +kernel
theorem q_X3_bound_24 : px_bk 3 9 cX3_bound 24 [(.aload_n 0, (0, 0, 0, 0, 0), 0, 0), (.getfield 18, (3, 4, 3, 95, 0), 0, 0), (.iload_n 3, (0, 0, 0, 0, 0), 0, 0), (.iaload, (0, 0, 0, 0, 0), 0, 0), (.istore 5, (0, 0, 0, 0, 0), 0, 0), (.aload_n 0, (0, 0, 0, 0, 0), 0, 0), (.getfield 28, (3, 1, 3, 85, 0), 0, 0), (.iload_n 1, (0, 0, 0, 0, 0), 0, 0), (.iload_n 3, (0, 0, 0, 0, 0), 0, 0)] = some 38 ∧ px_tv cX3_bound 38 43 = true := by decide +kernel
theorem q_X3_bound_41 : px_bk 3 9 cX3_bound 41 [(.istore 6, (0, 0, 0, 0, 0), 0, 0), (.aload_n 0, (0, 0, 0, 0, 0), 0, 0), (.getfield 28, (3, 1, 3, 85, 0), 0, 0), (.iload_n 2, (0, 0, 0, 0, 0), 0, 0), (.iload_n 3, (0, 0, 0, 0, 0), 0, 0)] = some 49 ∧ px_tv cX3_bound 49 43 = true := by decide +kernel
theorem q_X3_bound_52 : px_bk 3 9 cX3_bound 52 [(.istore 7, (0, 0, 0, 0, 0), 0, 0), (.iload 5, (0, 0, 0, 0, 0), 0, 0), (.ldc 42, (0, 0, 0, 0, 0), -2000000000, 0)] = some 58 ∧ px_t2 cX3_bound 58 .eq 75 = true := by decide +kernel
theorem q_X3_bound_75 : px_bk 3 9 cX3_bound 75 [(.ldc 42, (0, 0, 0, 0, 0), -2000000000, 0)] = some 77 ∧ px_tr cX3_bound 77 .ireturn = true := by decide +kernel
theorem q_X3_bound_61 : px_bk 3 9 cX3_bound 61 [(.iload 6, (0, 0, 0, 0, 0), 0, 0), (.ldc 42, (0, 0, 0, 0, 0), -2000000000, 0)] = some 65 ∧ px_t2 cX3_bound 65 .eq 75 = true := by decide +kernel
theorem q_X3_bound_68 : px_bk 3 9 cX3_bound 68 [(.iload 7, (0, 0, 0, 0, 0), 0, 0), (.ldc 42, (0, 0, 0, 0, 0), -2000000000, 0)] = some 72 ∧ px_t2 cX3_bound 72 .ne 78 = true := by decide +kernel
theorem q_X3_bound_78 : px_bk 3 9 cX3_bound 78 [(.aload_n 0, (0, 0, 0, 0, 0), 0, 0), (.getfield 28, (3, 1, 3, 85, 0), 0, 0), (.iload_n 1, (0, 0, 0, 0, 0), 0, 0), (.iconst 3, (0, 0, 0, 0, 0), 3, 0), (.iload_n 3, (0, 0, 0, 0, 0), 0, 0), (.iadd, (0, 0, 0, 0, 0), 0, 0)] = some 86 ∧ px_tv cX3_bound 86 43 = true := by decide +kernel
theorem q_X3_bound_89 : px_bk 3 9 cX3_bound 89 [(.aload_n 0, (0, 0, 0, 0, 0), 0, 0), (.getfield 28, (3, 1, 3, 85, 0), 0, 0), (.iload_n 2, (0, 0, 0, 0, 0), 0, 0), (.iconst 3, (0, 0, 0, 0, 0), 3, 0), (.iload_n 3, (0, 0, 0, 0, 0), 0, 0), (.iadd, (0, 0, 0, 0, 0), 0, 0)] = some 97 ∧ px_tv cX3_bound 97 43 = true := by decide +kernel
theorem q_X3_bound_100 : px_bk 3 9 cX3_bound 100 [(.iadd, (0, 0, 0, 0, 0), 0, 0), (.istore 8, (0, 0, 0, 0, 0), 0, 0), (.iload 5, (0, 0, 0, 0, 0), 0, 0), (.iload 7, (0, 0, 0, 0, 0), 0, 0), (.iadd, (0, 0, 0, 0, 0), 0, 0), (.iload 6, (0, 0, 0, 0, 0), 0, 0), (.isub, (0, 0, 0, 0, 0), 0, 0), (.iload 4, (0, 0, 0, 0, 0), 0, 0)] = some 113 ∧ px_t1 cX3_bound 113 .eq 121 = true := by decide +kernel
theorem q_X3_bound_121 : px_bk 3 9 cX3_bound 121 [(.iload 8, (0, 0, 0, 0, 0), 0, 0), (.ineg, (0, 0, 0, 0, 0), 0, 0), (.iadd, (0, 0, 0, 0, 0), 0, 0)] = some 125 ∧ px_tr cX3_bound 125 .ireturn = true := by decide +kernel
theorem q_X3_bound_116 : px_bk 3 9 cX3_bound 116 [(.iload 8, (0, 0, 0, 0, 0), 0, 0), (.goto 6, (0, 0, 0, 0, 0), 0, 0), (.iadd, (0, 0, 0, 0, 0), 0, 0)] = some 125 ∧ px_tr cX3_bound 125 .ireturn = true := by decide +kernel
theorem q_X3_bound_15 : px_bk 3 9 cX3_bound 15 [(.aload_n 0, (0, 0, 0, 0, 0), 0, 0), (.getfield 21, (3, 5, 3, 96, 0), 0, 0), (.iload_n 3, (0, 0, 0, 0, 0), 0, 0), (.iaload, (0, 0, 0, 0, 0), 0, 0), (.goto 9, (0, 0, 0, 0, 0), 0, 0), (.istore 5, (0, 0, 0, 0, 0), 0, 0), (.aload_n 0, (0, 0, 0, 0, 0), 0, 0), (.getfield 28, (3, 1, 3, 85, 0), 0, 0), (.iload_n 1, (0, 0, 0, 0, 0), 0, 0), (.iload_n 3, (0, 0, 0, 0, 0), 0, 0)] = some 38 ∧ px_tv cX3_bound 38 43 = true := by decide +kernel
theorem q_X3_bound_7 : px_bk 3 9 cX3_bound 7 [(.ldc 42, (0, 0, 0, 0, 0), -2000000000, 0)] = some 9 ∧ px_tr cX3_bound 9 .ireturn = true := by decide +kernel
set_option maxRecDepth 100000 in
theorem c_boundM {n : Nat} {I : px_I} {L : px_L} {R : px_R} (hg : px_G n R) (a b x h : Int32) : px_KP M_X3_bound [.ref 92, .int a, .int b, .int x, .int h] n I L R (fun r => True) := by
  refine px_of (plainFor_of_name np_RX3) (fun _ _ _ => trivial) rfl ?_
  refine px_cSNP rfl q_X3_bound_0 hg rfl trivial lk_3_32 nm_X11_isAxis (c_isAxis hg _) rfl rfl rfl ⟨rfl, rfl⟩ ?_
  intro x1 h1
  refine px_ne rfl q_X3_bound_4 hg rfl trivial (fun c4 => ?_) (fun c4 => ?_)
  · replace h1 := px_bt h1 c4
    refine px_eq rfl q_X3_bound_10 hg rfl trivial (fun c12 => ?_) (fun c12 => ?_)
    · refine px_cVP (ci := 5) rfl q_X3_bound_24 hg rfl ⟨trivial, (by refine ⟨?_, ?_⟩ <;> grind)⟩ lk_3_43 nm_X5_answer (c_answer hg _ _) rfl rfl (px_lit hg rfl) rfl rfl rfl ⟨rfl, rfl⟩ ?_
      intro x38 h38
      refine px_cVP (ci := 5) rfl q_X3_bound_41 hg rfl trivial lk_3_43 nm_X5_answer (c_answer hg _ _) rfl rfl (px_lit hg rfl) rfl rfl rfl ⟨rfl, rfl⟩ ?_
      intro x49 h49
      refine px_ieq rfl q_X3_bound_52 hg rfl trivial (fun c58 => ?_) (fun c58 => ?_)
      · refine px_riP rfl q_X3_bound_75 rfl rfl rfl hg rfl trivial ⟨⟨rfl, rfl, rfl, rfl⟩, ?_⟩
        trivial
      · refine px_ieq rfl q_X3_bound_61 hg rfl trivial (fun c65 => ?_) (fun c65 => ?_)
        · refine px_riP rfl q_X3_bound_75 rfl rfl rfl hg rfl trivial ⟨⟨rfl, rfl, rfl, rfl⟩, ?_⟩
          trivial
        · refine px_ine rfl q_X3_bound_68 hg rfl trivial (fun c72 => ?_) (fun c72 => ?_)
          · refine px_cVP (ci := 5) rfl q_X3_bound_78 hg rfl trivial lk_3_43 nm_X5_answer (c_answer hg _ _) rfl rfl (px_lit hg rfl) rfl rfl rfl ⟨rfl, rfl⟩ ?_
            intro x86 h86
            refine px_cVP (ci := 5) rfl q_X3_bound_89 hg rfl trivial lk_3_43 nm_X5_answer (c_answer hg _ _) rfl rfl (px_lit hg rfl) rfl rfl rfl ⟨rfl, rfl⟩ ?_
            intro x97 h97
            refine px_eq rfl q_X3_bound_100 hg rfl trivial (fun c113 => ?_) (fun c113 => ?_)
            · refine px_riP rfl q_X3_bound_121 rfl rfl rfl hg rfl trivial ⟨⟨rfl, rfl, rfl, rfl⟩, ?_⟩
              trivial
            · refine px_riP rfl q_X3_bound_116 rfl rfl rfl hg rfl trivial ⟨⟨rfl, rfl, rfl, rfl⟩, ?_⟩
              trivial
          · refine px_riP rfl q_X3_bound_75 rfl rfl rfl hg rfl trivial ⟨⟨rfl, rfl, rfl, rfl⟩, ?_⟩
            trivial
    · refine px_cVP (ci := 5) rfl q_X3_bound_15 hg rfl ⟨trivial, (by refine ⟨?_, ?_⟩ <;> grind)⟩ lk_3_43 nm_X5_answer (c_answer hg _ _) rfl rfl (px_lit hg rfl) rfl rfl rfl ⟨rfl, rfl⟩ ?_
      intro x38 h38
      refine px_cVP (ci := 5) rfl q_X3_bound_41 hg rfl trivial lk_3_43 nm_X5_answer (c_answer hg _ _) rfl rfl (px_lit hg rfl) rfl rfl rfl ⟨rfl, rfl⟩ ?_
      intro x49 h49
      refine px_ieq rfl q_X3_bound_52 hg rfl trivial (fun c58 => ?_) (fun c58 => ?_)
      · refine px_riP rfl q_X3_bound_75 rfl rfl rfl hg rfl trivial ⟨⟨rfl, rfl, rfl, rfl⟩, ?_⟩
        trivial
      · refine px_ieq rfl q_X3_bound_61 hg rfl trivial (fun c65 => ?_) (fun c65 => ?_)
        · refine px_riP rfl q_X3_bound_75 rfl rfl rfl hg rfl trivial ⟨⟨rfl, rfl, rfl, rfl⟩, ?_⟩
          trivial
        · refine px_ine rfl q_X3_bound_68 hg rfl trivial (fun c72 => ?_) (fun c72 => ?_)
          · refine px_cVP (ci := 5) rfl q_X3_bound_78 hg rfl trivial lk_3_43 nm_X5_answer (c_answer hg _ _) rfl rfl (px_lit hg rfl) rfl rfl rfl ⟨rfl, rfl⟩ ?_
            intro x86 h86
            refine px_cVP (ci := 5) rfl q_X3_bound_89 hg rfl trivial lk_3_43 nm_X5_answer (c_answer hg _ _) rfl rfl (px_lit hg rfl) rfl rfl rfl ⟨rfl, rfl⟩ ?_
            intro x97 h97
            refine px_eq rfl q_X3_bound_100 hg rfl trivial (fun c113 => ?_) (fun c113 => ?_)
            · refine px_riP rfl q_X3_bound_121 rfl rfl rfl hg rfl trivial ⟨⟨rfl, rfl, rfl, rfl⟩, ?_⟩
              trivial
            · refine px_riP rfl q_X3_bound_116 rfl rfl rfl hg rfl trivial ⟨⟨rfl, rfl, rfl, rfl⟩, ?_⟩
              trivial
          · refine px_riP rfl q_X3_bound_75 rfl rfl rfl hg rfl trivial ⟨⟨rfl, rfl, rfl, rfl⟩, ?_⟩
            trivial
  · replace h1 := px_bf h1 c4
    refine px_riP rfl q_X3_bound_7 rfl rfl rfl hg rfl trivial ⟨⟨rfl, rfl, rfl, rfl⟩, ?_⟩
    trivial

theorem q_X3_judge_5 : px_bk 3 7 cX3_judge 5 [(.iload 4, (0, 0, 0, 0, 0), 0, 0), (.iconst 3, (0, 0, 0, 0, 0), 3, 0)] = some 8 ∧ px_t2 cX3_judge 8 .ge 81 = true := by decide +kernel
theorem q_X3_judge_81 : px_bk 3 7 cX3_judge 81 [(.iload_n 3, (0, 0, 0, 0, 0), 0, 0)] = some 82 ∧ px_tr cX3_judge 82 .ireturn = true := by decide +kernel
theorem q_X3_judge_11 : px_bk 3 7 cX3_judge 11 [(.aload_n 0, (0, 0, 0, 0, 0), 0, 0), (.iload_n 1, (0, 0, 0, 0, 0), 0, 0), (.iload_n 2, (0, 0, 0, 0, 0), 0, 0), (.iload 4, (0, 0, 0, 0, 0), 0, 0), (.iconst 0, (0, 0, 0, 0, 0), 0, 0)] = some 17 ∧ px_tv cX3_judge 17 49 = true := by decide +kernel
theorem q_X3_judge_20 : px_bk 3 7 cX3_judge 20 [(.istore 5, (0, 0, 0, 0, 0), 0, 0), (.aload_n 0, (0, 0, 0, 0, 0), 0, 0), (.iload_n 1, (0, 0, 0, 0, 0), 0, 0), (.iload_n 2, (0, 0, 0, 0, 0), 0, 0), (.iload 4, (0, 0, 0, 0, 0), 0, 0), (.iconst 1, (0, 0, 0, 0, 0), 1, 0)] = some 28 ∧ px_tv cX3_judge 28 49 = true := by decide +kernel
theorem q_X3_judge_31 : px_bk 3 7 cX3_judge 31 [(.istore 6, (0, 0, 0, 0, 0), 0, 0), (.iload 5, (0, 0, 0, 0, 0), 0, 0), (.ldc 42, (0, 0, 0, 0, 0), -2000000000, 0)] = some 37 ∧ px_t2 cX3_judge 37 .eq 47 = true := by decide +kernel
theorem q_X3_judge_47 : px_bk 3 7 cX3_judge 47 [(.iconst 2, (0, 0, 0, 0, 0), 2, 0)] = some 48 ∧ px_tr cX3_judge 48 .ireturn = true := by decide +kernel
theorem q_X3_judge_40 : px_bk 3 7 cX3_judge 40 [(.iload 6, (0, 0, 0, 0, 0), 0, 0), (.ldc 42, (0, 0, 0, 0, 0), -2000000000, 0)] = some 44 ∧ px_t2 cX3_judge 44 .ne 49 = true := by decide +kernel
theorem q_X3_judge_49 : px_bk 3 7 cX3_judge 49 [(.iload 5, (0, 0, 0, 0, 0), 0, 0), (.aload_n 0, (0, 0, 0, 0, 0), 0, 0), (.getfield 15, (3, 3, 3, 94, 0), 0, 0), (.iload 4, (0, 0, 0, 0, 0), 0, 0), (.iaload, (0, 0, 0, 0, 0), 0, 0)] = some 58 ∧ px_t2 cX3_judge 58 .gt 73 = true := by decide +kernel
theorem q_X3_judge_73 : px_bk 3 7 cX3_judge 73 [(.iconst 1, (0, 0, 0, 0, 0), 1, 0), (.istore_n 3, (0, 0, 0, 0, 0), 0, 0), (.iinc 4 1, (0, 0, 0, 0, 0), 1, 0), (.goto (-73), (0, 0, 0, 0, 0), 0, 0)] = some 5 := by decide +kernel
theorem q_X3_judge_61 : px_bk 3 7 cX3_judge 61 [(.iload 6, (0, 0, 0, 0, 0), 0, 0), (.aload_n 0, (0, 0, 0, 0, 0), 0, 0), (.getfield 9, (3, 2, 3, 93, 0), 0, 0), (.iload 4, (0, 0, 0, 0, 0), 0, 0), (.iaload, (0, 0, 0, 0, 0), 0, 0)] = some 70 ∧ px_t2 cX3_judge 70 .ge 75 = true := by decide +kernel
theorem q_X3_judge_75 : px_bk 3 7 cX3_judge 75 [(.iinc 4 1, (0, 0, 0, 0, 0), 1, 0), (.goto (-73), (0, 0, 0, 0, 0), 0, 0)] = some 5 := by decide +kernel
set_option maxRecDepth 100000 in
theorem l_judge {n : Nat} {R : px_R} (hg : px_G n R) {Q : px_Q} (a b : Int32) {I : px_I} {L : px_L} (hq : ∀ r, Q (some (.int r)) n I L R) : ∀ i : Int32, i ≤ 3 → 0 ≤ i → ∀ v : Int32, px M_X3_judge 0 0 5 [(0, .ref 92), (1, .int a), (2, .int b), (3, .int v), (4, .int i)] [] n I L R Q := by
  refine px_up 3 (fun i ih hi => ?_)
  intro h0 v
  refine px_ige rfl q_X3_judge_5 hg rfl trivial (fun c8 => ?_) (fun c8 => ?_)
  · refine px_ri rfl q_X3_judge_81 rfl rfl rfl hg rfl trivial ?_
    exact hq _
  · refine px_cVP (ci := 3) rfl q_X3_judge_11 hg rfl trivial lk_3_49 nm_X3_bound (c_boundM hg _ _ _ _) rfl rfl (px_lit hg rfl) rfl rfl rfl ⟨rfl, rfl⟩ ?_
    intro x17 h17
    refine px_cVP (ci := 3) rfl q_X3_judge_20 hg rfl trivial lk_3_49 nm_X3_bound (c_boundM hg _ _ _ _) rfl rfl (px_lit hg rfl) rfl rfl rfl ⟨rfl, rfl⟩ ?_
    intro x28 h28
    refine px_ieq rfl q_X3_judge_31 hg rfl trivial (fun c37 => ?_) (fun c37 => ?_)
    · refine px_ri rfl q_X3_judge_47 rfl rfl rfl hg rfl trivial ?_
      exact hq _
    · refine px_ine rfl q_X3_judge_40 hg rfl trivial (fun c44 => ?_) (fun c44 => ?_)
      · refine px_igt rfl q_X3_judge_49 hg rfl ⟨trivial, (by first | decide | (refine ⟨?_, ?_⟩ <;> grind) | grind)⟩ (fun c58 => ?_) (fun c58 => ?_)
        · refine px_b rfl q_X3_judge_73 hg rfl trivial ?_
          exact px_go (ih (i + 1) (by grind) (by grind) (by grind) _) ⟨rfl, rfl, rfl, rfl, rfl, trivial⟩
        · refine px_ige rfl q_X3_judge_61 hg rfl ⟨trivial, (by first | decide | (refine ⟨?_, ?_⟩ <;> grind) | grind)⟩ (fun c70 => ?_) (fun c70 => ?_)
          · refine px_b rfl q_X3_judge_75 hg rfl trivial ?_
            exact px_go (ih (i + 1) (by grind) (by grind) (by grind) _) ⟨rfl, rfl, rfl, rfl, rfl, trivial⟩
          · refine px_b rfl q_X3_judge_73 hg rfl trivial ?_
            exact px_go (ih (i + 1) (by grind) (by grind) (by grind) _) ⟨rfl, rfl, rfl, rfl, rfl, trivial⟩
      · refine px_ri rfl q_X3_judge_47 rfl rfl rfl hg rfl trivial ?_
        exact hq _

theorem q_X3_judge_0 : px_bk 3 7 cX3_judge 0 [(.iconst 0, (0, 0, 0, 0, 0), 0, 0), (.istore_n 3, (0, 0, 0, 0, 0), 0, 0), (.iconst 0, (0, 0, 0, 0, 0), 0, 0), (.istore 4, (0, 0, 0, 0, 0), 0, 0)] = some 5 := by decide +kernel
set_option maxRecDepth 100000 in
theorem c_judge {n : Nat} {I : px_I} {L : px_L} {R : px_R} (hg : px_G n R) (a b : Int32) : px_KP M_X3_judge [.ref 92, .int a, .int b] n I L R (fun r => True) := by
  refine px_of (plainFor_of_name np_RX3) (fun _ _ _ => trivial) rfl ?_
  refine px_b rfl q_X3_judge_0 hg rfl trivial ?_
  exact px_go (l_judge hg a b (fun r => ⟨rfl, rfl, r, rfl, rfl, rfl, trivial⟩) 0 (by decide) (by decide) 0) ⟨rfl, rfl, rfl, rfl, rfl, trivial⟩

theorem q_X3_pairs_16 : px_bk 3 9 cX3_pairs 16 [(.iload 6, (0, 0, 0, 0, 0), 0, 0), (.bipush 6, (0, 0, 0, 0, 0), 6, 0)] = some 20 ∧ px_t2 cX3_pairs 20 .ge 86 = true := by decide +kernel
theorem q_X3_pairs_86 : px_bk 3 9 cX3_pairs 86 [(.iinc 5 1, (0, 0, 0, 0, 0), 1, 0), (.goto (-83), (0, 0, 0, 0, 0), 0, 0)] = some 6 := by decide +kernel
theorem q_X3_pairs_23 : px_bk 3 9 cX3_pairs 23 [(.bipush 16, (0, 0, 0, 0, 0), 16, 0), (.iload 5, (0, 0, 0, 0, 0), 0, 0), (.imul, (0, 0, 0, 0, 0), 0, 0), (.iload_n 1, (0, 0, 0, 0, 0), 0, 0), (.iadd, (0, 0, 0, 0, 0), 0, 0), (.istore 7, (0, 0, 0, 0, 0), 0, 0), (.bipush 16, (0, 0, 0, 0, 0), 16, 0), (.iload 6, (0, 0, 0, 0, 0), 0, 0), (.imul, (0, 0, 0, 0, 0), 0, 0), (.iload_n 2, (0, 0, 0, 0, 0), 0, 0), (.iadd, (0, 0, 0, 0, 0), 0, 0), (.istore 8, (0, 0, 0, 0, 0), 0, 0), (.aload_n 0, (0, 0, 0, 0, 0), 0, 0), (.getfield 28, (3, 1, 3, 85, 0), 0, 0), (.iload 7, (0, 0, 0, 0, 0), 0, 0)] = some 47 ∧ px_tv cX3_pairs 47 52 = true := by decide +kernel
theorem q_X3_pairs_50 : px_bk 3 9 cX3_pairs 50 [] = some 50 ∧ px_t1 cX3_pairs 50 .eq 80 = true := by decide +kernel
theorem q_X3_pairs_80 : px_bk 3 9 cX3_pairs 80 [(.iinc 6 1, (0, 0, 0, 0, 0), 1, 0), (.goto (-67), (0, 0, 0, 0, 0), 0, 0)] = some 16 := by decide +kernel
theorem q_X3_pairs_53 : px_bk 3 9 cX3_pairs 53 [(.aload_n 0, (0, 0, 0, 0, 0), 0, 0), (.getfield 28, (3, 1, 3, 85, 0), 0, 0), (.iload 8, (0, 0, 0, 0, 0), 0, 0)] = some 59 ∧ px_tv cX3_pairs 59 52 = true := by decide +kernel
theorem q_X3_pairs_62 : px_bk 3 9 cX3_pairs 62 [] = some 62 ∧ px_t1 cX3_pairs 62 .eq 80 = true := by decide +kernel
theorem q_X3_pairs_65 : px_bk 3 9 cX3_pairs 65 [(.aload_n 0, (0, 0, 0, 0, 0), 0, 0), (.iload 7, (0, 0, 0, 0, 0), 0, 0), (.iload 8, (0, 0, 0, 0, 0), 0, 0)] = some 70 ∧ px_tv cX3_pairs 70 55 = true := by decide +kernel
theorem q_X3_pairs_73 : px_bk 3 9 cX3_pairs 73 [(.iload_n 3, (0, 0, 0, 0, 0), 0, 0)] = some 74 ∧ px_t2 cX3_pairs 74 .ne 80 = true := by decide +kernel
theorem q_X3_pairs_77 : px_bk 3 9 cX3_pairs 77 [(.iinc 4 1, (0, 0, 0, 0, 0), 1, 0), (.iinc 6 1, (0, 0, 0, 0, 0), 1, 0), (.goto (-67), (0, 0, 0, 0, 0), 0, 0)] = some 16 := by decide +kernel
set_option maxRecDepth 100000 in
theorem l_pairs16 {n : Nat} {R : px_R} (hg : px_G n R) {Q : px_Q} (x y v a : Int32) {I0 : px_I} (L0 : px_L) (ht : cTold n I0 R) (kk : ∀ c I2 L2, cMI I0 I2 → cWL L0 L2 → px M_X3_pairs 0 0 6 [(0, .ref 92), (1, .int x), (2, .int y), (3, .int v), (4, .int c), (5, .int (a + 1))] [] n I2 L2 R Q) : ∀ i : Int32, i ≤ 6 → 0 ≤ i → ∀ (c : Int32) (I : px_I) (L : px_L), cMI I0 I → cWL L0 L → px M_X3_pairs 0 0 16 [(0, .ref 92), (1, .int x), (2, .int y), (3, .int v), (4, .int c), (5, .int a), (6, .int i)] [] n I L R Q := by
  refine px_up 6 (fun i ih hi => ?_)
  intro h0 c I L hM hL
  have ht0 := hM.told ht
  refine px_ige rfl q_X3_pairs_16 hg rfl trivial (fun c20 => ?_) (fun c20 => ?_)
  · refine px_b rfl q_X3_pairs_86 hg rfl trivial ?_
    exact px_go (kk _ _ _ hM hL) ⟨rfl, rfl, rfl, rfl, rfl, rfl, trivial⟩
  · refine px_cVS (ci := 5) rfl q_X3_pairs_23 hg rfl trivial lk_3_52 nm_X5_make (c_make hg _ ht0) rfl rfl (px_lit hg rfl) rfl rfl rfl ⟨rfl, rfl⟩ ?_
    intro x47 I47 L47 h47
    obtain ⟨h47a, h47b, h47c⟩ := h47
    have hm1 := hM.trans h47b
    have hl1 := hL.trans h47c
    have ht1 := hm1.told ht
    refine px_eq rfl q_X3_pairs_50 hg rfl trivial (fun c50 => ?_) (fun c50 => ?_)
    · refine px_b rfl q_X3_pairs_80 hg rfl trivial ?_
      first | exact px_go (ih (i + 1) (by grind) (by grind) (by grind) _ _ _ hm2 hl2) ⟨rfl, rfl, rfl, rfl, rfl, rfl, rfl, trivial⟩ | exact px_go (ih (i + 1) (by grind) (by grind) (by grind) _ _ _ hm1 hl1) ⟨rfl, rfl, rfl, rfl, rfl, rfl, rfl, trivial⟩
    · refine px_cVS (ci := 5) rfl q_X3_pairs_53 hg rfl trivial lk_3_52 nm_X5_make (c_make hg _ ht1) rfl rfl (px_lit hg rfl) rfl rfl rfl ⟨rfl, rfl⟩ ?_
      intro x59 I59 L59 h59
      obtain ⟨h59a, h59b, h59c⟩ := h59
      have hm2 := hm1.trans h59b
      have hl2 := hl1.trans h59c
      refine px_eq rfl q_X3_pairs_62 hg rfl trivial (fun c62 => ?_) (fun c62 => ?_)
      · refine px_b rfl q_X3_pairs_80 hg rfl trivial ?_
        first | exact px_go (ih (i + 1) (by grind) (by grind) (by grind) _ _ _ hm2 hl2) ⟨rfl, rfl, rfl, rfl, rfl, rfl, rfl, trivial⟩ | exact px_go (ih (i + 1) (by grind) (by grind) (by grind) _ _ _ hm1 hl1) ⟨rfl, rfl, rfl, rfl, rfl, rfl, rfl, trivial⟩
      · refine px_cVP (ci := 3) rfl q_X3_pairs_65 hg rfl trivial lk_3_55 nm_X3_judge (c_judge hg _ _) rfl rfl (px_lit hg rfl) rfl rfl rfl ⟨rfl, rfl⟩ ?_
        intro x70 h70
        refine px_ine rfl q_X3_pairs_73 hg rfl trivial (fun c74 => ?_) (fun c74 => ?_)
        · refine px_b rfl q_X3_pairs_80 hg rfl trivial ?_
          first | exact px_go (ih (i + 1) (by grind) (by grind) (by grind) _ _ _ hm2 hl2) ⟨rfl, rfl, rfl, rfl, rfl, rfl, rfl, trivial⟩ | exact px_go (ih (i + 1) (by grind) (by grind) (by grind) _ _ _ hm1 hl1) ⟨rfl, rfl, rfl, rfl, rfl, rfl, rfl, trivial⟩
        · refine px_b rfl q_X3_pairs_77 hg rfl trivial ?_
          first | exact px_go (ih (i + 1) (by grind) (by grind) (by grind) _ _ _ hm2 hl2) ⟨rfl, rfl, rfl, rfl, rfl, rfl, rfl, trivial⟩ | exact px_go (ih (i + 1) (by grind) (by grind) (by grind) _ _ _ hm1 hl1) ⟨rfl, rfl, rfl, rfl, rfl, rfl, rfl, trivial⟩

theorem q_X3_pairs_6 : px_bk 3 9 cX3_pairs 6 [(.iload 5, (0, 0, 0, 0, 0), 0, 0), (.bipush 6, (0, 0, 0, 0, 0), 6, 0)] = some 10 ∧ px_t2 cX3_pairs 10 .ge 92 = true := by decide +kernel
theorem q_X3_pairs_92 : px_bk 3 9 cX3_pairs 92 [(.iload 4, (0, 0, 0, 0, 0), 0, 0)] = some 94 ∧ px_tr cX3_pairs 94 .ireturn = true := by decide +kernel
theorem q_X3_pairs_13 : px_bk 3 9 cX3_pairs 13 [(.iconst 0, (0, 0, 0, 0, 0), 0, 0), (.istore 6, (0, 0, 0, 0, 0), 0, 0)] = some 16 := by decide +kernel
set_option maxRecDepth 100000 in
theorem l_pairs6 {n : Nat} {R : px_R} (hg : px_G n R) {Q : px_Q} (x y v : Int32) {I0 : px_I} (L0 : px_L) (ht : cTold n I0 R) (hq : ∀ r I2 L2, cMI I0 I2 → cWL L0 L2 → Q (some (.int r)) n I2 L2 R) : ∀ a : Int32, a ≤ 6 → 0 ≤ a → ∀ (c : Int32) (I : px_I) (L : px_L), cMI I0 I → cWL L0 L → px M_X3_pairs 0 0 6 [(0, .ref 92), (1, .int x), (2, .int y), (3, .int v), (4, .int c), (5, .int a)] [] n I L R Q := by
  refine px_up 6 (fun a ih hi => ?_)
  intro h0 c I L hM hL
  refine px_ige rfl q_X3_pairs_6 hg rfl trivial (fun c10 => ?_) (fun c10 => ?_)
  · refine px_ri rfl q_X3_pairs_92 rfl rfl rfl hg rfl trivial ?_
    exact hq _ _ _ hM hL
  · refine px_b rfl q_X3_pairs_13 hg rfl trivial ?_
    exact px_go (l_pairs16 hg x y v a L (hM.told ht) (fun c I2 L2 h1 h2 => ih (a + 1) (by grind) (by grind) (by grind) c I2 L2 (hM.trans h1) (hL.trans h2)) 0 (by decide) (by decide) c I L cMI.rfl' cWL.rfl') ⟨rfl, rfl, rfl, rfl, rfl, rfl, rfl, trivial⟩

theorem q_X3_pairs_0 : px_bk 3 9 cX3_pairs 0 [(.iconst 0, (0, 0, 0, 0, 0), 0, 0), (.istore 4, (0, 0, 0, 0, 0), 0, 0), (.iconst 0, (0, 0, 0, 0, 0), 0, 0), (.istore 5, (0, 0, 0, 0, 0), 0, 0)] = some 6 := by decide +kernel
set_option maxRecDepth 100000 in
theorem c_pairs {n : Nat} {I : px_I} {L : px_L} {R : px_R} (hg : px_G n R) (x y v : Int32) (ht : cTold n I R) : px_KS M_X3_pairs [.ref 92, .int x, .int y, .int v] n I L R (fun r I2 L2 => cMI I I2 ∧ cWL L L2) := by
  refine px_of (plainFor_of_name np_RX3) (fun _ _ _ => trivial) rfl ?_
  refine px_b rfl q_X3_pairs_0 hg rfl trivial ?_
  exact px_go (l_pairs6 hg x y v L ht (fun r I2 L2 h1 h2 => ⟨rfl, rfl, r, rfl, h1, h2⟩) 0 (by decide) (by decide) 0 I L cMI.rfl' cWL.rfl') ⟨rfl, rfl, rfl, rfl, rfl, rfl, trivial⟩
