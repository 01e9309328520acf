/-! two faces that seek each other -/
def cSL (L L2 : px_L) : Prop := ∀ b, b ≠ 99 → b ≠ 100 → L2 b = L b
theorem cSL.u9 {L L1 : px_L} (h : cSL L L1) (k : Nat) (v : Int64) : cSL L (px_u L1 99 k v) := fun b h3 h4 => by rw [px_u_ne h3]; exact h b h3 h4
theorem cSL.u0 {L L1 : px_L} (h : cSL L L1) (k : Nat) (v : Int64) : cSL L (px_u L1 100 k v) := fun b h3 h4 => by rw [px_u_ne h4]; exact h b h3 h4
theorem cSL.trans {L L1 L2 : px_L} (h : cSL L L1) (h2 : cSL L1 L2) : cSL L L2 := fun b h3 h4 => (h2 b h3 h4).trans (h b h3 h4)
theorem cSL.rfl' {L : px_L} : cSL L L := fun _ _ _ => rfl
/-- which of both rows is the one that is looked at -/
def cRA (R : px_R) : px_R := fun o k => bif Nat.beq o 97 && Nat.beq k 1 then some 99 else bif Nat.beq o 97 && Nat.beq k 2 then some 100 else R o k
def cRB (R : px_R) : px_R := fun o k => bif Nat.beq o 97 && Nat.beq k 1 then some 100 else bif Nat.beq o 97 && Nat.beq k 2 then some 99 else R o k
theorem cR_ne {o k x y : Nat} (h : ¬ (o = x ∧ k = y)) : (Nat.beq o x && Nat.beq k y) = false := by
  cases hb : (Nat.beq o x && Nat.beq k y) with
  | false => rfl
  | true =>
    simp only [Bool.and_eq_true] at hb
    exact absurd ⟨Nat.eq_of_beq_eq_true hb.1, Nat.eq_of_beq_eq_true hb.2⟩ h
theorem cRA_ne {R : px_R} {o k : Nat} (h : o ≠ 97 ∨ (k ≠ 1 ∧ k ≠ 2)) : cRA R o k = R o k := by
  unfold cRA
  rw [cR_ne (by omega), cR_ne (by omega)]; rfl
theorem cRB_ne {R : px_R} {o k : Nat} (h : o ≠ 97 ∨ (k ≠ 1 ∧ k ≠ 2)) : cRB R o k = R o k := by
  unfold cRB
  rw [cR_ne (by omega), cR_ne (by omega)]; rfl
theorem px_tg97 : px_tg 97 1 = 0 ∧ px_tg 97 2 = 0 ∧ (px_sh 97).1 ≠ 10 := by decide +kernel
theorem cR_G {n : Nat} {R R2 : px_R} (h : ∀ o k, (o ≠ 97 ∨ (k ≠ 1 ∧ k ≠ 2)) → R2 o k = R o k) (hg : px_G n R) : px_G n R2 := by
  obtain ⟨h1, h2, h3⟩ := hg
  refine ⟨h1, fun o k hk => ?_, fun w hw => ?_⟩
  · rw [h o k (by
      by_cases ho : o = 97
      · subst ho
        refine Or.inr ⟨fun e => ?_, fun e => ?_⟩ <;> subst e
        · exact hk px_tg97.1
        · exact hk px_tg97.2.1
      · exact Or.inl ho)]
    exact h2 o k hk
  · have hne : w ≠ 97 := fun e => by subst e; exact px_tg97.2.2 hw.2.2
    rw [h w 0 (Or.inl hne), h w 1 (Or.inl hne)]
    exact h3 w hw
theorem cRA_G {n : Nat} {R : px_R} (hg : px_G n R) : px_G n (cRA R) := cR_G (fun _ _ h => cRA_ne h) hg
theorem cRB_G {n : Nat} {R : px_R} (hg : px_G n R) : px_G n (cRB R) := cR_G (fun _ _ h => cRB_ne h) hg
theorem cRA_sw {R : px_R} : px_u (px_u (cRA R) 97 1 (some 100)) 97 2 (some 99) = cRB R := by
  funext o k
  by_cases h : o ≠ 97 ∨ (k ≠ 1 ∧ k ≠ 2)
  · rw [cRB_ne h, ← cRA_ne (R := R) h]
    simp only [px_ur]
    grind
  · have h1 : o = 97 := by omega
    have h2 : k = 1 ∨ k = 2 := by omega
    subst h1
    rcases h2 with rfl | rfl <;> rfl
theorem cRB_sw {R : px_R} : px_u (px_u (cRB R) 97 1 (some 99)) 97 2 (some 100) = cRA R := by
  funext o k
  by_cases h : o ≠ 97 ∨ (k ≠ 1 ∧ k ≠ 2)
  · rw [cRA_ne h, ← cRB_ne (R := R) h]
    simp only [px_ur]
    grind
  · have h1 : o = 97 := by omega
    have h2 : k = 1 ∨ k = 2 := by omega
    subst h1
    rcases h2 with rfl | rfl <;> rfl
def cPull (I : px_I) (p left : Int32) : Int32 := if left ≤ I 97 3 then (if 0 < p - 61 then cMx 0 (p - 61 - I 97 4) else cMn 0 (p - 61 + I 97 4)) else p - 61
def cBet (a b : Int64) (h : Int32) : Int64 := if a = -1 ∨ b = -1 then (if a < b then b else a) else if ¬ h = 0 then (if a < b then b else a) else (if b < a then b else a)
theorem cMx_in {x : Int32} : 0 ≤ cMx 0 (cMn 122 x) ∧ cMx 0 (cMn 122 x) ≤ 122 := by
  unfold cMx cMn
  constructor <;> grind

theorem q_X6_weigh_0 : px_bk 6 4 cX6_weigh 0 [(.aload_n 0, (0, 0, 0, 0, 0), 0, 0), (.getfield 11, (6, 0, 3, 98, 0), 0, 0), (.iconst 0, (0, 0, 0, 0, 0), 0, 0), (.iload_n 1, (0, 0, 0, 0, 0), 0, 0), (.iastore, (0, 0, 0, 0, 0), 0, 0), (.aload_n 0, (0, 0, 0, 0, 0), 0, 0), (.getfield 11, (6, 0, 3, 98, 0), 0, 0), (.iconst 1, (0, 0, 0, 0, 0), 1, 0), (.iload_n 2, (0, 0, 0, 0, 0), 0, 0), (.iastore, (0, 0, 0, 0, 0), 0, 0), (.aload_n 0, (0, 0, 0, 0, 0), 0, 0), (.getfield 11, (6, 0, 3, 98, 0), 0, 0), (.iconst 2, (0, 0, 0, 0, 0), 2, 0), (.iload_n 3, (0, 0, 0, 0, 0), 0, 0), (.iastore, (0, 0, 0, 0, 0), 0, 0)] = some 21 ∧ px_tr cX6_weigh 21 .return_ = true := by decide +kernel
set_option maxRecDepth 100000 in
theorem c_weigh {n : Nat} {I : px_I} {L : px_L} {R : px_R} (hg : px_G n R) (a b d : Int32) : px_KV M_X6_weigh [.ref 97, .int a, .int b, .int d] n I L R (fun I2 L2 => L2 = L ∧ I2 = px_u (px_u (px_u I 98 0 a) 98 1 b) 98 2 d) := by
  refine px_of (plainFor_of_name np_RX6) (fun _ _ _ => trivial) rfl ?_
  refine px_rvW rfl q_X6_weigh_0 rfl rfl rfl hg rfl ⟨⟨⟨trivial, (by decide)⟩, (by decide)⟩, (by decide)⟩ ⟨⟨rfl, rfl⟩, ?_⟩
  exact ⟨rfl, rfl⟩

theorem q_X6_hear_0 : px_bk 6 4 cX6_hear 0 [(.aload_n 0, (0, 0, 0, 0, 0), 0, 0), (.iload_n 1, (0, 0, 0, 0, 0), 0, 0), (.putfield 22, (6, 3, 0, 0, 0), 0, 0), (.aload_n 0, (0, 0, 0, 0, 0), 0, 0), (.iload_n 2, (0, 0, 0, 0, 0), 0, 0), (.putfield 26, (6, 4, 0, 0, 0), 0, 0), (.aload_n 0, (0, 0, 0, 0, 0), 0, 0), (.iload_n 3, (0, 0, 0, 0, 0), 0, 0), (.putfield 29, (6, 5, 0, 0, 0), 0, 0)] = some 15 ∧ px_tr cX6_hear 15 .return_ = true := by decide +kernel
set_option maxRecDepth 100000 in
theorem c_hear {n : Nat} {I : px_I} {L : px_L} {R : px_R} (hg : px_G n R) (a b d : Int32) : px_KV M_X6_hear [.ref 97, .int a, .int b, .int d] n I L R (fun I2 L2 => L2 = L ∧ I2 = px_u (px_u (px_u I 97 3 a) 97 4 b) 97 5 d) := by
  refine px_of (plainFor_of_name np_RX6) (fun _ _ _ => trivial) rfl ?_
  refine px_rvW rfl q_X6_hear_0 rfl rfl rfl hg rfl trivial ⟨⟨rfl, rfl⟩, ?_⟩
  exact ⟨rfl, rfl⟩

theorem q_X6_misses_0 : px_bk 6 2 cX6_misses 0 [(.iload_n 1, (0, 0, 0, 0, 0), 0, 0), (.bipush 61, (0, 0, 0, 0, 0), 61, 0), (.isub, (0, 0, 0, 0, 0), 0, 0)] = some 4 ∧ px_tS cX6_misses 4 69 = true := by decide +kernel
theorem q_X6_misses_7 : px_bk 6 2 cX6_misses 7 [(.aload_n 0, (0, 0, 0, 0, 0), 0, 0), (.getfield 29, (6, 5, 0, 0, 0), 0, 0)] = some 11 ∧ px_t2 cX6_misses 11 .le 18 = true := by decide +kernel
theorem q_X6_misses_18 : px_bk 6 2 cX6_misses 18 [(.iconst 0, (0, 0, 0, 0, 0), 0, 0)] = some 19 ∧ px_tr cX6_misses 19 .ireturn = true := by decide +kernel
theorem q_X6_misses_14 : px_bk 6 2 cX6_misses 14 [(.iconst 1, (0, 0, 0, 0, 0), 1, 0), (.goto 4, (0, 0, 0, 0, 0), 0, 0)] = some 19 ∧ px_tr cX6_misses 19 .ireturn = true := by decide +kernel
set_option maxRecDepth 100000 in
theorem c_misses {n : Nat} {I : px_I} {L : px_L} {R : px_R} (hg : px_G n R) (p : Int32) : px_KP M_X6_misses [.ref 97, .int p] n I L R (fun r => (r = 1 ∧ (I 97 5 < (if p - 61 < 0 then 0 - (p - 61) else p - 61))) ∨ (r = 0 ∧ ¬ (I 97 5 < (if p - 61 < 0 then 0 - (p - 61) else p - 61)))) := by
  refine px_of (plainFor_of_name np_RX6) (fun _ _ _ => trivial) rfl ?_
  refine px_cSP rfl q_X6_misses_0 hg rfl trivial lk_6_69 nm_J9_abs_0f7a4 (j_abs hg _) rfl rfl rfl ⟨rfl, rfl⟩ ?_
  intro x4 h4
  refine px_ile rfl q_X6_misses_7 hg rfl trivial (fun c11 => ?_) (fun c11 => ?_)
  · refine px_rzP rfl q_X6_misses_18 rfl rfl rfl hg rfl trivial ⟨⟨rfl, rfl, rfl, rfl⟩, (by first | exact Or.inl rfl | exact Or.inr rfl | grind), ?_⟩
    grind
  · refine px_rzP rfl q_X6_misses_14 rfl rfl rfl hg rfl trivial ⟨⟨rfl, rfl, rfl, rfl⟩, (by first | exact Or.inl rfl | exact Or.inr rfl | grind), ?_⟩
    grind

theorem q_X6_pulled_0 : px_bk 6 4 cX6_pulled 0 [(.iload_n 1, (0, 0, 0, 0, 0), 0, 0), (.bipush 61, (0, 0, 0, 0, 0), 61, 0), (.isub, (0, 0, 0, 0, 0), 0, 0), (.istore_n 3, (0, 0, 0, 0, 0), 0, 0), (.iload_n 2, (0, 0, 0, 0, 0), 0, 0), (.aload_n 0, (0, 0, 0, 0, 0), 0, 0), (.getfield 22, (6, 3, 0, 0, 0), 0, 0)] = some 10 ∧ px_t2 cX6_pulled 10 .gt 41 = true := by decide +kernel
theorem q_X6_pulled_41 : px_bk 6 4 cX6_pulled 41 [(.iconst 0, (0, 0, 0, 0, 0), 0, 0), (.bipush 122, (0, 0, 0, 0, 0), 122, 0), (.bipush 61, (0, 0, 0, 0, 0), 61, 0), (.iload_n 3, (0, 0, 0, 0, 0), 0, 0), (.iadd, (0, 0, 0, 0, 0), 0, 0)] = some 48 ∧ px_tS cX6_pulled 48 83 = true := by decide +kernel
theorem q_X6_pulled_51 : px_bk 6 4 cX6_pulled 51 [] = some 51 ∧ px_tS cX6_pulled 51 81 = true := by decide +kernel
theorem q_X6_pulled_54 : px_bk 6 4 cX6_pulled 54 [] = some 54 ∧ px_tr cX6_pulled 54 .ireturn = true := by decide +kernel
theorem q_X6_pulled_13 : px_bk 6 4 cX6_pulled 13 [(.iload_n 3, (0, 0, 0, 0, 0), 0, 0)] = some 14 ∧ px_t1 cX6_pulled 14 .le 30 = true := by decide +kernel
theorem q_X6_pulled_30 : px_bk 6 4 cX6_pulled 30 [(.iconst 0, (0, 0, 0, 0, 0), 0, 0), (.iload_n 3, (0, 0, 0, 0, 0), 0, 0), (.aload_n 0, (0, 0, 0, 0, 0), 0, 0), (.getfield 26, (6, 4, 0, 0, 0), 0, 0), (.iadd, (0, 0, 0, 0, 0), 0, 0)] = some 37 ∧ px_tS cX6_pulled 37 83 = true := by decide +kernel
theorem q_X6_pulled_40 : px_bk 6 4 cX6_pulled 40 [(.istore_n 3, (0, 0, 0, 0, 0), 0, 0), (.iconst 0, (0, 0, 0, 0, 0), 0, 0), (.bipush 122, (0, 0, 0, 0, 0), 122, 0), (.bipush 61, (0, 0, 0, 0, 0), 61, 0), (.iload_n 3, (0, 0, 0, 0, 0), 0, 0), (.iadd, (0, 0, 0, 0, 0), 0, 0)] = some 48 ∧ px_tS cX6_pulled 48 83 = true := by decide +kernel
theorem q_X6_pulled_17 : px_bk 6 4 cX6_pulled 17 [(.iconst 0, (0, 0, 0, 0, 0), 0, 0), (.iload_n 3, (0, 0, 0, 0, 0), 0, 0), (.aload_n 0, (0, 0, 0, 0, 0), 0, 0), (.getfield 26, (6, 4, 0, 0, 0), 0, 0), (.isub, (0, 0, 0, 0, 0), 0, 0)] = some 24 ∧ px_tS cX6_pulled 24 81 = true := by decide +kernel
theorem q_X6_pulled_27 : px_bk 6 4 cX6_pulled 27 [(.goto 13, (0, 0, 0, 0, 0), 0, 0), (.istore_n 3, (0, 0, 0, 0, 0), 0, 0), (.iconst 0, (0, 0, 0, 0, 0), 0, 0), (.bipush 122, (0, 0, 0, 0, 0), 122, 0), (.bipush 61, (0, 0, 0, 0, 0), 61, 0), (.iload_n 3, (0, 0, 0, 0, 0), 0, 0), (.iadd, (0, 0, 0, 0, 0), 0, 0)] = some 48 ∧ px_tS cX6_pulled 48 83 = true := by decide +kernel
set_option maxRecDepth 100000 in
theorem c_pulled {n : Nat} {I : px_I} {L : px_L} {R : px_R} (hg : px_G n R) (p q : Int32) : px_KP M_X6_pulled [.ref 97, .int p, .int q] n I L R (fun r => r = cMx 0 (cMn 122 (61 + cPull I p q))) := by
  refine px_of (plainFor_of_name np_RX6) (fun _ _ _ => trivial) rfl ?_
  refine px_igt rfl q_X6_pulled_0 hg rfl trivial (fun c10 => ?_) (fun c10 => ?_)
  · refine px_cSP rfl q_X6_pulled_41 hg rfl trivial lk_6_83 nm_J9_min_7cf53 (j_min hg _ _) rfl rfl rfl ⟨rfl, rfl⟩ ?_
    intro x48 h48
    refine px_cSP rfl q_X6_pulled_51 hg rfl trivial lk_6_81 nm_J9_max_7cf53 (j_max hg _ _) rfl rfl rfl ⟨rfl, rfl⟩ ?_
    intro x51 h51
    refine px_riP rfl q_X6_pulled_54 rfl rfl rfl hg rfl trivial ⟨⟨rfl, rfl, rfl, rfl⟩, ?_⟩
    unfold cPull cMx cMn; grind
  · refine px_le rfl q_X6_pulled_13 hg rfl trivial (fun c14 => ?_) (fun c14 => ?_)
    · refine px_cSP rfl q_X6_pulled_30 hg rfl trivial lk_6_83 nm_J9_min_7cf53 (j_min hg _ _) rfl rfl rfl ⟨rfl, rfl⟩ ?_
      intro x37 h37
      refine px_cSP rfl q_X6_pulled_40 hg rfl trivial lk_6_83 nm_J9_min_7cf53 (j_min hg _ _) rfl rfl rfl ⟨rfl, rfl⟩ ?_
      intro x48 h48
      refine px_cSP rfl q_X6_pulled_51 hg rfl trivial lk_6_81 nm_J9_max_7cf53 (j_max hg _ _) rfl rfl rfl ⟨rfl, rfl⟩ ?_
      intro x51 h51
      refine px_riP rfl q_X6_pulled_54 rfl rfl rfl hg rfl trivial ⟨⟨rfl, rfl, rfl, rfl⟩, ?_⟩
      unfold cPull cMx cMn; grind
    · refine px_cSP rfl q_X6_pulled_17 hg rfl trivial lk_6_81 nm_J9_max_7cf53 (j_max hg _ _) rfl rfl rfl ⟨rfl, rfl⟩ ?_
      intro x24 h24
      refine px_cSP rfl q_X6_pulled_27 hg rfl trivial lk_6_83 nm_J9_min_7cf53 (j_min hg _ _) rfl rfl rfl ⟨rfl, rfl⟩ ?_
      intro x48 h48
      refine px_cSP rfl q_X6_pulled_51 hg rfl trivial lk_6_81 nm_J9_max_7cf53 (j_max hg _ _) rfl rfl rfl ⟨rfl, rfl⟩ ?_
      intro x51 h51
      refine px_riP rfl q_X6_pulled_54 rfl rfl rfl hg rfl trivial ⟨⟨rfl, rfl, rfl, rfl⟩, ?_⟩
      unfold cPull cMx cMn; grind

theorem q_X6_better_0 : px_bk 6 5 cX6_better 0 [(.lload_n 0, (0, 0, 0, 0, 0), 0, 0), (.ldc2_w 55, (0, 0, 0, 0, 0), 0, -1), (.lcmp, (0, 0, 0, 0, 0), 0, 0)] = some 5 ∧ px_t1 cX6_better 5 .eq 16 = true := by decide +kernel
theorem q_X6_better_16 : px_bk 6 5 cX6_better 16 [(.lload_n 0, (0, 0, 0, 0, 0), 0, 0), (.lload_n 2, (0, 0, 0, 0, 0), 0, 0)] = some 18 ∧ px_tS cX6_better 18 75 = true := by decide +kernel
theorem q_X6_better_21 : px_bk 6 5 cX6_better 21 [] = some 21 ∧ px_tr cX6_better 21 .lreturn = true := by decide +kernel
theorem q_X6_better_8 : px_bk 6 5 cX6_better 8 [(.lload_n 2, (0, 0, 0, 0, 0), 0, 0), (.ldc2_w 55, (0, 0, 0, 0, 0), 0, -1), (.lcmp, (0, 0, 0, 0, 0), 0, 0)] = some 13 ∧ px_t1 cX6_better 13 .ne 22 = true := by decide +kernel
theorem q_X6_better_22 : px_bk 6 5 cX6_better 22 [(.iload 4, (0, 0, 0, 0, 0), 0, 0)] = some 24 ∧ px_t1 cX6_better 24 .eq 35 = true := by decide +kernel
theorem q_X6_better_35 : px_bk 6 5 cX6_better 35 [(.lload_n 0, (0, 0, 0, 0, 0), 0, 0), (.lload_n 2, (0, 0, 0, 0, 0), 0, 0)] = some 37 ∧ px_tS cX6_better 37 78 = true := by decide +kernel
theorem q_X6_better_40 : px_bk 6 5 cX6_better 40 [] = some 40 ∧ px_tr cX6_better 40 .lreturn = true := by decide +kernel
theorem q_X6_better_27 : px_bk 6 5 cX6_better 27 [(.lload_n 0, (0, 0, 0, 0, 0), 0, 0), (.lload_n 2, (0, 0, 0, 0, 0), 0, 0)] = some 29 ∧ px_tS cX6_better 29 75 = true := by decide +kernel
theorem q_X6_better_32 : px_bk 6 5 cX6_better 32 [(.goto 8, (0, 0, 0, 0, 0), 0, 0)] = some 40 ∧ px_tr cX6_better 40 .lreturn = true := by decide +kernel
set_option maxRecDepth 100000 in
theorem c_better {n : Nat} {I : px_I} {L : px_L} {R : px_R} (hg : px_G n R) (a b : Int64) (h : Int32) : px_KQ M_X6_better [.long a, .long b, .int h] n I L R (fun r => r = cBet a b h) := by
  refine px_of (plainFor_of_name np_RX6) (fun _ _ _ => trivial) rfl ?_
  refine px_leq rfl q_X6_better_0 hg rfl trivial (fun c5 => ?_) (fun c5 => ?_)
  · refine px_cSQ rfl q_X6_better_16 hg rfl trivial lk_6_75 nm_J9_max_f86c9 (j_maxL hg _ _) rfl rfl rfl ⟨rfl, rfl⟩ ?_
    intro x18 h18
    refine px_rlQ rfl q_X6_better_21 rfl rfl rfl hg rfl trivial ⟨⟨rfl, rfl, rfl, rfl⟩, ?_⟩
    unfold cBet; grind
  · refine px_lne rfl q_X6_better_8 hg rfl trivial (fun c13 => ?_) (fun c13 => ?_)
    · refine px_eq rfl q_X6_better_22 hg rfl trivial (fun c24 => ?_) (fun c24 => ?_)
      · refine px_cSQ rfl q_X6_better_35 hg rfl trivial lk_6_78 nm_J9_min_f86c9 (j_minL hg _ _) rfl rfl rfl ⟨rfl, rfl⟩ ?_
        intro x37 h37
        refine px_rlQ rfl q_X6_better_40 rfl rfl rfl hg rfl trivial ⟨⟨rfl, rfl, rfl, rfl⟩, ?_⟩
        unfold cBet; grind
      · refine px_cSQ rfl q_X6_better_27 hg rfl trivial lk_6_75 nm_J9_max_f86c9 (j_maxL hg _ _) rfl rfl rfl ⟨rfl, rfl⟩ ?_
        intro x29 h29
        refine px_rlQ rfl q_X6_better_32 rfl rfl rfl hg rfl trivial ⟨⟨rfl, rfl, rfl, rfl⟩, ?_⟩
        unfold cBet; grind
    · refine px_cSQ rfl q_X6_better_16 hg rfl trivial lk_6_75 nm_J9_max_f86c9 (j_maxL hg _ _) rfl rfl rfl ⟨rfl, rfl⟩ ?_
      intro x18 h18
      refine px_rlQ rfl q_X6_better_21 rfl rfl rfl hg rfl trivial ⟨⟨rfl, rfl, rfl, rfl⟩, ?_⟩
      unfold cBet; grind

theorem q_X6_commonDivisor_9 : px_bk 6 11 cX6_commonDivisor 9 [(.iload 8, (0, 0, 0, 0, 0), 0, 0), (.sipush 200, (0, 0, 0, 0, 0), 200, 0)] = some 14 ∧ px_t2 cX6_commonDivisor 14 .ge 45 = true := by decide +kernel
theorem q_X6_commonDivisor_45 : px_bk 6 11 cX6_commonDivisor 45 [(.lload 4, (0, 0, 0, 0, 0), 0, 0)] = some 47 ∧ px_tr cX6_commonDivisor 47 .lreturn = true := by decide +kernel
theorem q_X6_commonDivisor_17 : px_bk 6 11 cX6_commonDivisor 17 [(.lload 6, (0, 0, 0, 0, 0), 0, 0), (.lconst 0, (0, 0, 0, 0, 0), 0, 0), (.lcmp, (0, 0, 0, 0, 0), 0, 0)] = some 21 ∧ px_t1 cX6_commonDivisor 21 .le 45 = true := by decide +kernel
theorem q_X6_commonDivisor_24 : px_bk 6 11 cX6_commonDivisor 24 [(.lload 4, (0, 0, 0, 0, 0), 0, 0), (.lload 6, (0, 0, 0, 0, 0), 0, 0), (.lrem, (0, 0, 0, 0, 0), 0, 0), (.lstore 9, (0, 0, 0, 0, 0), 0, 0), (.lload 6, (0, 0, 0, 0, 0), 0, 0), (.lstore 4, (0, 0, 0, 0, 0), 0, 0), (.lload 9, (0, 0, 0, 0, 0), 0, 0), (.lstore 6, (0, 0, 0, 0, 0), 0, 0), (.iinc 8 1, (0, 0, 0, 0, 0), 1, 0), (.goto (-33), (0, 0, 0, 0, 0), 0, 0)] = some 9 := by decide +kernel
set_option maxRecDepth 100000 in
theorem l_cDiv {n : Nat} {R : px_R} (hg : px_G n R) {Q : px_Q} (a b : Int64) {I : px_I} {L : px_L} (hq : ∀ r, Q (some (.long r)) n I L R) : ∀ i : Int32, i ≤ 200 → ∀ x y : Int64, px M_X6_commonDivisor 0 0 9 [(0, .long a), (2, .long b), (4, .long x), (6, .long y), (8, .int i)] [] n I L R Q := by
  refine px_up 200 (fun i ih hi => ?_)
  intro x y
  refine px_ige rfl q_X6_commonDivisor_9 hg rfl trivial (fun c14 => ?_) (fun c14 => ?_)
  · refine px_rl rfl q_X6_commonDivisor_45 rfl rfl rfl hg rfl trivial ?_
    exact hq _
  · refine px_lle rfl q_X6_commonDivisor_17 hg rfl trivial (fun c21 => ?_) (fun c21 => ?_)
    · refine px_rl rfl q_X6_commonDivisor_45 rfl rfl rfl hg rfl trivial ?_
      exact hq _
    · refine px_b rfl q_X6_commonDivisor_24 hg rfl ⟨trivial, (fun e => by rw [e] at c21; exact absurd c21 (by decide))⟩ ?_
      exact px_go (ih (i + 1) (by grind) (by grind) _ _) ⟨rfl, rfl, rfl, rfl, rfl, trivial⟩

theorem q_X6_commonDivisor_0 : px_bk 6 11 cX6_commonDivisor 0 [(.lload_n 0, (0, 0, 0, 0, 0), 0, 0), (.lstore 4, (0, 0, 0, 0, 0), 0, 0), (.lload_n 2, (0, 0, 0, 0, 0), 0, 0), (.lstore 6, (0, 0, 0, 0, 0), 0, 0), (.iconst 0, (0, 0, 0, 0, 0), 0, 0), (.istore 8, (0, 0, 0, 0, 0), 0, 0)] = some 9 := by decide +kernel
set_option maxRecDepth 100000 in
theorem c_cDiv {n : Nat} {I : px_I} {L : px_L} {R : px_R} (hg : px_G n R) (a b : Int64) : px_KQ M_X6_commonDivisor [.long a, .long b] n I L R (fun r => True) := by
  refine px_of (plainFor_of_name np_RX6) (fun _ _ _ => trivial) rfl ?_
  refine px_b rfl q_X6_commonDivisor_0 hg rfl trivial ?_
  exact px_go (l_cDiv hg a b (fun r => ⟨rfl, rfl, r, rfl, rfl, rfl, trivial⟩) 0 (by decide) a b) ⟨rfl, rfl, rfl, rfl, rfl, trivial⟩

theorem q_X6_startAt_3 : px_bk 6 7 cX6_startAt 3 [(.iload 6, (0, 0, 0, 0, 0), 0, 0), (.bipush 123, (0, 0, 0, 0, 0), 123, 0)] = some 7 ∧ px_t2 cX6_startAt 7 .ge 38 = true := by decide +kernel
theorem q_X6_startAt_38 : px_bk 6 7 cX6_startAt 38 [] = some 38 ∧ px_tr cX6_startAt 38 .return_ = true := by decide +kernel
theorem q_X6_startAt_10 : px_bk 6 7 cX6_startAt 10 [(.aload_n 0, (0, 0, 0, 0, 0), 0, 0), (.getfield 15, (6, 1, 4, 0, 0), 0, 0), (.iload 6, (0, 0, 0, 0, 0), 0, 0), (.iload 6, (0, 0, 0, 0, 0), 0, 0), (.bipush 61, (0, 0, 0, 0, 0), 61, 0), (.iload_n 1, (0, 0, 0, 0, 0), 0, 0), (.iadd, (0, 0, 0, 0, 0), 0, 0)] = some 22 ∧ px_t2 cX6_startAt 22 .ne 30 = true := by decide +kernel
theorem q_X6_startAt_30 : px_bk 6 7 cX6_startAt 30 [(.lload_n 2, (0, 0, 0, 0, 0), 0, 0), (.lastore, (0, 0, 0, 0, 0), 0, 0), (.iinc 6 1, (0, 0, 0, 0, 0), 1, 0), (.goto (-32), (0, 0, 0, 0, 0), 0, 0)] = some 3 := by decide +kernel
theorem q_X6_startAt_25 : px_bk 6 7 cX6_startAt 25 [(.lload 4, (0, 0, 0, 0, 0), 0, 0), (.goto 4, (0, 0, 0, 0, 0), 0, 0), (.lastore, (0, 0, 0, 0, 0), 0, 0), (.iinc 6 1, (0, 0, 0, 0, 0), 1, 0), (.goto (-32), (0, 0, 0, 0, 0), 0, 0)] = some 3 := by decide +kernel
set_option maxRecDepth 100000 in
theorem l_startAtA {n : Nat} {R : px_R} (hg : px_G n (cRA R)) (hg2 : px_G n (cRB R)) {Q : px_Q} (o : Int32) (e h : Int64) {I : px_I} (L : px_L) (hq : ∀ L2, cSL L L2 → Q none n I L2 (cRA R)) : ∀ i : Int32, i ≤ 123 → 0 ≤ i → ∀ L1, cSL L L1 → px M_X6_startAt 0 0 3 [(0, .ref 97), (1, .int o), (2, .long e), (4, .long h), (6, .int i)] [] n I L1 (cRA R) Q := by
  refine px_up 123 (fun i ih hi => ?_)
  intro h0 L1 h1
  refine px_ige rfl q_X6_startAt_3 hg rfl trivial (fun c7 => ?_) (fun c7 => ?_)
  · refine px_rv rfl q_X6_startAt_38 rfl rfl rfl hg rfl trivial ?_
    exact hq _ h1
  · refine px_ine rfl q_X6_startAt_10 hg rfl trivial (fun c22 => ?_) (fun c22 => ?_)
    · refine px_b rfl q_X6_startAt_30 hg rfl ⟨trivial, (by first | decide | (refine ⟨?_, ?_⟩ <;> grind) | grind)⟩ ?_
      exact px_go (ih (i + 1) (by grind) (by grind) (by grind) _ (by repeat (first | exact h1 | refine cSL.u9 ?_ _ _ | refine cSL.u0 ?_ _ _))) ⟨rfl, rfl, rfl, rfl, rfl, trivial⟩
    · refine px_b rfl q_X6_startAt_25 hg rfl ⟨trivial, (by first | decide | (refine ⟨?_, ?_⟩ <;> grind) | grind)⟩ ?_
      exact px_go (ih (i + 1) (by grind) (by grind) (by grind) _ (by repeat (first | exact h1 | refine cSL.u9 ?_ _ _ | refine cSL.u0 ?_ _ _))) ⟨rfl, rfl, rfl, rfl, rfl, trivial⟩

theorem q_X6_startAt_0 : px_bk 6 7 cX6_startAt 0 [(.iconst 0, (0, 0, 0, 0, 0), 0, 0), (.istore 6, (0, 0, 0, 0, 0), 0, 0)] = some 3 := by decide +kernel
set_option maxRecDepth 100000 in
theorem c_startAtA {n : Nat} {I : px_I} {L : px_L} {R : px_R} (hg : px_G n (cRA R)) (hg2 : px_G n (cRB R)) (o : Int32) (e h : Int64) : px_KV M_X6_startAt [.ref 97, .int o, .long e, .long h] n I L (cRA R) (fun I2 L2 => I2 = I ∧ cSL L L2) := by
  refine px_of (plainFor_of_name np_RX6) (fun _ _ _ => trivial) rfl ?_
  refine px_b rfl q_X6_startAt_0 hg rfl trivial ?_
  exact px_go (l_startAtA hg hg2 o e h L (fun L2 h => ⟨rfl, rfl, rfl, rfl, h⟩) 0 (by decide) (by decide) L cSL.rfl') ⟨rfl, rfl, rfl, rfl, rfl, trivial⟩

theorem q_X6_clearNext_2 : px_bk 6 4 cX6_clearNext 2 [(.iload_n 3, (0, 0, 0, 0, 0), 0, 0), (.bipush 123, (0, 0, 0, 0, 0), 123, 0)] = some 5 ∧ px_t2 cX6_clearNext 5 .ge 21 = true := by decide +kernel
theorem q_X6_clearNext_21 : px_bk 6 4 cX6_clearNext 21 [] = some 21 ∧ px_tr cX6_clearNext 21 .return_ = true := by decide +kernel
theorem q_X6_clearNext_8 : px_bk 6 4 cX6_clearNext 8 [(.aload_n 0, (0, 0, 0, 0, 0), 0, 0), (.getfield 19, (6, 2, 4, 0, 0), 0, 0), (.iload_n 3, (0, 0, 0, 0, 0), 0, 0), (.lload_n 1, (0, 0, 0, 0, 0), 0, 0), (.lastore, (0, 0, 0, 0, 0), 0, 0), (.iinc 3 1, (0, 0, 0, 0, 0), 1, 0), (.goto (-16), (0, 0, 0, 0, 0), 0, 0)] = some 2 := by decide +kernel
set_option maxRecDepth 100000 in
theorem l_clearNextA {n : Nat} {R : px_R} (hg : px_G n (cRA R)) (hg2 : px_G n (cRB R)) {Q : px_Q} (v : Int64) {I : px_I} (L : px_L) (hq : ∀ L2, cSL L L2 → Q none n I L2 (cRA R)) : ∀ i : Int32, i ≤ 123 → 0 ≤ i → ∀ L1, cSL L L1 → px M_X6_clearNext 0 0 2 [(0, .ref 97), (1, .long v), (3, .int i)] [] n I L1 (cRA R) Q := by
  refine px_up 123 (fun i ih hi => ?_)
  intro h0 L1 h1
  refine px_ige rfl q_X6_clearNext_2 hg rfl trivial (fun c5 => ?_) (fun c5 => ?_)
  · refine px_rv rfl q_X6_clearNext_21 rfl rfl rfl hg rfl trivial ?_
    exact hq _ h1
  · refine px_b rfl q_X6_clearNext_8 hg rfl ⟨trivial, (by first | decide | (refine ⟨?_, ?_⟩ <;> grind) | grind)⟩ ?_
    exact px_go (ih (i + 1) (by grind) (by grind) (by grind) _ (by repeat (first | exact h1 | refine cSL.u9 ?_ _ _ | refine cSL.u0 ?_ _ _))) ⟨rfl, rfl, rfl, trivial⟩

theorem q_X6_clearNext_0 : px_bk 6 4 cX6_clearNext 0 [(.iconst 0, (0, 0, 0, 0, 0), 0, 0), (.istore_n 3, (0, 0, 0, 0, 0), 0, 0)] = some 2 := by decide +kernel
set_option maxRecDepth 100000 in
theorem c_clearNextA {n : Nat} {I : px_I} {L : px_L} {R : px_R} (hg : px_G n (cRA R)) (hg2 : px_G n (cRB R)) (v : Int64) : px_KV M_X6_clearNext [.ref 97, .long v] n I L (cRA R) (fun I2 L2 => I2 = I ∧ cSL L L2) := by
  refine px_of (plainFor_of_name np_RX6) (fun _ _ _ => trivial) rfl ?_
  refine px_b rfl q_X6_clearNext_0 hg rfl trivial ?_
  exact px_go (l_clearNextA hg hg2 v L (fun L2 h => ⟨rfl, rfl, rfl, rfl, h⟩) 0 (by decide) (by decide) L cSL.rfl') ⟨rfl, rfl, rfl, trivial⟩

theorem q_X6_spread_14 : px_bk 6 5 cX6_spread 14 [(.iload_n 3, (0, 0, 0, 0, 0), 0, 0), (.iconst 3, (0, 0, 0, 0, 0), 3, 0)] = some 16 ∧ px_t2 cX6_spread 16 .ge 61 = true := by decide +kernel
theorem q_X6_spread_61 : px_bk 6 5 cX6_spread 61 [] = some 61 ∧ px_tr cX6_spread 61 .return_ = true := by decide +kernel
theorem q_X6_spread_19 : px_bk 6 5 cX6_spread 19 [(.aload_n 0, (0, 0, 0, 0, 0), 0, 0), (.iload_n 1, (0, 0, 0, 0, 0), 0, 0), (.iload_n 3, (0, 0, 0, 0, 0), 0, 0), (.iadd, (0, 0, 0, 0, 0), 0, 0), (.iconst 1, (0, 0, 0, 0, 0), 1, 0), (.isub, (0, 0, 0, 0, 0), 0, 0), (.iload_n 2, (0, 0, 0, 0, 0), 0, 0)] = some 26 ∧ px_tv cX6_spread 26 65 = true := by decide +kernel
theorem q_X6_spread_29 : px_bk 6 5 cX6_spread 29 [(.istore 4, (0, 0, 0, 0, 0), 0, 0), (.aload_n 0, (0, 0, 0, 0, 0), 0, 0), (.getfield 19, (6, 2, 4, 0, 0), 0, 0), (.iload 4, (0, 0, 0, 0, 0), 0, 0), (.dup2, (0, 0, 0, 0, 0), 0, 0), (.laload, (0, 0, 0, 0, 0), 0, 0), (.aload_n 0, (0, 0, 0, 0, 0), 0, 0), (.getfield 11, (6, 0, 3, 98, 0), 0, 0), (.iload_n 3, (0, 0, 0, 0, 0), 0, 0), (.iaload, (0, 0, 0, 0, 0), 0, 0), (.i2l, (0, 0, 0, 0, 0), 0, 0), (.aload_n 0, (0, 0, 0, 0, 0), 0, 0), (.getfield 15, (6, 1, 4, 0, 0), 0, 0), (.iload_n 1, (0, 0, 0, 0, 0), 0, 0), (.laload, (0, 0, 0, 0, 0), 0, 0), (.lmul, (0, 0, 0, 0, 0), 0, 0), (.ladd, (0, 0, 0, 0, 0), 0, 0), (.lastore, (0, 0, 0, 0, 0), 0, 0), (.iinc 3 1, (0, 0, 0, 0, 0), 1, 0), (.goto (-44), (0, 0, 0, 0, 0), 0, 0)] = some 14 := by decide +kernel
set_option maxRecDepth 100000 in
theorem l_spreadA {n : Nat} {R : px_R} (hg : px_G n (cRA R)) (hg2 : px_G n (cRB R)) {Q : px_Q} (p q : Int32) (hp : 0 ≤ p ∧ p < 123) {I : px_I} (L : px_L) (hq : ∀ L2, cSL L L2 → Q none n I L2 (cRA R)) : ∀ i : Int32, i ≤ 3 → 0 ≤ i → ∀ L1, cSL L L1 → px M_X6_spread 0 0 14 [(0, .ref 97), (1, .int p), (2, .int q), (3, .int i)] [] n I L1 (cRA R) Q := by
  refine px_up 3 (fun i ih hi => ?_)
  intro h0 L1 h1
  refine px_ige rfl q_X6_spread_14 hg rfl trivial (fun c16 => ?_) (fun c16 => ?_)
  · refine px_rv rfl q_X6_spread_61 rfl rfl rfl hg rfl trivial ?_
    exact hq _ h1
  · refine px_cVP (ci := 6) rfl q_X6_spread_19 hg rfl trivial lk_6_65 nm_X6_pulled (c_pulled hg _ _) rfl rfl (px_lit hg rfl) rfl rfl rfl ⟨rfl, rfl⟩ ?_
    intro x26 h26
    have z26 : 0 ≤ x26 ∧ x26 < 123 := by have z9 := cMx_in (x := 61 + cPull I (p + i - 1) q); rw [← h26] at z9; exact ⟨z9.1, by grind⟩
    refine px_b rfl q_X6_spread_29 hg rfl ⟨⟨⟨⟨trivial, (by first | with_reducible assumption | (refine ⟨?_, ?_⟩ <;> grind))⟩, (by first | with_reducible assumption | (refine ⟨?_, ?_⟩ <;> grind))⟩, (by first | with_reducible assumption | (refine ⟨?_, ?_⟩ <;> grind))⟩, (by first | with_reducible assumption | (refine ⟨?_, ?_⟩ <;> grind))⟩ ?_
    exact px_go (ih (i + 1) (by grind) (by grind) (by grind) _ (by repeat (first | exact h1 | refine cSL.u9 ?_ _ _ | refine cSL.u0 ?_ _ _))) ⟨rfl, rfl, rfl, rfl, trivial⟩

theorem q_X6_spread_0 : px_bk 6 5 cX6_spread 0 [(.aload_n 0, (0, 0, 0, 0, 0), 0, 0), (.getfield 15, (6, 1, 4, 0, 0), 0, 0), (.iload_n 1, (0, 0, 0, 0, 0), 0, 0), (.laload, (0, 0, 0, 0, 0), 0, 0), (.lconst 0, (0, 0, 0, 0, 0), 0, 0), (.lcmp, (0, 0, 0, 0, 0), 0, 0)] = some 8 ∧ px_t1 cX6_spread 8 .ne 12 = true := by decide +kernel
theorem q_X6_spread_12 : px_bk 6 5 cX6_spread 12 [(.iconst 0, (0, 0, 0, 0, 0), 0, 0), (.istore_n 3, (0, 0, 0, 0, 0), 0, 0)] = some 14 := by decide +kernel
theorem q_X6_spread_11 : px_bk 6 5 cX6_spread 11 [] = some 11 ∧ px_tr cX6_spread 11 .return_ = true := by decide +kernel
set_option maxRecDepth 100000 in
theorem c_spreadA {n : Nat} {I : px_I} {L : px_L} {R : px_R} (hg : px_G n (cRA R)) (hg2 : px_G n (cRB R)) (p q : Int32) (hp : 0 ≤ p ∧ p < 123) : px_KV M_X6_spread [.ref 97, .int p, .int q] n I L (cRA R) (fun I2 L2 => I2 = I ∧ cSL L L2) := by
  refine px_of (plainFor_of_name np_RX6) (fun _ _ _ => trivial) rfl ?_
  refine px_lne rfl q_X6_spread_0 hg rfl ⟨trivial, (by with_reducible assumption)⟩ (fun c8 => ?_) (fun c8 => ?_)
  · refine px_b rfl q_X6_spread_12 hg rfl trivial ?_
    exact px_go (l_spreadA hg hg2 p q hp L (fun L2 h => ⟨rfl, rfl, rfl, rfl, h⟩) 0 (by decide) (by decide) L cSL.rfl') ⟨rfl, rfl, rfl, rfl, trivial⟩
  · refine px_rvW rfl q_X6_spread_11 rfl rfl rfl hg rfl trivial ⟨⟨rfl, rfl⟩, ?_⟩
    exact ⟨rfl, cSL.rfl'⟩

theorem q_X6_prolong_17 : px_bk 6 8 cX6_prolong 17 [(.iload 4, (0, 0, 0, 0, 0), 0, 0), (.iconst 3, (0, 0, 0, 0, 0), 3, 0)] = some 20 ∧ px_t2 cX6_prolong 20 .ge 90 = true := by decide +kernel
theorem q_X6_prolong_90 : px_bk 6 8 cX6_prolong 90 [] = some 90 ∧ px_tr cX6_prolong 90 .return_ = true := by decide +kernel
theorem q_X6_prolong_23 : px_bk 6 8 cX6_prolong 23 [(.aload_n 0, (0, 0, 0, 0, 0), 0, 0), (.getfield 11, (6, 0, 3, 98, 0), 0, 0), (.iload 4, (0, 0, 0, 0, 0), 0, 0), (.iaload, (0, 0, 0, 0, 0), 0, 0)] = some 30 ∧ px_t1 cX6_prolong 30 .le 84 = true := by decide +kernel
theorem q_X6_prolong_84 : px_bk 6 8 cX6_prolong 84 [(.iinc 4 1, (0, 0, 0, 0, 0), 1, 0), (.goto (-70), (0, 0, 0, 0, 0), 0, 0)] = some 17 := by decide +kernel
theorem q_X6_prolong_33 : px_bk 6 8 cX6_prolong 33 [(.aload_n 0, (0, 0, 0, 0, 0), 0, 0), (.iload_n 1, (0, 0, 0, 0, 0), 0, 0), (.iload 4, (0, 0, 0, 0, 0), 0, 0), (.iadd, (0, 0, 0, 0, 0), 0, 0), (.iconst 1, (0, 0, 0, 0, 0), 1, 0), (.isub, (0, 0, 0, 0, 0), 0, 0), (.iload_n 2, (0, 0, 0, 0, 0), 0, 0)] = some 41 ∧ px_tv cX6_prolong 41 65 = true := by decide +kernel
theorem q_X6_prolong_44 : px_bk 6 8 cX6_prolong 44 [(.istore 5, (0, 0, 0, 0, 0), 0, 0), (.aload_n 0, (0, 0, 0, 0, 0), 0, 0), (.getfield 15, (6, 1, 4, 0, 0), 0, 0), (.iload_n 1, (0, 0, 0, 0, 0), 0, 0), (.laload, (0, 0, 0, 0, 0), 0, 0), (.iload 5, (0, 0, 0, 0, 0), 0, 0), (.bipush 61, (0, 0, 0, 0, 0), 61, 0), (.isub, (0, 0, 0, 0, 0), 0, 0)] = some 57 ∧ px_tS cX6_prolong 57 69 = true := by decide +kernel
theorem q_X6_prolong_60 : px_bk 6 8 cX6_prolong 60 [(.i2l, (0, 0, 0, 0, 0), 0, 0), (.ladd, (0, 0, 0, 0, 0), 0, 0), (.lstore 6, (0, 0, 0, 0, 0), 0, 0), (.aload_n 0, (0, 0, 0, 0, 0), 0, 0), (.getfield 19, (6, 2, 4, 0, 0), 0, 0), (.iload 5, (0, 0, 0, 0, 0), 0, 0), (.aload_n 0, (0, 0, 0, 0, 0), 0, 0), (.getfield 19, (6, 2, 4, 0, 0), 0, 0), (.iload 5, (0, 0, 0, 0, 0), 0, 0), (.laload, (0, 0, 0, 0, 0), 0, 0), (.lload 6, (0, 0, 0, 0, 0), 0, 0), (.iload_n 3, (0, 0, 0, 0, 0), 0, 0)] = some 80 ∧ px_tS cX6_prolong 80 61 = true := by decide +kernel
theorem q_X6_prolong_83 : px_bk 6 8 cX6_prolong 83 [(.lastore, (0, 0, 0, 0, 0), 0, 0), (.iinc 4 1, (0, 0, 0, 0, 0), 1, 0), (.goto (-70), (0, 0, 0, 0, 0), 0, 0)] = some 17 := by decide +kernel
set_option maxRecDepth 100000 in
theorem l_prolongA {n : Nat} {R : px_R} (hg : px_G n (cRA R)) (hg2 : px_G n (cRB R)) {Q : px_Q} (p q h : Int32) (hp : 0 ≤ p ∧ p < 123) {I : px_I} (L : px_L) (hq : ∀ L2, cSL L L2 → Q none n I L2 (cRA R)) : ∀ i : Int32, i ≤ 3 → 0 ≤ i → ∀ L1, cSL L L1 → px M_X6_prolong 0 0 17 [(0, .ref 97), (1, .int p), (2, .int q), (3, .int h), (4, .int i)] [] n I L1 (cRA R) Q := by
  refine px_up 3 (fun i ih hi => ?_)
  intro h0 L1 h1
  refine px_ige rfl q_X6_prolong_17 hg rfl trivial (fun c20 => ?_) (fun c20 => ?_)
  · refine px_rv rfl q_X6_prolong_90 rfl rfl rfl hg rfl trivial ?_
    exact hq _ h1
  · refine px_le rfl q_X6_prolong_23 hg rfl ⟨trivial, (by first | with_reducible assumption | (refine ⟨?_, ?_⟩ <;> grind))⟩ (fun c30 => ?_) (fun c30 => ?_)
    · refine px_b rfl q_X6_prolong_84 hg rfl trivial ?_
      exact px_go (ih (i + 1) (by grind) (by grind) (by grind) _ (by repeat (first | exact h1 | refine cSL.u9 ?_ _ _ | refine cSL.u0 ?_ _ _))) ⟨rfl, rfl, rfl, rfl, rfl, trivial⟩
    · refine px_cVP (ci := 6) rfl q_X6_prolong_33 hg rfl trivial lk_6_65 nm_X6_pulled (c_pulled hg _ _) rfl rfl (px_lit hg rfl) rfl rfl rfl ⟨rfl, rfl⟩ ?_
      intro x41 h41
      have z41 : 0 ≤ x41 ∧ x41 < 123 := by have z9 := cMx_in (x := 61 + cPull I (p + i - 1) q); rw [← h41] at z9; exact ⟨z9.1, by grind⟩
      refine px_cSP rfl q_X6_prolong_44 hg rfl ⟨trivial, (by first | with_reducible assumption | (refine ⟨?_, ?_⟩ <;> grind))⟩ lk_6_69 nm_J9_abs_0f7a4 (j_abs hg _) rfl rfl rfl ⟨rfl, rfl⟩ ?_
      intro x57 h57
      refine px_cSQ rfl q_X6_prolong_60 hg rfl ⟨trivial, (by first | with_reducible assumption | (refine ⟨?_, ?_⟩ <;> grind))⟩ lk_6_61 nm_X6_better (c_better hg _ _ _) rfl rfl rfl ⟨rfl, rfl⟩ ?_
      intro x80 h80
      refine px_b rfl q_X6_prolong_83 hg rfl ⟨trivial, (by first | with_reducible assumption | (refine ⟨?_, ?_⟩ <;> grind))⟩ ?_
      exact px_go (ih (i + 1) (by grind) (by grind) (by grind) _ (by repeat (first | exact h1 | refine cSL.u9 ?_ _ _ | refine cSL.u0 ?_ _ _))) ⟨rfl, rfl, rfl, rfl, rfl, trivial⟩

theorem q_X6_prolong_0 : px_bk 6 8 cX6_prolong 0 [(.aload_n 0, (0, 0, 0, 0, 0), 0, 0), (.getfield 15, (6, 1, 4, 0, 0), 0, 0), (.iload_n 1, (0, 0, 0, 0, 0), 0, 0), (.laload, (0, 0, 0, 0, 0), 0, 0), (.ldc2_w 55, (0, 0, 0, 0, 0), 0, -1), (.lcmp, (0, 0, 0, 0, 0), 0, 0)] = some 10 ∧ px_t1 cX6_prolong 10 .ne 14 = true := by decide +kernel
theorem q_X6_prolong_14 : px_bk 6 8 cX6_prolong 14 [(.iconst 0, (0, 0, 0, 0, 0), 0, 0), (.istore 4, (0, 0, 0, 0, 0), 0, 0)] = some 17 := by decide +kernel
theorem q_X6_prolong_13 : px_bk 6 8 cX6_prolong 13 [] = some 13 ∧ px_tr cX6_prolong 13 .return_ = true := by decide +kernel
set_option maxRecDepth 100000 in
theorem c_prolongA {n : Nat} {I : px_I} {L : px_L} {R : px_R} (hg : px_G n (cRA R)) (hg2 : px_G n (cRB R)) (p q h : Int32) (hp : 0 ≤ p ∧ p < 123) : px_KV M_X6_prolong [.ref 97, .int p, .int q, .int h] n I L (cRA R) (fun I2 L2 => I2 = I ∧ cSL L L2) := by
  refine px_of (plainFor_of_name np_RX6) (fun _ _ _ => trivial) rfl ?_
  refine px_lne rfl q_X6_prolong_0 hg rfl ⟨trivial, (by with_reducible assumption)⟩ (fun c10 => ?_) (fun c10 => ?_)
  · refine px_b rfl q_X6_prolong_14 hg rfl trivial ?_
    exact px_go (l_prolongA hg hg2 p q h hp L (fun L2 h => ⟨rfl, rfl, rfl, rfl, h⟩) 0 (by decide) (by decide) L cSL.rfl') ⟨rfl, rfl, rfl, rfl, rfl, trivial⟩
  · refine px_rvW rfl q_X6_prolong_13 rfl rfl rfl hg rfl trivial ⟨⟨rfl, rfl⟩, ?_⟩
    exact ⟨rfl, cSL.rfl'⟩

theorem q_X6_swap_0A : (px_bk 6 2 cX6_swap 0 [(.aload_n 0, (0, 0, 0, 0, 0), 0, 0), (.getfield 15, (6, 1, 4, 0, 0), 0, 0), (.astore_n 1, (0, 0, 0, 0, 0), 0, 0), (.aload_n 0, (0, 0, 0, 0, 0), 0, 0), (.aload_n 0, (0, 0, 0, 0, 0), 0, 0), (.getfield 19, (6, 2, 4, 0, 0), 0, 0)] = some 10 ∧ px_dpf cX6_swap 10 15 = true) ∧ (px_bk 6 2 cX6_swap 13 [(.aload_n 0, (0, 0, 0, 0, 0), 0, 0), (.aload_n 1, (0, 0, 0, 0, 0), 0, 0)] = some 15 ∧ px_dpf cX6_swap 15 19 = true) ∧ (px_bk 6 2 cX6_swap 18 [] = some 18 ∧ px_tr cX6_swap 18 .return_ = true) := by decide +kernel
theorem c_swapA {n : Nat} {I : px_I} {L : px_L} {R : px_R} (hg : px_G n (cRA R)) (hg2 : px_G n (cRB R)) : px_K M_X6_swap [.ref 97] n I L (cRA R) (fun r n' I' L' R' => r = none ∧ n' = n ∧ I' = I ∧ L' = L ∧ R' = cRB R) := by
  refine px_of (plainFor_of_name np_RX6) (fun _ _ _ => trivial) rfl ?_
  refine px_pR (ci := 6) (kf := 1) rfl q_X6_swap_0A.1 hg rfl trivial (by decide) (by decide) (by decide) (Or.inr ⟨_, rfl⟩) (by decide) ?_
  have hg3 : px_G n (px_u (cRA R) 97 1 (some 100)) := cR_G (R := cRA R) (fun o k h => by simp only [px_ur]; grind) hg
  refine px_pR (ci := 6) (kf := 2) rfl q_X6_swap_0A.2.1 hg3 rfl trivial (by decide) (by decide) (by decide) (Or.inr ⟨_, rfl⟩) (by decide) ?_
  rw [cRA_sw]
  exact px_rv rfl q_X6_swap_0A.2.2 rfl rfl rfl hg2 rfl trivial ⟨rfl, rfl, rfl, rfl, rfl⟩

theorem q_X6_share_65 : px_bk 6 10 cX6_share 65 [(.iload 8, (0, 0, 0, 0, 0), 0, 0), (.bipush 123, (0, 0, 0, 0, 0), 123, 0)] = some 69 ∧ px_t2 cX6_share 69 .ge 115 = true := by decide +kernel
theorem q_X6_share_115 : px_bk 6 10 cX6_share 115 [(.lload 6, (0, 0, 0, 0, 0), 0, 0), (.lload 4, (0, 0, 0, 0, 0), 0, 0)] = some 119 ∧ px_tS cX6_share 119 51 = true := by decide +kernel
theorem q_X6_share_122 : px_bk 6 10 cX6_share 122 [(.lstore 8, (0, 0, 0, 0, 0), 0, 0), (.lload 8, (0, 0, 0, 0, 0), 0, 0), (.lconst 0, (0, 0, 0, 0, 0), 0, 0), (.lcmp, (0, 0, 0, 0, 0), 0, 0)] = some 128 ∧ px_t1 cX6_share 128 .gt 135 = true := by decide +kernel
theorem q_X6_share_135 : px_bk 6 10 cX6_share 135 [(.iload_n 3, (0, 0, 0, 0, 0), 0, 0)] = some 136 ∧ px_t1 cX6_share 136 .eq 144 = true := by decide +kernel
theorem q_X6_share_144 : px_bk 6 10 cX6_share 144 [(.lload 4, (0, 0, 0, 0, 0), 0, 0), (.lload 8, (0, 0, 0, 0, 0), 0, 0), (.ldiv, (0, 0, 0, 0, 0), 0, 0)] = some 149 ∧ px_tr cX6_share 149 .lreturn = true := by decide +kernel
theorem q_X6_share_139 : px_bk 6 10 cX6_share 139 [(.lload 6, (0, 0, 0, 0, 0), 0, 0), (.goto 5, (0, 0, 0, 0, 0), 0, 0), (.lload 8, (0, 0, 0, 0, 0), 0, 0), (.ldiv, (0, 0, 0, 0, 0), 0, 0)] = some 149 ∧ px_tr cX6_share 149 .lreturn = true := by decide +kernel
theorem q_X6_share_131 : px_bk 6 10 cX6_share 131 [(.ldc2_w 55, (0, 0, 0, 0, 0), 0, -1)] = some 134 ∧ px_tr cX6_share 134 .lreturn = true := by decide +kernel
theorem q_X6_share_72 : px_bk 6 10 cX6_share 72 [(.lload 6, (0, 0, 0, 0, 0), 0, 0), (.aload_n 0, (0, 0, 0, 0, 0), 0, 0), (.getfield 15, (6, 1, 4, 0, 0), 0, 0), (.iload 8, (0, 0, 0, 0, 0), 0, 0), (.laload, (0, 0, 0, 0, 0), 0, 0), (.ladd, (0, 0, 0, 0, 0), 0, 0), (.lstore 6, (0, 0, 0, 0, 0), 0, 0), (.lload 4, (0, 0, 0, 0, 0), 0, 0), (.aload_n 0, (0, 0, 0, 0, 0), 0, 0), (.iload 8, (0, 0, 0, 0, 0), 0, 0)] = some 89 ∧ px_tv cX6_share 89 47 = true := by decide +kernel
theorem q_X6_share_92 : px_bk 6 10 cX6_share 92 [] = some 92 ∧ px_t1 cX6_share 92 .eq 105 = true := by decide +kernel
theorem q_X6_share_105 : px_bk 6 10 cX6_share 105 [(.lconst 0, (0, 0, 0, 0, 0), 0, 0), (.ladd, (0, 0, 0, 0, 0), 0, 0), (.lstore 4, (0, 0, 0, 0, 0), 0, 0), (.iinc 8 1, (0, 0, 0, 0, 0), 1, 0), (.goto (-47), (0, 0, 0, 0, 0), 0, 0)] = some 65 := by decide +kernel
theorem q_X6_share_95 : px_bk 6 10 cX6_share 95 [(.aload_n 0, (0, 0, 0, 0, 0), 0, 0), (.getfield 15, (6, 1, 4, 0, 0), 0, 0), (.iload 8, (0, 0, 0, 0, 0), 0, 0), (.laload, (0, 0, 0, 0, 0), 0, 0), (.goto 4, (0, 0, 0, 0, 0), 0, 0), (.ladd, (0, 0, 0, 0, 0), 0, 0), (.lstore 4, (0, 0, 0, 0, 0), 0, 0), (.iinc 8 1, (0, 0, 0, 0, 0), 1, 0), (.goto (-47), (0, 0, 0, 0, 0), 0, 0)] = some 65 := by decide +kernel
set_option maxRecDepth 100000 in
theorem l_share65A {n : Nat} {R : px_R} (hg : px_G n (cRA R)) (hg2 : px_G n (cRB R)) {Q : px_Q} (a o h : Int32) {I : px_I} {L : px_L} (hq : ∀ r, Q (some (.long r)) n I L (cRA R)) : ∀ i : Int32, i ≤ 123 → 0 ≤ i → ∀ u v : Int64, px M_X6_share 0 0 65 [(0, .ref 97), (1, .int a), (2, .int o), (3, .int h), (4, .long u), (6, .long v), (8, .int i)] [] n I L (cRA R) Q := by
  refine px_up 123 (fun i ih hi => ?_)
  intro h0 u v
  refine px_ige rfl q_X6_share_65 hg rfl trivial (fun c69 => ?_) (fun c69 => ?_)
  · refine px_cSQ rfl q_X6_share_115 hg rfl trivial lk_6_51 nm_X6_commonDivisor (c_cDiv hg _ _) rfl rfl rfl ⟨rfl, rfl⟩ ?_
    intro x119 h119
    refine px_lgt rfl q_X6_share_122 hg rfl trivial (fun c128 => ?_) (fun c128 => ?_)
    · refine px_eq rfl q_X6_share_135 hg rfl trivial (fun c136 => ?_) (fun c136 => ?_)
      · refine px_rl rfl q_X6_share_144 rfl rfl rfl hg rfl ⟨trivial, (by first | (refine ⟨?_, ?_⟩ <;> grind) | exact fun e => by rw [e] at c128; exact absurd c128 (by decide))⟩ ?_
        exact hq _
      · refine px_rl rfl q_X6_share_139 rfl rfl rfl hg rfl ⟨trivial, (by first | (refine ⟨?_, ?_⟩ <;> grind) | exact fun e => by rw [e] at c128; exact absurd c128 (by decide))⟩ ?_
        exact hq _
    · refine px_rl rfl q_X6_share_131 rfl rfl rfl hg rfl trivial ?_
      exact hq _
  · refine px_cVP (ci := 6) rfl q_X6_share_72 hg rfl ⟨trivial, (by first | (refine ⟨?_, ?_⟩ <;> grind) | exact fun e => by rw [e] at c128; exact absurd c128 (by decide))⟩ lk_6_47 nm_X6_misses (c_misses hg _) rfl rfl (px_lit hg rfl) rfl rfl rfl ⟨rfl, rfl⟩ ?_
    intro x89 h89
    refine px_eq rfl q_X6_share_92 hg rfl trivial (fun c92 => ?_) (fun c92 => ?_)
    · replace h89 := px_bf h89 c92
      refine px_b rfl q_X6_share_105 hg rfl trivial ?_
      exact px_go (ih (i + 1) (by grind) (by grind) (by grind) _ _) ⟨rfl, rfl, rfl, rfl, rfl, rfl, rfl, trivial⟩
    · replace h89 := px_bt h89 c92
      refine px_b rfl q_X6_share_95 hg rfl ⟨trivial, (by first | (refine ⟨?_, ?_⟩ <;> grind) | exact fun e => by rw [e] at c128; exact absurd c128 (by decide))⟩ ?_
      exact px_go (ih (i + 1) (by grind) (by grind) (by grind) _ _) ⟨rfl, rfl, rfl, rfl, rfl, rfl, rfl, trivial⟩

theorem q_X6_share_25 : px_bk 6 10 cX6_share 25 [(.iload 5, (0, 0, 0, 0, 0), 0, 0), (.bipush 122, (0, 0, 0, 0, 0), 122, 0)] = some 29 ∧ px_t2 cX6_share 29 .ge 46 = true := by decide +kernel
theorem q_X6_share_46 : px_bk 6 10 cX6_share 46 [(.aload_n 0, (0, 0, 0, 0, 0), 0, 0)] = some 47 ∧ px_tv cX6_share 47 44 = true := by decide +kernel
theorem q_X6_share_50 : px_bk 6 10 cX6_share 50 [(.iinc 4 (-1), (0, 0, 0, 0, 0), -1, 0), (.goto (-41), (0, 0, 0, 0, 0), 0, 0)] = some 12 := by decide +kernel
theorem q_X6_share_32 : px_bk 6 10 cX6_share 32 [(.aload_n 0, (0, 0, 0, 0, 0), 0, 0), (.iload 5, (0, 0, 0, 0, 0), 0, 0), (.iload 4, (0, 0, 0, 0, 0), 0, 0)] = some 37 ∧ px_tv cX6_share 37 40 = true := by decide +kernel
theorem q_X6_share_40 : px_bk 6 10 cX6_share 40 [(.iinc 5 1, (0, 0, 0, 0, 0), 1, 0), (.goto (-18), (0, 0, 0, 0, 0), 0, 0)] = some 25 := by decide +kernel
set_option maxRecDepth 100000 in
theorem l_share25A {n : Nat} {R : px_R} (hg : px_G n (cRA R)) (hg2 : px_G n (cRB R)) {Q : px_Q} (a o h left : Int32) {I : px_I} (L : px_L) (kk : ∀ L2, cSL L L2 → px M_X6_share 0 0 12 [(0, .ref 97), (1, .int a), (2, .int o), (3, .int h), (4, .int (left + -1))] [] n I L2 (cRB R) Q) : ∀ i : Int32, i ≤ 122 → 1 ≤ i → ∀ L1, cSL L L1 → px M_X6_share 0 0 25 [(0, .ref 97), (1, .int a), (2, .int o), (3, .int h), (4, .int left), (5, .int i)] [] n I L1 (cRA R) Q := by
  refine px_up 122 (fun i ih hi => ?_)
  intro h0 L1 h1
  refine px_ige rfl q_X6_share_25 hg rfl trivial (fun c29 => ?_) (fun c29 => ?_)
  · refine px_cVG (ci := 6) rfl q_X6_share_46 hg rfl trivial lk_6_44 nm_X6_swap (c_swapA hg hg2) rfl rfl (px_lit hg rfl) rfl rfl rfl ?_
    intro r47 n47 I47 L47 R47 h47
    obtain ⟨rfl, rfl, rfl, rfl, rfl⟩ := h47
    have hg := hg2
    refine px_b rfl q_X6_share_50 hg rfl trivial ?_
    exact px_go (kk _ h1) ⟨rfl, rfl, rfl, rfl, rfl, trivial⟩
  · refine px_cVW (ci := 6) rfl q_X6_share_32 hg rfl trivial lk_6_40 nm_X6_spread (c_spreadA hg hg2 _ _ (by grind)) rfl rfl (px_lit hg rfl) rfl rfl rfl ⟨rfl, rfl⟩ ?_
    intro I37 L37 h37
    obtain ⟨rfl, h9⟩ := h37
    refine px_b rfl q_X6_share_40 hg rfl trivial ?_
    exact px_go (ih (i + 1) (by grind) (by grind) (by grind) _ (h1.trans h9)) ⟨rfl, rfl, rfl, rfl, rfl, rfl, trivial⟩

theorem q_X6_share_12 : px_bk 6 10 cX6_share 12 [(.iload 4, (0, 0, 0, 0, 0), 0, 0)] = some 14 ∧ px_t1 cX6_share 14 .lt 56 = true := by decide +kernel
theorem q_X6_share_56 : px_bk 6 10 cX6_share 56 [(.lconst 0, (0, 0, 0, 0, 0), 0, 0), (.lstore 4, (0, 0, 0, 0, 0), 0, 0), (.lconst 0, (0, 0, 0, 0, 0), 0, 0), (.lstore 6, (0, 0, 0, 0, 0), 0, 0), (.iconst 0, (0, 0, 0, 0, 0), 0, 0), (.istore 8, (0, 0, 0, 0, 0), 0, 0)] = some 65 := by decide +kernel
theorem q_X6_share_17 : px_bk 6 10 cX6_share 17 [(.aload_n 0, (0, 0, 0, 0, 0), 0, 0), (.lconst 0, (0, 0, 0, 0, 0), 0, 0)] = some 19 ∧ px_tv cX6_share 19 36 = true := by decide +kernel
theorem q_X6_share_22 : px_bk 6 10 cX6_share 22 [(.iconst 1, (0, 0, 0, 0, 0), 1, 0), (.istore 5, (0, 0, 0, 0, 0), 0, 0)] = some 25 := by decide +kernel
set_option maxRecDepth 100000 in
theorem l_share12A {n : Nat} {R : px_R} (hg : px_G n (cRA R)) (hg2 : px_G n (cRB R)) {Q : px_Q} (a o h left : Int32) {I : px_I} (L : px_L) (hq : ∀ r L2, cSL L L2 → Q (some (.long r)) n I L2 (cRA R)) (kk : -1 < left → ∀ L2, cSL L L2 → px M_X6_share 0 0 12 [(0, .ref 97), (1, .int a), (2, .int o), (3, .int h), (4, .int (left + -1))] [] n I L2 (cRB R) Q) : px M_X6_share 0 0 12 [(0, .ref 97), (1, .int a), (2, .int o), (3, .int h), (4, .int left)] [] n I L (cRA R) Q := by
  skip
  refine px_lt rfl q_X6_share_12 hg rfl trivial (fun c14 => ?_) (fun c14 => ?_)
  · refine px_b rfl q_X6_share_56 hg rfl trivial ?_
    exact px_go (l_share65A hg hg2 a o h (fun r => hq r L cSL.rfl') 0 (by decide) (by decide) 0 0) ⟨rfl, rfl, rfl, rfl, rfl, rfl, rfl, trivial⟩
  · refine px_cVW (ci := 6) rfl q_X6_share_17 hg rfl trivial lk_6_36 nm_X6_clearNext (c_clearNextA hg hg2 _) rfl rfl (px_lit hg rfl) rfl rfl rfl ⟨rfl, rfl⟩ ?_
    intro I19 L19 h19
    obtain ⟨rfl, h9⟩ := h19
    refine px_b rfl q_X6_share_22 hg rfl trivial ?_
    exact px_go (l_share25A hg hg2 a o h left _ (fun L2 h2 => kk (by grind) L2 (h9.trans h2)) 1 (by decide) (by decide) _ cSL.rfl') ⟨rfl, rfl, rfl, rfl, rfl, rfl, trivial⟩

theorem q_X6_roundabout_69 : px_bk 6 7 cX6_roundabout 69 [(.iload 6, (0, 0, 0, 0, 0), 0, 0), (.bipush 123, (0, 0, 0, 0, 0), 123, 0)] = some 73 ∧ px_t2 cX6_roundabout 73 .ge 106 = true := by decide +kernel
theorem q_X6_roundabout_106 : px_bk 6 7 cX6_roundabout 106 [(.lload 4, (0, 0, 0, 0, 0), 0, 0), (.l2i, (0, 0, 0, 0, 0), 0, 0)] = some 109 ∧ px_tr cX6_roundabout 109 .ireturn = true := by decide +kernel
theorem q_X6_roundabout_76 : px_bk 6 7 cX6_roundabout 76 [(.aload_n 0, (0, 0, 0, 0, 0), 0, 0), (.iload 6, (0, 0, 0, 0, 0), 0, 0)] = some 79 ∧ px_tv cX6_roundabout 79 47 = true := by decide +kernel
theorem q_X6_roundabout_82 : px_bk 6 7 cX6_roundabout 82 [] = some 82 ∧ px_t1 cX6_roundabout 82 .ne 100 = true := by decide +kernel
theorem q_X6_roundabout_100 : px_bk 6 7 cX6_roundabout 100 [(.iinc 6 1, (0, 0, 0, 0, 0), 1, 0), (.goto (-34), (0, 0, 0, 0, 0), 0, 0)] = some 69 := by decide +kernel
theorem q_X6_roundabout_85 : px_bk 6 7 cX6_roundabout 85 [(.lload 4, (0, 0, 0, 0, 0), 0, 0), (.aload_n 0, (0, 0, 0, 0, 0), 0, 0), (.getfield 15, (6, 1, 4, 0, 0), 0, 0), (.iload 6, (0, 0, 0, 0, 0), 0, 0), (.laload, (0, 0, 0, 0, 0), 0, 0), (.iload_n 3, (0, 0, 0, 0, 0), 0, 0)] = some 95 ∧ px_tS cX6_roundabout 95 61 = true := by decide +kernel
theorem q_X6_roundabout_98 : px_bk 6 7 cX6_roundabout 98 [(.lstore 4, (0, 0, 0, 0, 0), 0, 0), (.iinc 6 1, (0, 0, 0, 0, 0), 1, 0), (.goto (-34), (0, 0, 0, 0, 0), 0, 0)] = some 69 := by decide +kernel
set_option maxRecDepth 100000 in
theorem l_round69A {n : Nat} {R : px_R} (hg : px_G n (cRA R)) (hg2 : px_G n (cRB R)) {Q : px_Q} (a o h : Int32) {I : px_I} {L : px_L} (hq : ∀ r, Q (some (.int r)) n I L (cRA R)) : ∀ i : Int32, i ≤ 123 → 0 ≤ i → ∀ u : Int64, px M_X6_roundabout 0 0 69 [(0, .ref 97), (1, .int a), (2, .int o), (3, .int h), (4, .long u), (6, .int i)] [] n I L (cRA R) Q := by
  refine px_up 123 (fun i ih hi => ?_)
  intro h0 u
  refine px_ige rfl q_X6_roundabout_69 hg rfl trivial (fun c73 => ?_) (fun c73 => ?_)
  · refine px_ri rfl q_X6_roundabout_106 rfl rfl rfl hg rfl trivial ?_
    exact hq _
  · refine px_cVP (ci := 6) rfl q_X6_roundabout_76 hg rfl trivial lk_6_47 nm_X6_misses (c_misses hg _) rfl rfl (px_lit hg rfl) rfl rfl rfl ⟨rfl, rfl⟩ ?_
    intro x79 h79
    refine px_ne rfl q_X6_roundabout_82 hg rfl trivial (fun c82 => ?_) (fun c82 => ?_)
    · replace h79 := px_bt h79 c82
      refine px_b rfl q_X6_roundabout_100 hg rfl trivial ?_
      exact px_go (ih (i + 1) (by grind) (by grind) (by grind) _) ⟨rfl, rfl, rfl, rfl, rfl, rfl, trivial⟩
    · replace h79 := px_bf h79 c82
      refine px_cSQ rfl q_X6_roundabout_85 hg rfl ⟨trivial, (by first | decide | (refine ⟨?_, ?_⟩ <;> grind) | grind)⟩ lk_6_61 nm_X6_better (c_better hg _ _ _) rfl rfl rfl ⟨rfl, rfl⟩ ?_
      intro x95 h95
      refine px_b rfl q_X6_roundabout_98 hg rfl trivial ?_
      exact px_go (ih (i + 1) (by grind) (by grind) (by grind) _) ⟨rfl, rfl, rfl, rfl, rfl, rfl, trivial⟩

theorem q_X6_roundabout_29 : px_bk 6 7 cX6_roundabout 29 [(.iload 5, (0, 0, 0, 0, 0), 0, 0), (.bipush 122, (0, 0, 0, 0, 0), 122, 0)] = some 33 ∧ px_t2 cX6_roundabout 33 .ge 51 = true := by decide +kernel
theorem q_X6_roundabout_51 : px_bk 6 7 cX6_roundabout 51 [(.aload_n 0, (0, 0, 0, 0, 0), 0, 0)] = some 52 ∧ px_tv cX6_roundabout 52 44 = true := by decide +kernel
theorem q_X6_roundabout_55 : px_bk 6 7 cX6_roundabout 55 [(.iinc 4 (-1), (0, 0, 0, 0, 0), -1, 0), (.goto (-44), (0, 0, 0, 0, 0), 0, 0)] = some 14 := by decide +kernel
theorem q_X6_roundabout_36 : px_bk 6 7 cX6_roundabout 36 [(.aload_n 0, (0, 0, 0, 0, 0), 0, 0), (.iload 5, (0, 0, 0, 0, 0), 0, 0), (.iload 4, (0, 0, 0, 0, 0), 0, 0), (.iload_n 3, (0, 0, 0, 0, 0), 0, 0)] = some 42 ∧ px_tv cX6_roundabout 42 57 = true := by decide +kernel
theorem q_X6_roundabout_45 : px_bk 6 7 cX6_roundabout 45 [(.iinc 5 1, (0, 0, 0, 0, 0), 1, 0), (.goto (-19), (0, 0, 0, 0, 0), 0, 0)] = some 29 := by decide +kernel
set_option maxRecDepth 100000 in
theorem l_round29A {n : Nat} {R : px_R} (hg : px_G n (cRA R)) (hg2 : px_G n (cRB R)) {Q : px_Q} (a o h left : Int32) {I : px_I} (L : px_L) (kk : ∀ L2, cSL L L2 → px M_X6_roundabout 0 0 14 [(0, .ref 97), (1, .int a), (2, .int o), (3, .int h), (4, .int (left + -1))] [] n I L2 (cRB R) Q) : ∀ i : Int32, i ≤ 122 → 1 ≤ i → ∀ L1, cSL L L1 → px M_X6_roundabout 0 0 29 [(0, .ref 97), (1, .int a), (2, .int o), (3, .int h), (4, .int left), (5, .int i)] [] n I L1 (cRA R) Q := by
  refine px_up 122 (fun i ih hi => ?_)
  intro h0 L1 h1
  refine px_ige rfl q_X6_roundabout_29 hg rfl trivial (fun c33 => ?_) (fun c33 => ?_)
  · refine px_cVG (ci := 6) rfl q_X6_roundabout_51 hg rfl trivial lk_6_44 nm_X6_swap (c_swapA hg hg2) rfl rfl (px_lit hg rfl) rfl rfl rfl ?_
    intro r52 n52 I52 L52 R52 h52
    obtain ⟨rfl, rfl, rfl, rfl, rfl⟩ := h52
    have hg := hg2
    refine px_b rfl q_X6_roundabout_55 hg rfl trivial ?_
    exact px_go (kk _ h1) ⟨rfl, rfl, rfl, rfl, rfl, trivial⟩
  · refine px_cVW (ci := 6) rfl q_X6_roundabout_36 hg rfl trivial lk_6_57 nm_X6_prolong (c_prolongA hg hg2 _ _ _ (by grind)) rfl rfl (px_lit hg rfl) rfl rfl rfl ⟨rfl, rfl⟩ ?_
    intro I42 L42 h42
    obtain ⟨rfl, h9⟩ := h42
    refine px_b rfl q_X6_roundabout_45 hg rfl trivial ?_
    exact px_go (ih (i + 1) (by grind) (by grind) (by grind) _ (h1.trans h9)) ⟨rfl, rfl, rfl, rfl, rfl, rfl, trivial⟩

theorem q_X6_roundabout_14 : px_bk 6 7 cX6_roundabout 14 [(.iload 4, (0, 0, 0, 0, 0), 0, 0)] = some 16 ∧ px_t1 cX6_roundabout 16 .lt 61 = true := by decide +kernel
theorem q_X6_roundabout_61 : px_bk 6 7 cX6_roundabout 61 [(.ldc2_w 55, (0, 0, 0, 0, 0), 0, -1), (.lstore 4, (0, 0, 0, 0, 0), 0, 0), (.iconst 0, (0, 0, 0, 0, 0), 0, 0), (.istore 6, (0, 0, 0, 0, 0), 0, 0)] = some 69 := by decide +kernel
theorem q_X6_roundabout_19 : px_bk 6 7 cX6_roundabout 19 [(.aload_n 0, (0, 0, 0, 0, 0), 0, 0), (.ldc2_w 55, (0, 0, 0, 0, 0), 0, -1)] = some 23 ∧ px_tv cX6_roundabout 23 36 = true := by decide +kernel
theorem q_X6_roundabout_26 : px_bk 6 7 cX6_roundabout 26 [(.iconst 1, (0, 0, 0, 0, 0), 1, 0), (.istore 5, (0, 0, 0, 0, 0), 0, 0)] = some 29 := by decide +kernel
set_option maxRecDepth 100000 in
theorem l_round14A {n : Nat} {R : px_R} (hg : px_G n (cRA R)) (hg2 : px_G n (cRB R)) {Q : px_Q} (a o h left : Int32) {I : px_I} (L : px_L) (hq : ∀ r L2, cSL L L2 → Q (some (.int r)) n I L2 (cRA R)) (kk : -1 < left → ∀ L2, cSL L L2 → px M_X6_roundabout 0 0 14 [(0, .ref 97), (1, .int a), (2, .int o), (3, .int h), (4, .int (left + -1))] [] n I L2 (cRB R) Q) : px M_X6_roundabout 0 0 14 [(0, .ref 97), (1, .int a), (2, .int o), (3, .int h), (4, .int left)] [] n I L (cRA R) Q := by
  skip
  refine px_lt rfl q_X6_roundabout_14 hg rfl trivial (fun c16 => ?_) (fun c16 => ?_)
  · refine px_b rfl q_X6_roundabout_61 hg rfl trivial ?_
    exact px_go (l_round69A hg hg2 a o h (fun r => hq r L cSL.rfl') 0 (by decide) (by decide) _) ⟨rfl, rfl, rfl, rfl, rfl, rfl, trivial⟩
  · refine px_cVW (ci := 6) rfl q_X6_roundabout_19 hg rfl trivial lk_6_36 nm_X6_clearNext (c_clearNextA hg hg2 _) rfl rfl (px_lit hg rfl) rfl rfl rfl ⟨rfl, rfl⟩ ?_
    intro I23 L23 h23
    obtain ⟨rfl, h9⟩ := h23
    refine px_b rfl q_X6_roundabout_26 hg rfl trivial ?_
    exact px_go (l_round29A hg hg2 a o h left _ (fun L2 h2 => kk (by grind) L2 (h9.trans h2)) 1 (by decide) (by decide) _ cSL.rfl') ⟨rfl, rfl, rfl, rfl, rfl, rfl, trivial⟩

set_option maxRecDepth 100000 in
theorem l_startAtB {n : Nat} {R : px_R} (hg : px_G n (cRB R)) (hg2 : px_G n (cRA R)) {Q : px_Q} (o : Int32) (e h : Int64) {I : px_I} (L : px_L) (hq : ∀ L2, cSL L L2 → Q none n I L2 (cRB R)) : ∀ i : Int32, i ≤ 123 → 0 ≤ i → ∀ L1, cSL L L1 → px M_X6_startAt 0 0 3 [(0, .ref 97), (1, .int o), (2, .long e), (4, .long h), (6, .int i)] [] n I L1 (cRB R) Q := by
  refine px_up 123 (fun i ih hi => ?_)
  intro h0 L1 h1
  refine px_ige rfl q_X6_startAt_3 hg rfl trivial (fun c7 => ?_) (fun c7 => ?_)
  · refine px_rv rfl q_X6_startAt_38 rfl rfl rfl hg rfl trivial ?_
    exact hq _ h1
  · refine px_ine rfl q_X6_startAt_10 hg rfl trivial (fun c22 => ?_) (fun c22 => ?_)
    · refine px_b rfl q_X6_startAt_30 hg rfl ⟨trivial, (by first | decide | (refine ⟨?_, ?_⟩ <;> grind) | grind)⟩ ?_
      exact px_go (ih (i + 1) (by grind) (by grind) (by grind) _ (by repeat (first | exact h1 | refine cSL.u9 ?_ _ _ | refine cSL.u0 ?_ _ _))) ⟨rfl, rfl, rfl, rfl, rfl, trivial⟩
    · refine px_b rfl q_X6_startAt_25 hg rfl ⟨trivial, (by first | decide | (refine ⟨?_, ?_⟩ <;> grind) | grind)⟩ ?_
      exact px_go (ih (i + 1) (by grind) (by grind) (by grind) _ (by repeat (first | exact h1 | refine cSL.u9 ?_ _ _ | refine cSL.u0 ?_ _ _))) ⟨rfl, rfl, rfl, rfl, rfl, trivial⟩

set_option maxRecDepth 100000 in
theorem c_startAtB {n : Nat} {I : px_I} {L : px_L} {R : px_R} (hg : px_G n (cRB R)) (hg2 : px_G n (cRA R)) (o : Int32) (e h : Int64) : px_KV M_X6_startAt [.ref 97, .int o, .long e, .long h] n I L (cRB R) (fun I2 L2 => I2 = I ∧ cSL L L2) := by
  refine px_of (plainFor_of_name np_RX6) (fun _ _ _ => trivial) rfl ?_
  refine px_b rfl q_X6_startAt_0 hg rfl trivial ?_
  exact px_go (l_startAtB hg hg2 o e h L (fun L2 h => ⟨rfl, rfl, rfl, rfl, h⟩) 0 (by decide) (by decide) L cSL.rfl') ⟨rfl, rfl, rfl, rfl, rfl, trivial⟩

set_option maxRecDepth 100000 in
theorem l_clearNextB {n : Nat} {R : px_R} (hg : px_G n (cRB R)) (hg2 : px_G n (cRA R)) {Q : px_Q} (v : Int64) {I : px_I} (L : px_L) (hq : ∀ L2, cSL L L2 → Q none n I L2 (cRB R)) : ∀ i : Int32, i ≤ 123 → 0 ≤ i → ∀ L1, cSL L L1 → px M_X6_clearNext 0 0 2 [(0, .ref 97), (1, .long v), (3, .int i)] [] n I L1 (cRB R) Q := by
  refine px_up 123 (fun i ih hi => ?_)
  intro h0 L1 h1
  refine px_ige rfl q_X6_clearNext_2 hg rfl trivial (fun c5 => ?_) (fun c5 => ?_)
  · refine px_rv rfl q_X6_clearNext_21 rfl rfl rfl hg rfl trivial ?_
    exact hq _ h1
  · refine px_b rfl q_X6_clearNext_8 hg rfl ⟨trivial, (by first | decide | (refine ⟨?_, ?_⟩ <;> grind) | grind)⟩ ?_
    exact px_go (ih (i + 1) (by grind) (by grind) (by grind) _ (by repeat (first | exact h1 | refine cSL.u9 ?_ _ _ | refine cSL.u0 ?_ _ _))) ⟨rfl, rfl, rfl, trivial⟩

set_option maxRecDepth 100000 in
theorem c_clearNextB {n : Nat} {I : px_I} {L : px_L} {R : px_R} (hg : px_G n (cRB R)) (hg2 : px_G n (cRA R)) (v : Int64) : px_KV M_X6_clearNext [.ref 97, .long v] n I L (cRB R) (fun I2 L2 => I2 = I ∧ cSL L L2) := by
  refine px_of (plainFor_of_name np_RX6) (fun _ _ _ => trivial) rfl ?_
  refine px_b rfl q_X6_clearNext_0 hg rfl trivial ?_
  exact px_go (l_clearNextB hg hg2 v L (fun L2 h => ⟨rfl, rfl, rfl, rfl, h⟩) 0 (by decide) (by decide) L cSL.rfl') ⟨rfl, rfl, rfl, trivial⟩

set_option maxRecDepth 100000 in
theorem l_spreadB {n : Nat} {R : px_R} (hg : px_G n (cRB R)) (hg2 : px_G n (cRA R)) {Q : px_Q} (p q : Int32) (hp : 0 ≤ p ∧ p < 123) {I : px_I} (L : px_L) (hq : ∀ L2, cSL L L2 → Q none n I L2 (cRB R)) : ∀ i : Int32, i ≤ 3 → 0 ≤ i → ∀ L1, cSL L L1 → px M_X6_spread 0 0 14 [(0, .ref 97), (1, .int p), (2, .int q), (3, .int i)] [] n I L1 (cRB R) Q := by
  refine px_up 3 (fun i ih hi => ?_)
  intro h0 L1 h1
  refine px_ige rfl q_X6_spread_14 hg rfl trivial (fun c16 => ?_) (fun c16 => ?_)
  · refine px_rv rfl q_X6_spread_61 rfl rfl rfl hg rfl trivial ?_
    exact hq _ h1
  · refine px_cVP (ci := 6) rfl q_X6_spread_19 hg rfl trivial lk_6_65 nm_X6_pulled (c_pulled hg _ _) rfl rfl (px_lit hg rfl) rfl rfl rfl ⟨rfl, rfl⟩ ?_
    intro x26 h26
    have z26 : 0 ≤ x26 ∧ x26 < 123 := by have z9 := cMx_in (x := 61 + cPull I (p + i - 1) q); rw [← h26] at z9; exact ⟨z9.1, by grind⟩
    refine px_b rfl q_X6_spread_29 hg rfl ⟨⟨⟨⟨trivial, (by first | with_reducible assumption | (refine ⟨?_, ?_⟩ <;> grind))⟩, (by first | with_reducible assumption | (refine ⟨?_, ?_⟩ <;> grind))⟩, (by first | with_reducible assumption | (refine ⟨?_, ?_⟩ <;> grind))⟩, (by first | with_reducible assumption | (refine ⟨?_, ?_⟩ <;> grind))⟩ ?_
    exact px_go (ih (i + 1) (by grind) (by grind) (by grind) _ (by repeat (first | exact h1 | refine cSL.u9 ?_ _ _ | refine cSL.u0 ?_ _ _))) ⟨rfl, rfl, rfl, rfl, trivial⟩

set_option maxRecDepth 100000 in
theorem c_spreadB {n : Nat} {I : px_I} {L : px_L} {R : px_R} (hg : px_G n (cRB R)) (hg2 : px_G n (cRA R)) (p q : Int32) (hp : 0 ≤ p ∧ p < 123) : px_KV M_X6_spread [.ref 97, .int p, .int q] n I L (cRB R) (fun I2 L2 => I2 = I ∧ cSL L L2) := by
  refine px_of (plainFor_of_name np_RX6) (fun _ _ _ => trivial) rfl ?_
  refine px_lne rfl q_X6_spread_0 hg rfl ⟨trivial, (by with_reducible assumption)⟩ (fun c8 => ?_) (fun c8 => ?_)
  · refine px_b rfl q_X6_spread_12 hg rfl trivial ?_
    exact px_go (l_spreadB hg hg2 p q hp L (fun L2 h => ⟨rfl, rfl, rfl, rfl, h⟩) 0 (by decide) (by decide) L cSL.rfl') ⟨rfl, rfl, rfl, rfl, trivial⟩
  · refine px_rvW rfl q_X6_spread_11 rfl rfl rfl hg rfl trivial ⟨⟨rfl, rfl⟩, ?_⟩
    exact ⟨rfl, cSL.rfl'⟩

set_option maxRecDepth 100000 in
theorem l_prolongB {n : Nat} {R : px_R} (hg : px_G n (cRB R)) (hg2 : px_G n (cRA R)) {Q : px_Q} (p q h : Int32) (hp : 0 ≤ p ∧ p < 123) {I : px_I} (L : px_L) (hq : ∀ L2, cSL L L2 → Q none n I L2 (cRB R)) : ∀ i : Int32, i ≤ 3 → 0 ≤ i → ∀ L1, cSL L L1 → px M_X6_prolong 0 0 17 [(0, .ref 97), (1, .int p), (2, .int q), (3, .int h), (4, .int i)] [] n I L1 (cRB R) Q := by
  refine px_up 3 (fun i ih hi => ?_)
  intro h0 L1 h1
  refine px_ige rfl q_X6_prolong_17 hg rfl trivial (fun c20 => ?_) (fun c20 => ?_)
  · refine px_rv rfl q_X6_prolong_90 rfl rfl rfl hg rfl trivial ?_
    exact hq _ h1
  · refine px_le rfl q_X6_prolong_23 hg rfl ⟨trivial, (by first | with_reducible assumption | (refine ⟨?_, ?_⟩ <;> grind))⟩ (fun c30 => ?_) (fun c30 => ?_)
    · refine px_b rfl q_X6_prolong_84 hg rfl trivial ?_
      exact px_go (ih (i + 1) (by grind) (by grind) (by grind) _ (by repeat (first | exact h1 | refine cSL.u9 ?_ _ _ | refine cSL.u0 ?_ _ _))) ⟨rfl, rfl, rfl, rfl, rfl, trivial⟩
    · refine px_cVP (ci := 6) rfl q_X6_prolong_33 hg rfl trivial lk_6_65 nm_X6_pulled (c_pulled hg _ _) rfl rfl (px_lit hg rfl) rfl rfl rfl ⟨rfl, rfl⟩ ?_
      intro x41 h41
      have z41 : 0 ≤ x41 ∧ x41 < 123 := by have z9 := cMx_in (x := 61 + cPull I (p + i - 1) q); rw [← h41] at z9; exact ⟨z9.1, by grind⟩
      refine px_cSP rfl q_X6_prolong_44 hg rfl ⟨trivial, (by first | with_reducible assumption | (refine ⟨?_, ?_⟩ <;> grind))⟩ lk_6_69 nm_J9_abs_0f7a4 (j_abs hg _) rfl rfl rfl ⟨rfl, rfl⟩ ?_
      intro x57 h57
      refine px_cSQ rfl q_X6_prolong_60 hg rfl ⟨trivial, (by first | with_reducible assumption | (refine ⟨?_, ?_⟩ <;> grind))⟩ lk_6_61 nm_X6_better (c_better hg _ _ _) rfl rfl rfl ⟨rfl, rfl⟩ ?_
      intro x80 h80
      refine px_b rfl q_X6_prolong_83 hg rfl ⟨trivial, (by first | with_reducible assumption | (refine ⟨?_, ?_⟩ <;> grind))⟩ ?_
      exact px_go (ih (i + 1) (by grind) (by grind) (by grind) _ (by repeat (first | exact h1 | refine cSL.u9 ?_ _ _ | refine cSL.u0 ?_ _ _))) ⟨rfl, rfl, rfl, rfl, rfl, trivial⟩

set_option maxRecDepth 100000 in
theorem c_prolongB {n : Nat} {I : px_I} {L : px_L} {R : px_R} (hg : px_G n (cRB R)) (hg2 : px_G n (cRA R)) (p q h : Int32) (hp : 0 ≤ p ∧ p < 123) : px_KV M_X6_prolong [.ref 97, .int p, .int q, .int h] n I L (cRB R) (fun I2 L2 => I2 = I ∧ cSL L L2) := by
  refine px_of (plainFor_of_name np_RX6) (fun _ _ _ => trivial) rfl ?_
  refine px_lne rfl q_X6_prolong_0 hg rfl ⟨trivial, (by with_reducible assumption)⟩ (fun c10 => ?_) (fun c10 => ?_)
  · refine px_b rfl q_X6_prolong_14 hg rfl trivial ?_
    exact px_go (l_prolongB hg hg2 p q h hp L (fun L2 h => ⟨rfl, rfl, rfl, rfl, h⟩) 0 (by decide) (by decide) L cSL.rfl') ⟨rfl, rfl, rfl, rfl, rfl, trivial⟩
  · refine px_rvW rfl q_X6_prolong_13 rfl rfl rfl hg rfl trivial ⟨⟨rfl, rfl⟩, ?_⟩
    exact ⟨rfl, cSL.rfl'⟩

theorem q_X6_swap_0B : (px_bk 6 2 cX6_swap 0 [(.aload_n 0, (0, 0, 0, 0, 0), 0, 0), (.getfield 15, (6, 1, 4, 0, 0), 0, 0), (.astore_n 1, (0, 0, 0, 0, 0), 0, 0), (.aload_n 0, (0, 0, 0, 0, 0), 0, 0), (.aload_n 0, (0, 0, 0, 0, 0), 0, 0), (.getfield 19, (6, 2, 4, 0, 0), 0, 0)] = some 10 ∧ px_dpf cX6_swap 10 15 = true) ∧ (px_bk 6 2 cX6_swap 13 [(.aload_n 0, (0, 0, 0, 0, 0), 0, 0), (.aload_n 1, (0, 0, 0, 0, 0), 0, 0)] = some 15 ∧ px_dpf cX6_swap 15 19 = true) ∧ (px_bk 6 2 cX6_swap 18 [] = some 18 ∧ px_tr cX6_swap 18 .return_ = true) := by decide +kernel
theorem c_swapB {n : Nat} {I : px_I} {L : px_L} {R : px_R} (hg : px_G n (cRB R)) (hg2 : px_G n (cRA R)) : px_K M_X6_swap [.ref 97] n I L (cRB R) (fun r n' I' L' R' => r = none ∧ n' = n ∧ I' = I ∧ L' = L ∧ R' = cRA R) := by
  refine px_of (plainFor_of_name np_RX6) (fun _ _ _ => trivial) rfl ?_
  refine px_pR (ci := 6) (kf := 1) rfl q_X6_swap_0B.1 hg rfl trivial (by decide) (by decide) (by decide) (Or.inr ⟨_, rfl⟩) (by decide) ?_
  have hg3 : px_G n (px_u (cRB R) 97 1 (some 99)) := cR_G (R := cRB R) (fun o k h => by simp only [px_ur]; grind) hg
  refine px_pR (ci := 6) (kf := 2) rfl q_X6_swap_0B.2.1 hg3 rfl trivial (by decide) (by decide) (by decide) (Or.inr ⟨_, rfl⟩) (by decide) ?_
  rw [cRB_sw]
  exact px_rv rfl q_X6_swap_0B.2.2 rfl rfl rfl hg2 rfl trivial ⟨rfl, rfl, rfl, rfl, rfl⟩

set_option maxRecDepth 100000 in
theorem l_share65B {n : Nat} {R : px_R} (hg : px_G n (cRB R)) (hg2 : px_G n (cRA R)) {Q : px_Q} (a o h : Int32) {I : px_I} {L : px_L} (hq : ∀ r, Q (some (.long r)) n I L (cRB R)) : ∀ i : Int32, i ≤ 123 → 0 ≤ i → ∀ u v : Int64, px M_X6_share 0 0 65 [(0, .ref 97), (1, .int a), (2, .int o), (3, .int h), (4, .long u), (6, .long v), (8, .int i)] [] n I L (cRB R) Q := by
  refine px_up 123 (fun i ih hi => ?_)
  intro h0 u v
  refine px_ige rfl q_X6_share_65 hg rfl trivial (fun c69 => ?_) (fun c69 => ?_)
  · refine px_cSQ rfl q_X6_share_115 hg rfl trivial lk_6_51 nm_X6_commonDivisor (c_cDiv hg _ _) rfl rfl rfl ⟨rfl, rfl⟩ ?_
    intro x119 h119
    refine px_lgt rfl q_X6_share_122 hg rfl trivial (fun c128 => ?_) (fun c128 => ?_)
    · refine px_eq rfl q_X6_share_135 hg rfl trivial (fun c136 => ?_) (fun c136 => ?_)
      · refine px_rl rfl q_X6_share_144 rfl rfl rfl hg rfl ⟨trivial, (by first | (refine ⟨?_, ?_⟩ <;> grind) | exact fun e => by rw [e] at c128; exact absurd c128 (by decide))⟩ ?_
        exact hq _
      · refine px_rl rfl q_X6_share_139 rfl rfl rfl hg rfl ⟨trivial, (by first | (refine ⟨?_, ?_⟩ <;> grind) | exact fun e => by rw [e] at c128; exact absurd c128 (by decide))⟩ ?_
        exact hq _
    · refine px_rl rfl q_X6_share_131 rfl rfl rfl hg rfl trivial ?_
      exact hq _
  · refine px_cVP (ci := 6) rfl q_X6_share_72 hg rfl ⟨trivial, (by first | (refine ⟨?_, ?_⟩ <;> grind) | exact fun e => by rw [e] at c128; exact absurd c128 (by decide))⟩ lk_6_47 nm_X6_misses (c_misses hg _) rfl rfl (px_lit hg rfl) rfl rfl rfl ⟨rfl, rfl⟩ ?_
    intro x89 h89
    refine px_eq rfl q_X6_share_92 hg rfl trivial (fun c92 => ?_) (fun c92 => ?_)
    · replace h89 := px_bf h89 c92
      refine px_b rfl q_X6_share_105 hg rfl trivial ?_
      exact px_go (ih (i + 1) (by grind) (by grind) (by grind) _ _) ⟨rfl, rfl, rfl, rfl, rfl, rfl, rfl, trivial⟩
    · replace h89 := px_bt h89 c92
      refine px_b rfl q_X6_share_95 hg rfl ⟨trivial, (by first | (refine ⟨?_, ?_⟩ <;> grind) | exact fun e => by rw [e] at c128; exact absurd c128 (by decide))⟩ ?_
      exact px_go (ih (i + 1) (by grind) (by grind) (by grind) _ _) ⟨rfl, rfl, rfl, rfl, rfl, rfl, rfl, trivial⟩

set_option maxRecDepth 100000 in
theorem l_share25B {n : Nat} {R : px_R} (hg : px_G n (cRB R)) (hg2 : px_G n (cRA R)) {Q : px_Q} (a o h left : Int32) {I : px_I} (L : px_L) (kk : ∀ L2, cSL L L2 → px M_X6_share 0 0 12 [(0, .ref 97), (1, .int a), (2, .int o), (3, .int h), (4, .int (left + -1))] [] n I L2 (cRA R) Q) : ∀ i : Int32, i ≤ 122 → 1 ≤ i → ∀ L1, cSL L L1 → px M_X6_share 0 0 25 [(0, .ref 97), (1, .int a), (2, .int o), (3, .int h), (4, .int left), (5, .int i)] [] n I L1 (cRB R) Q := by
  refine px_up 122 (fun i ih hi => ?_)
  intro h0 L1 h1
  refine px_ige rfl q_X6_share_25 hg rfl trivial (fun c29 => ?_) (fun c29 => ?_)
  · refine px_cVG (ci := 6) rfl q_X6_share_46 hg rfl trivial lk_6_44 nm_X6_swap (c_swapB hg hg2) rfl rfl (px_lit hg rfl) rfl rfl rfl ?_
    intro r47 n47 I47 L47 R47 h47
    obtain ⟨rfl, rfl, rfl, rfl, rfl⟩ := h47
    have hg := hg2
    refine px_b rfl q_X6_share_50 hg rfl trivial ?_
    exact px_go (kk _ h1) ⟨rfl, rfl, rfl, rfl, rfl, trivial⟩
  · refine px_cVW (ci := 6) rfl q_X6_share_32 hg rfl trivial lk_6_40 nm_X6_spread (c_spreadB hg hg2 _ _ (by grind)) rfl rfl (px_lit hg rfl) rfl rfl rfl ⟨rfl, rfl⟩ ?_
    intro I37 L37 h37
    obtain ⟨rfl, h9⟩ := h37
    refine px_b rfl q_X6_share_40 hg rfl trivial ?_
    exact px_go (ih (i + 1) (by grind) (by grind) (by grind) _ (h1.trans h9)) ⟨rfl, rfl, rfl, rfl, rfl, rfl, trivial⟩

set_option maxRecDepth 100000 in
theorem l_share12B {n : Nat} {R : px_R} (hg : px_G n (cRB R)) (hg2 : px_G n (cRA R)) {Q : px_Q} (a o h left : Int32) {I : px_I} (L : px_L) (hq : ∀ r L2, cSL L L2 → Q (some (.long r)) n I L2 (cRB R)) (kk : -1 < left → ∀ L2, cSL L L2 → px M_X6_share 0 0 12 [(0, .ref 97), (1, .int a), (2, .int o), (3, .int h), (4, .int (left + -1))] [] n I L2 (cRA R) Q) : px M_X6_share 0 0 12 [(0, .ref 97), (1, .int a), (2, .int o), (3, .int h), (4, .int left)] [] n I L (cRB R) Q := by
  skip
  refine px_lt rfl q_X6_share_12 hg rfl trivial (fun c14 => ?_) (fun c14 => ?_)
  · refine px_b rfl q_X6_share_56 hg rfl trivial ?_
    exact px_go (l_share65B hg hg2 a o h (fun r => hq r L cSL.rfl') 0 (by decide) (by decide) 0 0) ⟨rfl, rfl, rfl, rfl, rfl, rfl, rfl, trivial⟩
  · refine px_cVW (ci := 6) rfl q_X6_share_17 hg rfl trivial lk_6_36 nm_X6_clearNext (c_clearNextB hg hg2 _) rfl rfl (px_lit hg rfl) rfl rfl rfl ⟨rfl, rfl⟩ ?_
    intro I19 L19 h19
    obtain ⟨rfl, h9⟩ := h19
    refine px_b rfl q_X6_share_22 hg rfl trivial ?_
    exact px_go (l_share25B hg hg2 a o h left _ (fun L2 h2 => kk (by grind) L2 (h9.trans h2)) 1 (by decide) (by decide) _ cSL.rfl') ⟨rfl, rfl, rfl, rfl, rfl, rfl, trivial⟩

set_option maxRecDepth 100000 in
theorem l_round69B {n : Nat} {R : px_R} (hg : px_G n (cRB R)) (hg2 : px_G n (cRA R)) {Q : px_Q} (a o h : Int32) {I : px_I} {L : px_L} (hq : ∀ r, Q (some (.int r)) n I L (cRB R)) : ∀ i : Int32, i ≤ 123 → 0 ≤ i → ∀ u : Int64, px M_X6_roundabout 0 0 69 [(0, .ref 97), (1, .int a), (2, .int o), (3, .int h), (4, .long u), (6, .int i)] [] n I L (cRB R) Q := by
  refine px_up 123 (fun i ih hi => ?_)
  intro h0 u
  refine px_ige rfl q_X6_roundabout_69 hg rfl trivial (fun c73 => ?_) (fun c73 => ?_)
  · refine px_ri rfl q_X6_roundabout_106 rfl rfl rfl hg rfl trivial ?_
    exact hq _
  · refine px_cVP (ci := 6) rfl q_X6_roundabout_76 hg rfl trivial lk_6_47 nm_X6_misses (c_misses hg _) rfl rfl (px_lit hg rfl) rfl rfl rfl ⟨rfl, rfl⟩ ?_
    intro x79 h79
    refine px_ne rfl q_X6_roundabout_82 hg rfl trivial (fun c82 => ?_) (fun c82 => ?_)
    · replace h79 := px_bt h79 c82
      refine px_b rfl q_X6_roundabout_100 hg rfl trivial ?_
      exact px_go (ih (i + 1) (by grind) (by grind) (by grind) _) ⟨rfl, rfl, rfl, rfl, rfl, rfl, trivial⟩
    · replace h79 := px_bf h79 c82
      refine px_cSQ rfl q_X6_roundabout_85 hg rfl ⟨trivial, (by first | decide | (refine ⟨?_, ?_⟩ <;> grind) | grind)⟩ lk_6_61 nm_X6_better (c_better hg _ _ _) rfl rfl rfl ⟨rfl, rfl⟩ ?_
      intro x95 h95
      refine px_b rfl q_X6_roundabout_98 hg rfl trivial ?_
      exact px_go (ih (i + 1) (by grind) (by grind) (by grind) _) ⟨rfl, rfl, rfl, rfl, rfl, rfl, trivial⟩

set_option maxRecDepth 100000 in
theorem l_round29B {n : Nat} {R : px_R} (hg : px_G n (cRB R)) (hg2 : px_G n (cRA R)) {Q : px_Q} (a o h left : Int32) {I : px_I} (L : px_L) (kk : ∀ L2, cSL L L2 → px M_X6_roundabout 0 0 14 [(0, .ref 97), (1, .int a), (2, .int o), (3, .int h), (4, .int (left + -1))] [] n I L2 (cRA R) Q) : ∀ i : Int32, i ≤ 122 → 1 ≤ i → ∀ L1, cSL L L1 → px M_X6_roundabout 0 0 29 [(0, .ref 97), (1, .int a), (2, .int o), (3, .int h), (4, .int left), (5, .int i)] [] n I L1 (cRB R) Q := by
  refine px_up 122 (fun i ih hi => ?_)
  intro h0 L1 h1
  refine px_ige rfl q_X6_roundabout_29 hg rfl trivial (fun c33 => ?_) (fun c33 => ?_)
  · refine px_cVG (ci := 6) rfl q_X6_roundabout_51 hg rfl trivial lk_6_44 nm_X6_swap (c_swapB hg hg2) rfl rfl (px_lit hg rfl) rfl rfl rfl ?_
    intro r52 n52 I52 L52 R52 h52
    obtain ⟨rfl, rfl, rfl, rfl, rfl⟩ := h52
    have hg := hg2
    refine px_b rfl q_X6_roundabout_55 hg rfl trivial ?_
    exact px_go (kk _ h1) ⟨rfl, rfl, rfl, rfl, rfl, trivial⟩
  · refine px_cVW (ci := 6) rfl q_X6_roundabout_36 hg rfl trivial lk_6_57 nm_X6_prolong (c_prolongB hg hg2 _ _ _ (by grind)) rfl rfl (px_lit hg rfl) rfl rfl rfl ⟨rfl, rfl⟩ ?_
    intro I42 L42 h42
    obtain ⟨rfl, h9⟩ := h42
    refine px_b rfl q_X6_roundabout_45 hg rfl trivial ?_
    exact px_go (ih (i + 1) (by grind) (by grind) (by grind) _ (h1.trans h9)) ⟨rfl, rfl, rfl, rfl, rfl, rfl, trivial⟩

set_option maxRecDepth 100000 in
theorem l_round14B {n : Nat} {R : px_R} (hg : px_G n (cRB R)) (hg2 : px_G n (cRA R)) {Q : px_Q} (a o h left : Int32) {I : px_I} (L : px_L) (hq : ∀ r L2, cSL L L2 → Q (some (.int r)) n I L2 (cRB R)) (kk : -1 < left → ∀ L2, cSL L L2 → px M_X6_roundabout 0 0 14 [(0, .ref 97), (1, .int a), (2, .int o), (3, .int h), (4, .int (left + -1))] [] n I L2 (cRA R) Q) : px M_X6_roundabout 0 0 14 [(0, .ref 97), (1, .int a), (2, .int o), (3, .int h), (4, .int left)] [] n I L (cRB R) Q := by
  skip
  refine px_lt rfl q_X6_roundabout_14 hg rfl trivial (fun c16 => ?_) (fun c16 => ?_)
  · refine px_b rfl q_X6_roundabout_61 hg rfl trivial ?_
    exact px_go (l_round69B hg hg2 a o h (fun r => hq r L cSL.rfl') 0 (by decide) (by decide) _) ⟨rfl, rfl, rfl, rfl, rfl, rfl, trivial⟩
  · refine px_cVW (ci := 6) rfl q_X6_roundabout_19 hg rfl trivial lk_6_36 nm_X6_clearNext (c_clearNextB hg hg2 _) rfl rfl (px_lit hg rfl) rfl rfl rfl ⟨rfl, rfl⟩ ?_
    intro I23 L23 h23
    obtain ⟨rfl, h9⟩ := h23
    refine px_b rfl q_X6_roundabout_26 hg rfl trivial ?_
    exact px_go (l_round29B hg hg2 a o h left _ (fun L2 h2 => kk (by grind) L2 (h9.trans h2)) 1 (by decide) (by decide) _ cSL.rfl') ⟨rfl, rfl, rfl, rfl, rfl, rfl, trivial⟩

theorem l_share {n : Nat} {R : px_R} (hgA : px_G n (cRA R)) (hgB : px_G n (cRB R)) {Q : px_Q} (a o h : Int32) {I : px_I} (L : px_L) (hq : ∀ r L2 R2, cSL L L2 → (R2 = cRA R ∨ R2 = cRB R) → Q (some (.long r)) n I L2 R2) : ∀ left : Int32, -1 ≤ left → ∀ L1, cSL L L1 → px M_X6_share 0 0 12 [(0, .ref 97), (1, .int a), (2, .int o), (3, .int h), (4, .int left)] [] n I L1 (cRA R) Q ∧ px M_X6_share 0 0 12 [(0, .ref 97), (1, .int a), (2, .int o), (3, .int h), (4, .int left)] [] n I L1 (cRB R) Q := by
  refine px_dn (-1) (fun left ih hl => ?_)
  intro L1 h1
  refine ⟨l_share12A hgA hgB a o h left L1 (fun r L2 h2 => hq r L2 _ (h1.trans h2) (Or.inl rfl)) (fun h3 L2 h2 => (ih (left + -1) (by grind) (by grind) L2 (h1.trans h2)).2), l_share12B hgB hgA a o h left L1 (fun r L2 h2 => hq r L2 _ (h1.trans h2) (Or.inr rfl)) (fun h3 L2 h2 => (ih (left + -1) (by grind) (by grind) L2 (h1.trans h2)).1)⟩

theorem q_X6_share_0 : px_bk 6 10 cX6_share 0 [(.aload_n 0, (0, 0, 0, 0, 0), 0, 0), (.iload_n 2, (0, 0, 0, 0, 0), 0, 0), (.lconst 0, (0, 0, 0, 0, 0), 0, 0), (.lconst 1, (0, 0, 0, 0, 0), 0, 1)] = some 4 ∧ px_tv cX6_share 4 32 = true := by decide +kernel
theorem q_X6_share_7 : px_bk 6 10 cX6_share 7 [(.iload_n 1, (0, 0, 0, 0, 0), 0, 0), (.iconst 1, (0, 0, 0, 0, 0), 1, 0), (.isub, (0, 0, 0, 0, 0), 0, 0), (.istore 4, (0, 0, 0, 0, 0), 0, 0)] = some 12 := by decide +kernel
set_option maxRecDepth 100000 in
theorem c_shareA {n : Nat} {I : px_I} {L : px_L} {R : px_R} (hg : px_G n (cRA R)) (hg2 : px_G n (cRB R)) (a o h : Int32) (ha : 0 ≤ a) : px_K M_X6_share [.ref 97, .int a, .int o, .int h] n I L (cRA R) (fun r n' I' L' R' => n' = n ∧ I' = I ∧ cSL L L' ∧ (R' = cRA R ∨ R' = cRB R) ∧ ∃ x, r = some (.long x)) := by
  refine px_of (plainFor_of_name np_RX6) (fun _ _ _ => trivial) rfl ?_
  refine px_cVW (ci := 6) rfl q_X6_share_0 hg rfl trivial lk_6_32 nm_X6_startAt (c_startAtA hg hg2 _ _ _) rfl rfl (px_lit hg rfl) rfl rfl rfl ⟨rfl, rfl⟩ ?_
  intro I4 L4 h4
  obtain ⟨rfl, h9⟩ := h4
  refine px_b rfl q_X6_share_7 hg rfl trivial ?_
  exact px_go (l_share hg hg2 a o h L (fun r L2 R2 h2 h3 => ⟨rfl, rfl, h2, h3, r, rfl⟩) (a - 1) (by grind) _ h9).1 ⟨rfl, rfl, rfl, rfl, rfl, trivial⟩

set_option maxRecDepth 100000 in
theorem c_shareB {n : Nat} {I : px_I} {L : px_L} {R : px_R} (hg : px_G n (cRB R)) (hg2 : px_G n (cRA R)) (a o h : Int32) (ha : 0 ≤ a) : px_K M_X6_share [.ref 97, .int a, .int o, .int h] n I L (cRB R) (fun r n' I' L' R' => n' = n ∧ I' = I ∧ cSL L L' ∧ (R' = cRA R ∨ R' = cRB R) ∧ ∃ x, r = some (.long x)) := by
  refine px_of (plainFor_of_name np_RX6) (fun _ _ _ => trivial) rfl ?_
  refine px_cVW (ci := 6) rfl q_X6_share_0 hg rfl trivial lk_6_32 nm_X6_startAt (c_startAtB hg hg2 _ _ _) rfl rfl (px_lit hg rfl) rfl rfl rfl ⟨rfl, rfl⟩ ?_
  intro I4 L4 h4
  obtain ⟨rfl, h9⟩ := h4
  refine px_b rfl q_X6_share_7 hg rfl trivial ?_
  exact px_go (l_share hg2 hg a o h L (fun r L2 R2 h2 h3 => ⟨rfl, rfl, h2, h3, r, rfl⟩) (a - 1) (by grind) _ h9).2 ⟨rfl, rfl, rfl, rfl, rfl, trivial⟩

theorem l_round {n : Nat} {R : px_R} (hgA : px_G n (cRA R)) (hgB : px_G n (cRB R)) {Q : px_Q} (a o h : Int32) {I : px_I} (L : px_L) (hq : ∀ r L2 R2, cSL L L2 → (R2 = cRA R ∨ R2 = cRB R) → Q (some (.int r)) n I L2 R2) : ∀ left : Int32, -1 ≤ left → ∀ L1, cSL L L1 → px M_X6_roundabout 0 0 14 [(0, .ref 97), (1, .int a), (2, .int o), (3, .int h), (4, .int left)] [] n I L1 (cRA R) Q ∧ px M_X6_roundabout 0 0 14 [(0, .ref 97), (1, .int a), (2, .int o), (3, .int h), (4, .int left)] [] n I L1 (cRB R) Q := by
  refine px_dn (-1) (fun left ih hl => ?_)
  intro L1 h1
  refine ⟨l_round14A hgA hgB a o h left L1 (fun r L2 h2 => hq r L2 _ (h1.trans h2) (Or.inl rfl)) (fun h3 L2 h2 => (ih (left + -1) (by grind) (by grind) L2 (h1.trans h2)).2), l_round14B hgB hgA a o h left L1 (fun r L2 h2 => hq r L2 _ (h1.trans h2) (Or.inr rfl)) (fun h3 L2 h2 => (ih (left + -1) (by grind) (by grind) L2 (h1.trans h2)).1)⟩

theorem q_X6_roundabout_0 : px_bk 6 7 cX6_roundabout 0 [(.aload_n 0, (0, 0, 0, 0, 0), 0, 0), (.iload_n 2, (0, 0, 0, 0, 0), 0, 0), (.ldc2_w 55, (0, 0, 0, 0, 0), 0, -1), (.lconst 0, (0, 0, 0, 0, 0), 0, 0)] = some 6 ∧ px_tv cX6_roundabout 6 32 = true := by decide +kernel
theorem q_X6_roundabout_9 : px_bk 6 7 cX6_roundabout 9 [(.iload_n 1, (0, 0, 0, 0, 0), 0, 0), (.iconst 1, (0, 0, 0, 0, 0), 1, 0), (.isub, (0, 0, 0, 0, 0), 0, 0), (.istore 4, (0, 0, 0, 0, 0), 0, 0)] = some 14 := by decide +kernel
set_option maxRecDepth 100000 in
theorem c_roundA {n : Nat} {I : px_I} {L : px_L} {R : px_R} (hg : px_G n (cRA R)) (hg2 : px_G n (cRB R)) (a o h : Int32) (ha : 0 ≤ a) : px_K M_X6_roundabout [.ref 97, .int a, .int o, .int h] n I L (cRA R) (fun r n' I' L' R' => n' = n ∧ I' = I ∧ cSL L L' ∧ (R' = cRA R ∨ R' = cRB R) ∧ ∃ x, r = some (.int x)) := by
  refine px_of (plainFor_of_name np_RX6) (fun _ _ _ => trivial) rfl ?_
  refine px_cVW (ci := 6) rfl q_X6_roundabout_0 hg rfl trivial lk_6_32 nm_X6_startAt (c_startAtA hg hg2 _ _ _) rfl rfl (px_lit hg rfl) rfl rfl rfl ⟨rfl, rfl⟩ ?_
  intro I6 L6 h6
  obtain ⟨rfl, h9⟩ := h6
  refine px_b rfl q_X6_roundabout_9 hg rfl trivial ?_
  exact px_go (l_round hg hg2 a o h L (fun r L2 R2 h2 h3 => ⟨rfl, rfl, h2, h3, r, rfl⟩) (a - 1) (by grind) _ h9).1 ⟨rfl, rfl, rfl, rfl, rfl, trivial⟩

set_option maxRecDepth 100000 in
theorem c_roundB {n : Nat} {I : px_I} {L : px_L} {R : px_R} (hg : px_G n (cRB R)) (hg2 : px_G n (cRA R)) (a o h : Int32) (ha : 0 ≤ a) : px_K M_X6_roundabout [.ref 97, .int a, .int o, .int h] n I L (cRB R) (fun r n' I' L' R' => n' = n ∧ I' = I ∧ cSL L L' ∧ (R' = cRA R ∨ R' = cRB R) ∧ ∃ x, r = some (.int x)) := by
  refine px_of (plainFor_of_name np_RX6) (fun _ _ _ => trivial) rfl ?_
  refine px_cVW (ci := 6) rfl q_X6_roundabout_0 hg rfl trivial lk_6_32 nm_X6_startAt (c_startAtB hg hg2 _ _ _) rfl rfl (px_lit hg rfl) rfl rfl rfl ⟨rfl, rfl⟩ ?_
  intro I6 L6 h6
  obtain ⟨rfl, h9⟩ := h6
  refine px_b rfl q_X6_roundabout_9 hg rfl trivial ?_
  exact px_go (l_round hg2 hg a o h L (fun r L2 R2 h2 h3 => ⟨rfl, rfl, h2, h3, r, rfl⟩) (a - 1) (by grind) _ h9).2 ⟨rfl, rfl, rfl, rfl, rfl, trivial⟩
