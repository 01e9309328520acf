/-! a way is told: the places of the ways -/
theorem px_shB : ∀ n, n < 160 → 147 ≤ n → px_sh n = (bif Nat.beq ((n - 147) % 3) 0 then (10, 4, 4) else (20, 200, 200)) := by decide +kernel
theorem px_shL_len : px_shL.length ≤ 10 := by decide +kernel
theorem px_shC {n : Nat} (h : 147 ≤ n) : px_sh n = (bif Nat.beq ((n - 147) % 3) 0 then (10, 4, 4) else (20, 200, 200)) := by
  rcases Nat.lt_or_ge n 160 with q | q
  · exact px_shB n q h
  · unfold px_sh
    rw [px_nth_ge (l := px_shL) (Nat.le_trans px_shL_len (by omega))]
    cases n % 16 <;> rfl
theorem px_shW (k : Nat) : px_sh (147 + 3 * k) = (10, 4, 4) ∧ px_sh (147 + 3 * k + 1) = (20, 200, 200) ∧ px_sh (147 + 3 * k + 2) = (20, 200, 200) := by
  refine ⟨?_, ?_, ?_⟩
  · rw [px_shC (by omega), show (147 + 3 * k - 147) % 3 = 0 by omega]; rfl
  · rw [px_shC (by omega), show (147 + 3 * k + 1 - 147) % 3 = 1 by omega]; rfl
  · rw [px_shC (by omega), show (147 + 3 * k + 2 - 147) % 3 = 2 by omega]; rfl
theorem px_tg89 : ∀ k, k < 80 → px_tg 89 k = 0 := by decide +kernel
theorem px_G89 {n k w : Nat} {R : px_R} (hg : px_G n R) : px_G n (px_u R 89 k (some w)) := by
  obtain ⟨h1, h2, h3⟩ := hg
  refine ⟨h1, fun o j hj => ?_, fun x hx => ?_⟩
  · rw [px_u_ne (fun e => hj (by subst e; exact px_tg89 j (px_tg_lt hj).2))]; exact h2 o j hj
  · have hne : x ≠ 89 := fun e => by subst e; exact absurd hx.2.2 (by decide)
    rw [px_u_ne hne]; exact h3 x hx
theorem px_G76 {n w : Nat} {R : px_R} (hg : px_G n R) : px_G n (px_u R 76 1 (some w)) := by
  obtain ⟨h1, h2, h3⟩ := hg
  refine ⟨h1, fun o j hj => ?_, fun x hx => ?_⟩
  · rw [px_ur]
    by_cases e : o = 76
    · by_cases e2 : j = 1
      · subst e; subst e2; exact absurd rfl hj
      · rw [if_pos e, if_neg e2]; exact h2 o j hj
    · rw [if_neg e]; exact h2 o j hj
  · have hne : x ≠ 76 := fun e => by subst e; exact absurd hx.2.2 (by decide)
    rw [px_u_ne hne]; exact h3 x hx
/-- a new way: all stands for good still -/
theorem mkW.G {k : Nat} {I I2 : px_I} {L L2 : px_L} {R R2 : px_R} (hg : px_G (147 + 3 * k) R) (h : mkW (147 + 3 * k) I L R I2 L2 R2) : px_G (147 + 3 * k + 3) R2 := by
  obtain ⟨h1, h2, h3⟩ := hg
  obtain ⟨a1, a2, a3, a4, a5⟩ := h
  refine ⟨by have : px_nb = 147 := rfl; omega, fun o j hj => ?_, fun w hw => ?_⟩
  · have := px_tg_lt hj
    rw [(a1 o (by omega) (by omega) (by omega)).2.2]; exact h2 o j hj
  · by_cases e : w = 147 + 3 * k
    · subst e; rw [a3]; exact ⟨rfl, rfl⟩
    · obtain ⟨w1, w2, w3⟩ := hw
      have n1 : w ≠ 147 + 3 * k + 1 := fun q => by rw [q, (px_shW k).2.1] at w3; exact absurd w3 (by decide)
      have n2 : w ≠ 147 + 3 * k + 2 := fun q => by rw [q, (px_shW k).2.2] at w3; exact absurd w3 (by decide)
      rw [(a1 w e n1 n2).2.2]
      exact h3 w ⟨w1, by omega, w3⟩

theorem q_X5_replace_60 : (px_bk 5 5 cX5_replace 60 [(.dup, (0, 0, 0, 0, 0), 0, 0)] = some 61 ∧ List.all [(.dup, (0, 0, 0, 0, 0), 0, 0)] (fun x => !px_us x) = true) := by decide +kernel
theorem q_X5_replace_64 : (px_bk 5 5 cX5_replace 64 [(.goto 4, (0, 0, 0, 0, 0), 0, 0)] = some 68 ∧ List.all [(.goto 4, (0, 0, 0, 0, 0), 0, 0)] (fun x => !px_us x) = true) ∧ px_tr cX5_replace 68 .areturn = true := by decide +kernel
theorem q_X5_replace_61K : px_tI cX5_replace 61 39 = true := by decide +kernel

theorem q_X5_replace_53 : px_bk 5 5 cX5_replace 53 [(.aload_n 3, (0, 0, 0, 0, 0), 0, 0)] = some 54 ∧ px_t4 cX5_replace 54 67 = true := by decide +kernel
theorem q_X5_replace_57 : px_bk 5 5 cX5_replace 57 [] = some 57 := by decide +kernel
set_option maxRecDepth 100000 in
theorem l_rep53N {n : Nat} {R : px_R} (hg : px_G n R) {Q : px_Q} {k : Nat} (hn : n = 147 + 3 * k) (i : Int32) (d : Nat) {I : px_I} {L : px_L} (hq2 : ∀ I2 L2 R2, mkW n I L R I2 L2 R2 → Q (some (.ref n)) (n + 3) I2 L2 R2) : px M_X5_replace 0 0 53 [(0, .ref 85), (1, .int i), (2, .ref d), (3, .null)] [] n I L R Q := by
  skip
  refine px_nonN rfl q_X5_replace_53 hg rfl trivial ?_
  have s := px_shW k
  rw [← hn] at s
  refine px_nO (idx := 18) (ci := 10) (nf := 4) (by decide +kernel) (by decide) (by rw [s.1]) rfl rfl rfl ?_
  refine px_bc rfl q_X5_replace_60 rfl trivial ?_
  refine px_kIN q_X5_replace_61K lk_5_39 nm_X10_init (mk_way (by omega) (by rw [s.1]) (by rw [s.2.1]; exact ⟨rfl, rfl⟩) (by rw [s.2.2]; exact ⟨rfl, rfl⟩)) rfl rfl rfl ?_
  rintro _ _ I2 L2 R2 ⟨rfl, rfl, h⟩
  refine px_bc rfl q_X5_replace_64.1 rfl trivial ?_
  exact px_ret (r := some (.ref n)) ⟨px_tr_ok q_X5_replace_64.2, ⟨_, rfl, Or.inl ⟨_, rfl⟩⟩, Or.inr ⟨_, rfl⟩⟩ rfl rfl (hq2 I2 L2 R2 h)

theorem q_X5_replace_67 : px_bk 5 5 cX5_replace 67 [(.aload_n 3, (0, 0, 0, 0, 0), 0, 0)] = some 68 ∧ px_tr cX5_replace 68 .areturn = true := by decide +kernel
set_option maxRecDepth 100000 in
theorem l_rep53R {n : Nat} {R : px_R} (hg : px_G n R) {Q : px_Q} (i : Int32) (d x : Nat) {I : px_I} {L : px_L} (hq1 : Q (some (.ref x)) n I L R) : px M_X5_replace 0 0 53 [(0, .ref 85), (1, .int i), (2, .ref d), (3, .ref x)] [] n I L R Q := by
  skip
  refine px_nonR rfl q_X5_replace_53 hg rfl trivial ?_
  first | refine px_ra (v := some _) rfl q_X5_replace_67 rfl rfl rfl hg rfl trivial ?_ | refine px_ra (v := none) rfl q_X5_replace_67 rfl rfl rfl hg rfl trivial ?_
  exact hq1

theorem q_X5_replace_27 : px_bk 5 5 cX5_replace 27 [(.iload 4, (0, 0, 0, 0, 0), 0, 0), (.bipush 16, (0, 0, 0, 0, 0), 16, 0)] = some 31 ∧ px_t2 cX5_replace 31 .ge 53 = true := by decide +kernel
theorem q_X5_replace_34 : px_bk 5 5 cX5_replace 34 [(.aload_n 0, (0, 0, 0, 0, 0), 0, 0), (.getfield 24, (5, 2, 3, 90, 0), 0, 0), (.bipush 16, (0, 0, 0, 0, 0), 16, 0), (.iload_n 1, (0, 0, 0, 0, 0), 0, 0), (.imul, (0, 0, 0, 0, 0), 0, 0), (.iload 4, (0, 0, 0, 0, 0), 0, 0), (.iadd, (0, 0, 0, 0, 0), 0, 0), (.iconst 0, (0, 0, 0, 0, 0), 0, 0), (.bastore, (0, 0, 0, 0, 0), 0, 0), (.iinc 4 1, (0, 0, 0, 0, 0), 1, 0), (.goto (-23), (0, 0, 0, 0, 0), 0, 0)] = some 27 := by decide +kernel
set_option maxRecDepth 100000 in
theorem l_rep27N {n : Nat} {R : px_R} (hg : px_G n R) {Q : px_Q} (i : Int32) (d x : Nat) (hi : 0 ≤ i ∧ i < 6) {I : px_I} {L : px_L} (kk : ∀ I2, cKF I I2 → px M_X5_replace 0 0 53 [(0, .ref 85), (1, .int i), (2, .ref d), (3, .null)] [] n I2 L R Q) : ∀ j : Int32, j ≤ 16 → 0 ≤ j → ∀ I1, cKF I I1 → px M_X5_replace 0 0 27 [(0, .ref 85), (1, .int i), (2, .ref d), (3, .null), (4, .int j)] [] n I1 L R Q := by
  refine px_up 16 (fun j ih hj => ?_)
  intro h0 I1 h1
  refine px_ige rfl q_X5_replace_27 hg rfl trivial (fun c31 => ?_) (fun c31 => ?_)
  · exact px_go (kk _ h1) ⟨rfl, rfl, rfl, rfl, trivial⟩
  · refine px_b rfl q_X5_replace_34 hg rfl ⟨trivial, (by first | exact Or.inl rfl | (refine ⟨?_, ?_⟩ <;> grind))⟩ ?_
    exact px_go (ih (j + 1) (by grind) (by grind) (by grind) _ (h1.u _ _)) ⟨rfl, rfl, rfl, rfl, rfl, trivial⟩

set_option maxRecDepth 100000 in
theorem l_rep27R {n : Nat} {R : px_R} (hg : px_G n R) {Q : px_Q} (i : Int32) (d x : Nat) (hi : 0 ≤ i ∧ i < 6) {I : px_I} {L : px_L} (kk : ∀ I2, cKF I I2 → px M_X5_replace 0 0 53 [(0, .ref 85), (1, .int i), (2, .ref d), (3, .ref x)] [] n I2 L R Q) : ∀ j : Int32, j ≤ 16 → 0 ≤ j → ∀ I1, cKF I I1 → px M_X5_replace 0 0 27 [(0, .ref 85), (1, .int i), (2, .ref d), (3, .ref x), (4, .int j)] [] n I1 L R Q := by
  refine px_up 16 (fun j ih hj => ?_)
  intro h0 I1 h1
  refine px_ige rfl q_X5_replace_27 hg rfl trivial (fun c31 => ?_) (fun c31 => ?_)
  · exact px_go (kk _ h1) ⟨rfl, rfl, rfl, rfl, trivial⟩
  · refine px_b rfl q_X5_replace_34 hg rfl ⟨trivial, (by first | exact Or.inl rfl | (refine ⟨?_, ?_⟩ <;> grind))⟩ ?_
    exact px_go (ih (j + 1) (by grind) (by grind) (by grind) _ (h1.u _ _)) ⟨rfl, rfl, rfl, rfl, rfl, trivial⟩

theorem q_X5_replace_0 : px_bk 5 5 cX5_replace 0 [(.aload_n 0, (0, 0, 0, 0, 0), 0, 0), (.iload_n 1, (0, 0, 0, 0, 0), 0, 0)] = some 2 ∧ px_tv cX5_replace 2 32 = true := by decide +kernel
theorem q_X5_replace_5 : px_bk 5 5 cX5_replace 5 [] = some 5 ∧ px_t1 cX5_replace 5 .ne 10 = true := by decide +kernel
theorem q_X5_replace_10 : px_bk 5 5 cX5_replace 10 [(.aload_n 0, (0, 0, 0, 0, 0), 0, 0), (.getfield 20, (5, 1, 3, 89, 0), 0, 0), (.iload_n 1, (0, 0, 0, 0, 0), 0, 0)] = some 15 := by decide +kernel
theorem q_X5_replace_16 : px_bk 5 5 cX5_replace 16 [(.astore_n 3, (0, 0, 0, 0, 0), 0, 0), (.aload_n 0, (0, 0, 0, 0, 0), 0, 0), (.getfield 20, (5, 1, 3, 89, 0), 0, 0), (.iload_n 1, (0, 0, 0, 0, 0), 0, 0), (.aload_n 2, (0, 0, 0, 0, 0), 0, 0)] = some 23 := by decide +kernel
theorem q_X5_replace_24 : px_bk 5 5 cX5_replace 24 [(.iconst 0, (0, 0, 0, 0, 0), 0, 0), (.istore 4, (0, 0, 0, 0, 0), 0, 0)] = some 27 := by decide +kernel
set_option maxRecDepth 100000 in
theorem c_replace {n : Nat} {I : px_I} {L : px_L} {R : px_R} (hg : px_G n R) {k : Nat} (hn : n = 147 + 3 * k) (i : Int32) (d : Nat) (hi : 0 ≤ i ∧ i < 6) (hd : px_is n d 10) : px_K M_X5_replace [.ref 85, .int i, .ref d] n I L R (fun r n' I' L' R' => ∃ I1, cKF I I1 ∧ ((∃ x, R 89 i.toNatClampNeg = some x ∧ r = some (.ref x) ∧ n' = n ∧ I' = I1 ∧ L' = L ∧ R' = px_u R 89 i.toNatClampNeg (some d)) ∨ (R 89 i.toNatClampNeg = none ∧ r = some (.ref n) ∧ n' = n + 3 ∧ mkW n I1 L (px_u R 89 i.toNatClampNeg (some d)) I' L' R'))) := by
  refine px_of (plainFor_of_name np_RX5) (fun _ _ _ => trivial) rfl ?_
  refine px_cVP (ci := 5) rfl q_X5_replace_0 hg rfl trivial lk_5_32 nm_X5_hasPlace (c_hasPlace hg _) rfl rfl (px_lit hg rfl) rfl rfl rfl ⟨rfl, rfl⟩ ?_
  intro x2 h2
  refine px_ne rfl q_X5_replace_5 hg rfl trivial (fun c5 => ?_) (fun c5 => ?_)
  · replace h2 := px_bt h2 c5
    refine px_b rfl q_X5_replace_10 hg rfl trivial ?_
    refine px_aald hg (by decide +kernel) hi ?_
    rcases hv : R 89 i.toNatClampNeg with _ | x
    · refine px_b rfl q_X5_replace_16 hg rfl trivial ?_
      refine px_aast hg hd (by decide +kernel) hi ?_
      have hg := px_G89 (k := i.toNatClampNeg) (w := d) hg
      refine px_b rfl q_X5_replace_24 hg rfl trivial ?_
      first | exact px_go (l_rep27N hg i d 0 hi (fun I2 h => l_rep53N hg hn i d (fun I3 L3 R3 h3 => ⟨I2, h, Or.inr ⟨(by first | exact hv | rfl), rfl, rfl, h3⟩⟩)) 0 (by decide) (by decide) I (fun _ _ => rfl)) ⟨rfl, rfl, rfl, rfl, rfl, trivial⟩ | exact px_go (l_rep27R hg i d x hi (fun I2 h => l_rep53R hg i d x ⟨I2, h, Or.inl ⟨x, (by first | exact hv | rfl), rfl, rfl, rfl, rfl, rfl⟩⟩) 0 (by decide) (by decide) I (fun _ _ => rfl)) ⟨rfl, rfl, rfl, rfl, rfl, trivial⟩
    · refine px_b rfl q_X5_replace_16 hg rfl trivial ?_
      refine px_aast hg hd (by decide +kernel) hi ?_
      have hg := px_G89 (k := i.toNatClampNeg) (w := d) hg
      refine px_b rfl q_X5_replace_24 hg rfl trivial ?_
      first | exact px_go (l_rep27N hg i d 0 hi (fun I2 h => l_rep53N hg hn i d (fun I3 L3 R3 h3 => ⟨I2, h, Or.inr ⟨(by first | exact hv | rfl), rfl, rfl, h3⟩⟩)) 0 (by decide) (by decide) I (fun _ _ => rfl)) ⟨rfl, rfl, rfl, rfl, rfl, trivial⟩ | exact px_go (l_rep27R hg i d x hi (fun I2 h => l_rep53R hg i d x ⟨I2, h, Or.inl ⟨x, (by first | exact hv | rfl), rfl, rfl, rfl, rfl, rfl⟩⟩) 0 (by decide) (by decide) I (fun _ _ => rfl)) ⟨rfl, rfl, rfl, rfl, rfl, trivial⟩
  · exact absurd hi (px_bf h2 c5)
