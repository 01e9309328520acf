theorem q_X10_init_0 : (px_bk 10 1 cX10_init 0 [(.aload_n 0, (0, 0, 0, 0, 0), 0, 0)] = some 1 ∧ List.all [(.aload_n 0, (0, 0, 0, 0, 0), 0, 0)] (fun x => !px_us x) = true) := by decide +kernel
theorem q_X10_init_4 : (px_bk 10 1 cX10_init 4 [(.aload_n 0, (0, 0, 0, 0, 0), 0, 0), (.sipush 200, (0, 0, 0, 0, 0), 200, 0)] = some 8 ∧ List.all [(.aload_n 0, (0, 0, 0, 0, 0), 0, 0), (.sipush 200, (0, 0, 0, 0, 0), 200, 0)] (fun x => !px_us x) = true) := by decide +kernel
theorem q_X10_init_13 : (px_bk 10 1 cX10_init 13 [(.aload_n 0, (0, 0, 0, 0, 0), 0, 0), (.sipush 200, (0, 0, 0, 0, 0), 200, 0)] = some 17 ∧ List.all [(.aload_n 0, (0, 0, 0, 0, 0), 0, 0), (.sipush 200, (0, 0, 0, 0, 0), 200, 0)] (fun x => !px_us x) = true) := by decide +kernel
theorem q_X10_init_22 : (px_bk 10 1 cX10_init 22 [(.aload_n 0, (0, 0, 0, 0, 0), 0, 0), (.iconst 0, (0, 0, 0, 0, 0), 0, 0), (.putfield 18, (10, 2, 5, 0, 0), 0, 0), (.aload_n 0, (0, 0, 0, 0, 0), 0, 0), (.iconst 0, (0, 0, 0, 0, 0), 0, 0), (.putfield 22, (10, 3, 5, 0, 0), 0, 0)] = some 32 ∧ List.all [(.aload_n 0, (0, 0, 0, 0, 0), 0, 0), (.iconst 0, (0, 0, 0, 0, 0), 0, 0), (.putfield 18, (10, 2, 5, 0, 0), 0, 0), (.aload_n 0, (0, 0, 0, 0, 0), 0, 0), (.iconst 0, (0, 0, 0, 0, 0), 0, 0), (.putfield 22, (10, 3, 5, 0, 0), 0, 0)] (fun x => !px_us x) = true) ∧ px_tr cX10_init 32 .return_ = true := by decide +kernel

def mkW (n : Nat) (I : px_I) (L : px_L) (R : px_R) (I2 : px_I) (L2 : px_L) (R2 : px_R) : Prop := (∀ b, b ≠ n → b ≠ n + 1 → b ≠ n + 2 → I2 b = I b ∧ L2 b = L b ∧ R2 b = R b) ∧ (∀ b, b = n ∨ b = n + 1 ∨ b = n + 2 → I2 b = (fun _ => 0) ∧ L2 b = (fun _ => 0)) ∧ R2 n = (fun k => if k = 1 then some (n + 2) else if k = 0 then some (n + 1) else none) ∧ R2 (n + 1) = (fun _ => none) ∧ R2 (n + 2) = (fun _ => none)
set_option maxRecDepth 100000 in
theorem mk_way {n : Nat} {I : px_I} {L : px_L} {R : px_R} (h32 : 32 ≤ n) (s0 : (px_sh n).1 = 10) (s1 : (px_sh (n + 1)).1 = 20 ∧ (px_sh (n + 1)).2.1 = 200) (s2 : (px_sh (n + 2)).1 = 20 ∧ (px_sh (n + 2)).2.1 = 200) : px_K M_X10_init [.ref n] (n + 1) (px_w I n (fun _ => 0)) (px_w L n (fun _ => 0)) (px_w R n (fun _ => none)) (fun r n2 I2 L2 R2 => r = none ∧ n2 = n + 3 ∧ mkW n I L R I2 L2 R2) := by
  refine px_of (plainFor_of_name np_RX10) (fun _ _ _ => trivial) rfl ?_
  refine px_bc rfl q_X10_init_0 rfl trivial ?_
  refine px_oI (by decide +kernel) (px_i1 193 rfl rfl) (px_i1 25 rfl rfl) (px_i1 26 rfl rfl) rfl rfl ?_
  refine px_bc rfl q_X10_init_4 rfl trivial ?_
  refine px_nA (t0 := 0) (N := 200) (by decide +kernel) (Or.inl ⟨rfl, rfl, s1.1⟩) s1.2 rfl rfl rfl ?_
  refine px_pF (on := 10) (ci := 10) (kf := 0) (idx := 11) rfl (by decide +kernel) (by decide) ⟨h32, by omega, s0⟩ rfl (Or.inr ⟨_, rfl⟩) (by first | exact Or.inl rfl | exact Or.inr ⟨rfl, rfl, rfl⟩) ?_
  refine px_bc rfl q_X10_init_13 rfl trivial ?_
  refine px_nA (t0 := 0) (N := 200) (by decide +kernel) (Or.inl ⟨rfl, rfl, s2.1⟩) s2.2 rfl rfl rfl ?_
  refine px_pF (on := 10) (ci := 10) (kf := 1) (idx := 15) rfl (by decide +kernel) (by decide) ⟨h32, by omega, s0⟩ rfl (Or.inr ⟨_, rfl⟩) (by first | exact Or.inl rfl | exact Or.inr ⟨rfl, rfl, rfl⟩) ?_
  refine px_rvc rfl q_X10_init_22 rfl rfl rfl rfl ⟨⟨trivial, ⟨h32, by omega, s0⟩⟩, ⟨h32, by omega, s0⟩⟩ ⟨rfl, rfl, fun b h1 h2 h3 => ⟨?_, ?_, ?_⟩, fun b hb => ⟨?_, ?_⟩, ?_, ?_, ?_⟩
  · funext k; simp only [px_ur, px_wr]; grind
  · funext k; simp only [px_ur, px_wr]; grind
  · funext k; simp only [px_ur, px_wr]; grind
  · funext k; simp only [px_ur, px_wr]; grind
  · funext k; simp only [px_ur, px_wr]; grind
  · funext k; simp only [px_ur, px_wr]; grind
  · funext k; simp only [px_ur, px_wr]; grind
  · funext k; simp only [px_ur, px_wr]; grind
theorem mk_way77 {I : px_I} {L : px_L} {R : px_R} (hb : bOk 77 I L R) : px_K M_X10_init [.ref 77] 78 (px_w I 77 (fun _ => 0)) (px_w L 77 (fun _ => 0)) (px_w R 77 (fun _ => none)) (fun r n2 I2 L2 R2 => r = none ∧ n2 = 80 ∧ I2 = I ∧ L2 = L ∧ R2 = R) := by
  refine px_K.mono (mk_way (n := 77) (by decide) rfl ⟨rfl, rfl⟩ ⟨rfl, rfl⟩) (fun r n2 I2 L2 R2 h => ?_)
  obtain ⟨h1, h2, h3, h4, h5, h6, h7⟩ := h
  refine ⟨h1, h2, ?_, ?_, ?_⟩
  · funext b
    by_cases e : b = 77 ∨ b = 78 ∨ b = 79
    · rw [(h4 b e).1, (hb b (by omega)).1]
      rcases e with rfl | rfl | rfl <;> rfl
    · exact (h3 b (by omega) (by omega) (by omega)).1
  · funext b
    by_cases e : b = 77 ∨ b = 78 ∨ b = 79
    · rw [(h4 b e).2, (hb b (by omega)).2.1]; rfl
    · exact (h3 b (by omega) (by omega) (by omega)).2.1
  · funext b
    by_cases e : b = 77 ∨ b = 78 ∨ b = 79
    · rw [(hb b (by omega)).2.2]
      rcases e with rfl | rfl | rfl
      · rw [h5]; rfl
      · rw [h6]; rfl
      · rw [h7]; rfl
    · exact (h3 b (by omega) (by omega) (by omega)).2.2

theorem q_X4_init_0 : (px_bk 4 2 cX4_init 0 [(.aload_n 0, (0, 0, 0, 0, 0), 0, 0)] = some 1 ∧ List.all [(.aload_n 0, (0, 0, 0, 0, 0), 0, 0)] (fun x => !px_us x) = true) := by decide +kernel
theorem q_X4_init_4 : (px_bk 4 2 cX4_init 4 [(.aload_n 0, (0, 0, 0, 0, 0), 0, 0)] = some 5 ∧ List.all [(.aload_n 0, (0, 0, 0, 0, 0), 0, 0)] (fun x => !px_us x) = true) := by decide +kernel
theorem q_X4_init_8 : (px_bk 4 2 cX4_init 8 [(.dup, (0, 0, 0, 0, 0), 0, 0)] = some 9 ∧ List.all [(.dup, (0, 0, 0, 0, 0), 0, 0)] (fun x => !px_us x) = true) := by decide +kernel
theorem q_X4_init_9K : px_tI cX4_init 9 11 = true := by decide +kernel
theorem q_X4_init_15 : (px_bk 4 2 cX4_init 15 [(.aload_n 0, (0, 0, 0, 0, 0), 0, 0), (.bipush 9, (0, 0, 0, 0, 0), 9, 0)] = some 18 ∧ List.all [(.aload_n 0, (0, 0, 0, 0, 0), 0, 0), (.bipush 9, (0, 0, 0, 0, 0), 9, 0)] (fun x => !px_us x) = true) := by decide +kernel
theorem q_X4_init_23 : (px_bk 4 2 cX4_init 23 [(.aload_n 0, (0, 0, 0, 0, 0), 0, 0), (.bipush 9, (0, 0, 0, 0, 0), 9, 0)] = some 26 ∧ List.all [(.aload_n 0, (0, 0, 0, 0, 0), 0, 0), (.bipush 9, (0, 0, 0, 0, 0), 9, 0)] (fun x => !px_us x) = true) := by decide +kernel
theorem q_X4_init_31 : (px_bk 4 2 cX4_init 31 [(.aload_n 0, (0, 0, 0, 0, 0), 0, 0), (.bipush 9, (0, 0, 0, 0, 0), 9, 0)] = some 34 ∧ List.all [(.aload_n 0, (0, 0, 0, 0, 0), 0, 0), (.bipush 9, (0, 0, 0, 0, 0), 9, 0)] (fun x => !px_us x) = true) := by decide +kernel
theorem q_X4_init_39 : (px_bk 4 2 cX4_init 39 [(.aload_n 0, (0, 0, 0, 0, 0), 0, 0), (.bipush 8, (0, 0, 0, 0, 0), 8, 0)] = some 42 ∧ List.all [(.aload_n 0, (0, 0, 0, 0, 0), 0, 0), (.bipush 8, (0, 0, 0, 0, 0), 8, 0)] (fun x => !px_us x) = true) := by decide +kernel
theorem q_X4_init_47 : (px_bk 4 2 cX4_init 47 [(.aload_n 0, (0, 0, 0, 0, 0), 0, 0), (.bipush 8, (0, 0, 0, 0, 0), 8, 0)] = some 50 ∧ List.all [(.aload_n 0, (0, 0, 0, 0, 0), 0, 0), (.bipush 8, (0, 0, 0, 0, 0), 8, 0)] (fun x => !px_us x) = true) := by decide +kernel
theorem q_X4_init_55 : (px_bk 4 2 cX4_init 55 [(.aload_n 0, (0, 0, 0, 0, 0), 0, 0), (.iconst 0, (0, 0, 0, 0, 0), 0, 0), (.putfield 34, (4, 7, 0, 0, 0), 0, 0), (.aload_n 0, (0, 0, 0, 0, 0), 0, 0), (.iconst (-1), (0, 0, 0, 0, 0), -1, 0), (.putfield 38, (4, 8, 0, 0, 0), 0, 0), (.aload_n 0, (0, 0, 0, 0, 0), 0, 0), (.iconst (-1), (0, 0, 0, 0, 0), -1, 0), (.putfield 41, (4, 9, 0, 0, 0), 0, 0), (.aload_n 0, (0, 0, 0, 0, 0), 0, 0), (.iconst 0, (0, 0, 0, 0, 0), 0, 0), (.putfield 46, (4, 10, 0, 0, 0), 0, 0), (.aload_n 0, (0, 0, 0, 0, 0), 0, 0), (.iconst 0, (0, 0, 0, 0, 0), 0, 0), (.putfield 49, (4, 11, 0, 0, 0), 0, 0), (.aload_n 0, (0, 0, 0, 0, 0), 0, 0), (.iconst 0, (0, 0, 0, 0, 0), 0, 0), (.putfield 52, (4, 12, 0, 0, 0), 0, 0), (.aload_n 0, (0, 0, 0, 0, 0), 0, 0), (.iconst 0, (0, 0, 0, 0, 0), 0, 0), (.putfield 55, (4, 13, 0, 0, 0), 0, 0), (.aload_n 0, (0, 0, 0, 0, 0), 0, 0), (.iconst (-1), (0, 0, 0, 0, 0), -1, 0), (.putfield 58, (4, 14, 0, 0, 0), 0, 0), (.aload_n 0, (0, 0, 0, 0, 0), 0, 0), (.iconst (-1), (0, 0, 0, 0, 0), -1, 0), (.putfield 61, (4, 15, 0, 0, 0), 0, 0), (.aload_n 0, (0, 0, 0, 0, 0), 0, 0), (.aload_n 1, (0, 0, 0, 0, 0), 0, 0)] = some 102 ∧ List.all [(.aload_n 0, (0, 0, 0, 0, 0), 0, 0), (.iconst 0, (0, 0, 0, 0, 0), 0, 0), (.putfield 34, (4, 7, 0, 0, 0), 0, 0), (.aload_n 0, (0, 0, 0, 0, 0), 0, 0), (.iconst (-1), (0, 0, 0, 0, 0), -1, 0), (.putfield 38, (4, 8, 0, 0, 0), 0, 0), (.aload_n 0, (0, 0, 0, 0, 0), 0, 0), (.iconst (-1), (0, 0, 0, 0, 0), -1, 0), (.putfield 41, (4, 9, 0, 0, 0), 0, 0), (.aload_n 0, (0, 0, 0, 0, 0), 0, 0), (.iconst 0, (0, 0, 0, 0, 0), 0, 0), (.putfield 46, (4, 10, 0, 0, 0), 0, 0), (.aload_n 0, (0, 0, 0, 0, 0), 0, 0), (.iconst 0, (0, 0, 0, 0, 0), 0, 0), (.putfield 49, (4, 11, 0, 0, 0), 0, 0), (.aload_n 0, (0, 0, 0, 0, 0), 0, 0), (.iconst 0, (0, 0, 0, 0, 0), 0, 0), (.putfield 52, (4, 12, 0, 0, 0), 0, 0), (.aload_n 0, (0, 0, 0, 0, 0), 0, 0), (.iconst 0, (0, 0, 0, 0, 0), 0, 0), (.putfield 55, (4, 13, 0, 0, 0), 0, 0), (.aload_n 0, (0, 0, 0, 0, 0), 0, 0), (.iconst (-1), (0, 0, 0, 0, 0), -1, 0), (.putfield 58, (4, 14, 0, 0, 0), 0, 0), (.aload_n 0, (0, 0, 0, 0, 0), 0, 0), (.iconst (-1), (0, 0, 0, 0, 0), -1, 0), (.putfield 61, (4, 15, 0, 0, 0), 0, 0), (.aload_n 0, (0, 0, 0, 0, 0), 0, 0), (.aload_n 1, (0, 0, 0, 0, 0), 0, 0)] (fun x => !px_us x) = true) := by decide +kernel
theorem q_X4_init_105 : (px_bk 4 2 cX4_init 105 [] = some 105 ∧ List.all [] (fun x => !px_us x) = true) ∧ px_tr cX4_init 105 .return_ = true := by decide +kernel
set_option maxRecDepth 100000 in
theorem mk_X4 {I : px_I} {L : px_L} {R : px_R} (hb : bOk 76 I L R) : px_K M_X4_init [.ref 76, .ref 70] 77 (px_w I 76 (fun _ => 0)) (px_w L 76 (fun _ => 0)) (px_w R 76 (fun _ => none)) (fun r n2 I2 L2 R2 => r = none ∧ n2 = 85 ∧ I2 = I ∧ L2 = L ∧ R2 = R) := by
  have hb1 : bOk 77 I L R := hb.le (by decide)
  have hb78 : bOk 78 I L R := hb.le (by decide)
  have hb79 : bOk 79 I L R := hb.le (by decide)
  have hb80 : bOk 80 I L R := hb.le (by decide)
  have hb81 : bOk 81 I L R := hb.le (by decide)
  have hb82 : bOk 82 I L R := hb.le (by decide)
  have hb83 : bOk 83 I L R := hb.le (by decide)
  have hb84 : bOk 84 I L R := hb.le (by decide)
  have hb85 : bOk 85 I L R := hb.le (by decide)
  refine px_of (plainFor_of_name np_RX4) (fun _ _ _ => trivial) rfl ?_
  refine px_bc rfl q_X4_init_0 rfl trivial ?_
  refine px_oI (by decide +kernel) (px_i1 187 rfl rfl) (px_i1 25 rfl rfl) (px_i1 26 rfl rfl) rfl rfl ?_
  refine px_bc rfl q_X4_init_4 rfl trivial ?_
  refine px_nO (idx := 9) (ci := 10) (nf := 4) (by decide +kernel) (by decide) rfl rfl rfl rfl ?_
  refine px_bc rfl q_X4_init_8 rfl trivial ?_
  refine px_kIN q_X4_init_9K lk_4_11 nm_X10_init (mk_way77 (by repeat (first | with_reducible assumption | refine bOk.uI ?_ (by decide) | refine bOk.uR ?_ (by decide) | refine bOk.wI ?_ (by decide) | refine bOk.wR ?_ (by decide) | refine bOk.wL ?_ (by decide) | refine bOk.uL ?_ (by decide)))) rfl rfl rfl ?_
  rintro _ _ _ _ _ ⟨rfl, rfl, rfl, rfl, rfl⟩
  refine px_pF (on := 4) (ci := 4) (kf := 1) (idx := 12) rfl (by decide +kernel) (by decide) ⟨by decide, by decide, rfl⟩ rfl (Or.inl ⟨_, rfl⟩) (by first | exact Or.inl rfl | exact Or.inr ⟨rfl, rfl, rfl⟩) ?_
  refine px_bc rfl q_X4_init_15 rfl trivial ?_
  refine px_nA3 (t0 := 0) (N := 9) (by decide +kernel) (Or.inl ⟨rfl, rfl, rfl⟩) rfl rfl rfl rfl (by repeat (first | with_reducible assumption | refine bOk.uI ?_ (by decide) | refine bOk.uR ?_ (by decide) | refine bOk.wI ?_ (by decide) | refine bOk.wR ?_ (by decide) | refine bOk.wL ?_ (by decide) | refine bOk.uL ?_ (by decide))) rfl rfl ?_
  refine px_pF (on := 4) (ci := 4) (kf := 2) (idx := 18) rfl (by decide +kernel) (by decide) ⟨by decide, by decide, rfl⟩ rfl (Or.inr ⟨_, rfl⟩) (by first | exact Or.inl rfl | exact Or.inr ⟨rfl, rfl, rfl⟩) ?_
  refine px_bc rfl q_X4_init_23 rfl trivial ?_
  refine px_nA3 (t0 := 0) (N := 9) (by decide +kernel) (Or.inl ⟨rfl, rfl, rfl⟩) rfl rfl rfl rfl (by repeat (first | with_reducible assumption | refine bOk.uI ?_ (by decide) | refine bOk.uR ?_ (by decide) | refine bOk.wI ?_ (by decide) | refine bOk.wR ?_ (by decide) | refine bOk.wL ?_ (by decide) | refine bOk.uL ?_ (by decide))) rfl rfl ?_
  refine px_pF (on := 4) (ci := 4) (kf := 3) (idx := 22) rfl (by decide +kernel) (by decide) ⟨by decide, by decide, rfl⟩ rfl (Or.inr ⟨_, rfl⟩) (by first | exact Or.inl rfl | exact Or.inr ⟨rfl, rfl, rfl⟩) ?_
  refine px_bc rfl q_X4_init_31 rfl trivial ?_
  refine px_nA3 (t0 := 0) (N := 9) (by decide +kernel) (Or.inl ⟨rfl, rfl, rfl⟩) rfl rfl rfl rfl (by repeat (first | with_reducible assumption | refine bOk.uI ?_ (by decide) | refine bOk.uR ?_ (by decide) | refine bOk.wI ?_ (by decide) | refine bOk.wR ?_ (by decide) | refine bOk.wL ?_ (by decide) | refine bOk.uL ?_ (by decide))) rfl rfl ?_
  refine px_pF (on := 4) (ci := 4) (kf := 4) (idx := 25) rfl (by decide +kernel) (by decide) ⟨by decide, by decide, rfl⟩ rfl (Or.inr ⟨_, rfl⟩) (by first | exact Or.inl rfl | exact Or.inr ⟨rfl, rfl, rfl⟩) ?_
  refine px_bc rfl q_X4_init_39 rfl trivial ?_
  refine px_nA3 (t0 := 0) (N := 8) (by decide +kernel) (Or.inl ⟨rfl, rfl, rfl⟩) rfl rfl rfl rfl (by repeat (first | with_reducible assumption | refine bOk.uI ?_ (by decide) | refine bOk.uR ?_ (by decide) | refine bOk.wI ?_ (by decide) | refine bOk.wR ?_ (by decide) | refine bOk.wL ?_ (by decide) | refine bOk.uL ?_ (by decide))) rfl rfl ?_
  refine px_pF (on := 4) (ci := 4) (kf := 5) (idx := 28) rfl (by decide +kernel) (by decide) ⟨by decide, by decide, rfl⟩ rfl (Or.inr ⟨_, rfl⟩) (by first | exact Or.inl rfl | exact Or.inr ⟨rfl, rfl, rfl⟩) ?_
  refine px_bc rfl q_X4_init_47 rfl trivial ?_
  refine px_nA3 (t0 := 0) (N := 8) (by decide +kernel) (Or.inl ⟨rfl, rfl, rfl⟩) rfl rfl rfl rfl (by repeat (first | with_reducible assumption | refine bOk.uI ?_ (by decide) | refine bOk.uR ?_ (by decide) | refine bOk.wI ?_ (by decide) | refine bOk.wR ?_ (by decide) | refine bOk.wL ?_ (by decide) | refine bOk.uL ?_ (by decide))) rfl rfl ?_
  refine px_pF (on := 4) (ci := 4) (kf := 6) (idx := 31) rfl (by decide +kernel) (by decide) ⟨by decide, by decide, rfl⟩ rfl (Or.inr ⟨_, rfl⟩) (by first | exact Or.inl rfl | exact Or.inr ⟨rfl, rfl, rfl⟩) ?_
  refine px_bc rfl q_X4_init_55 rfl trivial ?_
  refine px_pF (on := 4) (ci := 4) (kf := 0) (idx := 64) rfl (by decide +kernel) (by decide) ⟨by decide, by decide, rfl⟩ rfl (Or.inl ⟨_, rfl⟩) (by first | exact Or.inl rfl | exact Or.inr ⟨rfl, rfl, rfl⟩) ?_
  refine px_rvc rfl q_X4_init_105 rfl rfl rfl rfl trivial ⟨rfl, rfl, ?_, ?_, ?_⟩
  · funext b k
    by_cases h76 : b = 76
    · subst h76; rw [(hb 76 (by decide)).1]; simp only [px_ur, px_wr, px_I0]; grind
    simp only [px_ur, px_wr]; grind
  · funext b k
    by_cases h76 : b = 76
    · subst h76; rw [(hb 76 (by decide)).2.1]; simp only [px_ur, px_wr, px_L0]; grind
    simp only [px_ur, px_wr]; grind
  · funext b k
    by_cases h76 : b = 76
    · subst h76; rw [(hb 76 (by decide)).2.2]; simp only [px_ur, px_wr, px_R0]; grind
    simp only [px_ur, px_wr]; grind

theorem q_X9_init_0 : (px_bk 9 1 cX9_init 0 [(.aload_n 0, (0, 0, 0, 0, 0), 0, 0)] = some 1 ∧ List.all [(.aload_n 0, (0, 0, 0, 0, 0), 0, 0)] (fun x => !px_us x) = true) := by decide +kernel
theorem q_X9_init_4 : (px_bk 9 1 cX9_init 4 [(.aload_n 0, (0, 0, 0, 0, 0), 0, 0), (.bipush 80, (0, 0, 0, 0, 0), 80, 0)] = some 7 ∧ List.all [(.aload_n 0, (0, 0, 0, 0, 0), 0, 0), (.bipush 80, (0, 0, 0, 0, 0), 80, 0)] (fun x => !px_us x) = true) := by decide +kernel
theorem q_X9_init_12 : (px_bk 9 1 cX9_init 12 [(.aload_n 0, (0, 0, 0, 0, 0), 0, 0), (.bipush 80, (0, 0, 0, 0, 0), 80, 0)] = some 15 ∧ List.all [(.aload_n 0, (0, 0, 0, 0, 0), 0, 0), (.bipush 80, (0, 0, 0, 0, 0), 80, 0)] (fun x => !px_us x) = true) := by decide +kernel
theorem q_X9_init_20 : (px_bk 9 1 cX9_init 20 [(.aload_n 0, (0, 0, 0, 0, 0), 0, 0), (.iconst 0, (0, 0, 0, 0, 0), 0, 0), (.putfield 16, (9, 2, 0, 0, 0), 0, 0), (.aload_n 0, (0, 0, 0, 0, 0), 0, 0), (.iconst 5, (0, 0, 0, 0, 0), 5, 0), (.putfield 20, (9, 3, 0, 0, 0), 0, 0), (.aload_n 0, (0, 0, 0, 0, 0), 0, 0), (.iconst 3, (0, 0, 0, 0, 0), 3, 0), (.putfield 23, (9, 4, 0, 0, 0), 0, 0), (.aload_n 0, (0, 0, 0, 0, 0), 0, 0), (.bipush 10, (0, 0, 0, 0, 0), 10, 0), (.putfield 26, (9, 5, 0, 0, 0), 0, 0), (.aload_n 0, (0, 0, 0, 0, 0), 0, 0), (.bipush 50, (0, 0, 0, 0, 0), 50, 0), (.putfield 29, (9, 6, 0, 0, 0), 0, 0), (.aload_n 0, (0, 0, 0, 0, 0), 0, 0), (.iconst 4, (0, 0, 0, 0, 0), 4, 0), (.putfield 32, (9, 7, 0, 0, 0), 0, 0), (.aload_n 0, (0, 0, 0, 0, 0), 0, 0), (.lconst 0, (0, 0, 0, 0, 0), 0, 0), (.putfield 35, (9, 8, 1, 0, 0), 0, 0), (.aload_n 0, (0, 0, 0, 0, 0), 0, 0), (.lconst 0, (0, 0, 0, 0, 0), 0, 0), (.putfield 39, (9, 9, 1, 0, 0), 0, 0), (.aload_n 0, (0, 0, 0, 0, 0), 0, 0), (.lconst 0, (0, 0, 0, 0, 0), 0, 0), (.putfield 42, (9, 10, 1, 0, 0), 0, 0), (.aload_n 0, (0, 0, 0, 0, 0), 0, 0), (.lconst 0, (0, 0, 0, 0, 0), 0, 0), (.putfield 45, (9, 11, 1, 0, 0), 0, 0), (.aload_n 0, (0, 0, 0, 0, 0), 0, 0), (.lconst 0, (0, 0, 0, 0, 0), 0, 0), (.putfield 48, (9, 12, 1, 0, 0), 0, 0), (.aload_n 0, (0, 0, 0, 0, 0), 0, 0), (.lconst 0, (0, 0, 0, 0, 0), 0, 0), (.putfield 51, (9, 13, 1, 0, 0), 0, 0), (.aload_n 0, (0, 0, 0, 0, 0), 0, 0), (.lconst 0, (0, 0, 0, 0, 0), 0, 0), (.putfield 54, (9, 14, 1, 0, 0), 0, 0), (.aload_n 0, (0, 0, 0, 0, 0), 0, 0), (.iconst 0, (0, 0, 0, 0, 0), 0, 0), (.putfield 57, (9, 15, 0, 0, 0), 0, 0), (.aload_n 0, (0, 0, 0, 0, 0), 0, 0), (.iconst 0, (0, 0, 0, 0, 0), 0, 0), (.putfield 60, (9, 16, 0, 0, 0), 0, 0), (.aload_n 0, (0, 0, 0, 0, 0), 0, 0), (.iconst 0, (0, 0, 0, 0, 0), 0, 0), (.putfield 63, (9, 17, 2, 0, 0), 0, 0)] = some 102 ∧ List.all [(.aload_n 0, (0, 0, 0, 0, 0), 0, 0), (.iconst 0, (0, 0, 0, 0, 0), 0, 0), (.putfield 16, (9, 2, 0, 0, 0), 0, 0), (.aload_n 0, (0, 0, 0, 0, 0), 0, 0), (.iconst 5, (0, 0, 0, 0, 0), 5, 0), (.putfield 20, (9, 3, 0, 0, 0), 0, 0), (.aload_n 0, (0, 0, 0, 0, 0), 0, 0), (.iconst 3, (0, 0, 0, 0, 0), 3, 0), (.putfield 23, (9, 4, 0, 0, 0), 0, 0), (.aload_n 0, (0, 0, 0, 0, 0), 0, 0), (.bipush 10, (0, 0, 0, 0, 0), 10, 0), (.putfield 26, (9, 5, 0, 0, 0), 0, 0), (.aload_n 0, (0, 0, 0, 0, 0), 0, 0), (.bipush 50, (0, 0, 0, 0, 0), 50, 0), (.putfield 29, (9, 6, 0, 0, 0), 0, 0), (.aload_n 0, (0, 0, 0, 0, 0), 0, 0), (.iconst 4, (0, 0, 0, 0, 0), 4, 0), (.putfield 32, (9, 7, 0, 0, 0), 0, 0), (.aload_n 0, (0, 0, 0, 0, 0), 0, 0), (.lconst 0, (0, 0, 0, 0, 0), 0, 0), (.putfield 35, (9, 8, 1, 0, 0), 0, 0), (.aload_n 0, (0, 0, 0, 0, 0), 0, 0), (.lconst 0, (0, 0, 0, 0, 0), 0, 0), (.putfield 39, (9, 9, 1, 0, 0), 0, 0), (.aload_n 0, (0, 0, 0, 0, 0), 0, 0), (.lconst 0, (0, 0, 0, 0, 0), 0, 0), (.putfield 42, (9, 10, 1, 0, 0), 0, 0), (.aload_n 0, (0, 0, 0, 0, 0), 0, 0), (.lconst 0, (0, 0, 0, 0, 0), 0, 0), (.putfield 45, (9, 11, 1, 0, 0), 0, 0), (.aload_n 0, (0, 0, 0, 0, 0), 0, 0), (.lconst 0, (0, 0, 0, 0, 0), 0, 0), (.putfield 48, (9, 12, 1, 0, 0), 0, 0), (.aload_n 0, (0, 0, 0, 0, 0), 0, 0), (.lconst 0, (0, 0, 0, 0, 0), 0, 0), (.putfield 51, (9, 13, 1, 0, 0), 0, 0), (.aload_n 0, (0, 0, 0, 0, 0), 0, 0), (.lconst 0, (0, 0, 0, 0, 0), 0, 0), (.putfield 54, (9, 14, 1, 0, 0), 0, 0), (.aload_n 0, (0, 0, 0, 0, 0), 0, 0), (.iconst 0, (0, 0, 0, 0, 0), 0, 0), (.putfield 57, (9, 15, 0, 0, 0), 0, 0), (.aload_n 0, (0, 0, 0, 0, 0), 0, 0), (.iconst 0, (0, 0, 0, 0, 0), 0, 0), (.putfield 60, (9, 16, 0, 0, 0), 0, 0), (.aload_n 0, (0, 0, 0, 0, 0), 0, 0), (.iconst 0, (0, 0, 0, 0, 0), 0, 0), (.putfield 63, (9, 17, 2, 0, 0), 0, 0)] (fun x => !px_us x) = true) ∧ px_tr cX9_init 102 .return_ = true := by decide +kernel
set_option maxRecDepth 100000 in
theorem mk_X9 {I : px_I} {L : px_L} {R : px_R} (hb : bOk 86 I L R) : px_K M_X9_init [.ref 86] 87 (px_w I 86 (fun _ => 0)) (px_w L 86 (fun _ => 0)) (px_w R 86 (fun _ => none)) (fun r n2 I2 L2 R2 => r = none ∧ n2 = 89 ∧ I2 = I ∧ L2 = L ∧ R2 = R) := by
  have hb1 : bOk 87 I L R := hb.le (by decide)
  have hb88 : bOk 88 I L R := hb.le (by decide)
  have hb89 : bOk 89 I L R := hb.le (by decide)
  refine px_of (plainFor_of_name np_RX9) (fun _ _ _ => trivial) rfl ?_
  refine px_bc rfl q_X9_init_0 rfl trivial ?_
  refine px_oI (by decide +kernel) (px_i2 38 rfl rfl) (px_i1 25 rfl rfl) (px_i1 26 rfl rfl) rfl rfl ?_
  refine px_bc rfl q_X9_init_4 rfl trivial ?_
  refine px_nA3 (t0 := 0) (N := 80) (by decide +kernel) (Or.inl ⟨rfl, rfl, rfl⟩) rfl rfl rfl rfl (by repeat (first | with_reducible assumption | refine bOk.uI ?_ (by decide) | refine bOk.uR ?_ (by decide) | refine bOk.wI ?_ (by decide) | refine bOk.wR ?_ (by decide) | refine bOk.wL ?_ (by decide) | refine bOk.uL ?_ (by decide))) rfl rfl ?_
  refine px_pF (on := 9) (ci := 9) (kf := 0) (idx := 9) rfl (by decide +kernel) (by decide) ⟨by decide, by decide, rfl⟩ rfl (Or.inr ⟨_, rfl⟩) (by first | exact Or.inl rfl | exact Or.inr ⟨rfl, rfl, rfl⟩) ?_
  refine px_bc rfl q_X9_init_12 rfl trivial ?_
  refine px_nA3 (t0 := 0) (N := 80) (by decide +kernel) (Or.inl ⟨rfl, rfl, rfl⟩) rfl rfl rfl rfl (by repeat (first | with_reducible assumption | refine bOk.uI ?_ (by decide) | refine bOk.uR ?_ (by decide) | refine bOk.wI ?_ (by decide) | refine bOk.wR ?_ (by decide) | refine bOk.wL ?_ (by decide) | refine bOk.uL ?_ (by decide))) rfl rfl ?_
  refine px_pF (on := 9) (ci := 9) (kf := 1) (idx := 13) rfl (by decide +kernel) (by decide) ⟨by decide, by decide, rfl⟩ rfl (Or.inr ⟨_, rfl⟩) (by first | exact Or.inl rfl | exact Or.inr ⟨rfl, rfl, rfl⟩) ?_
  refine px_rvc rfl q_X9_init_20 rfl rfl rfl rfl ⟨trivial, (by first | decide | exact Or.inl rfl | exact ⟨by decide, by decide, rfl⟩ | (refine ⟨?_, ?_⟩ <;> decide))⟩ ⟨rfl, rfl, ?_, ?_, ?_⟩
  · funext b k
    by_cases h86 : b = 86
    · subst h86; rw [(hb 86 (by decide)).1]; simp only [px_ur, px_wr, px_I0]; grind
    simp only [px_ur, px_wr]; grind
  · funext b k
    by_cases h86 : b = 86
    · subst h86; rw [(hb 86 (by decide)).2.1]; simp only [px_ur, px_wr, px_L0]; grind
    simp only [px_ur, px_wr]; grind
  · funext b k
    by_cases h86 : b = 86
    · subst h86; rw [(hb 86 (by decide)).2.2]; simp only [px_ur, px_wr, px_R0]; grind
    simp only [px_ur, px_wr]; grind

theorem q_X5_init_0 : (px_bk 5 1 cX5_init 0 [(.aload_n 0, (0, 0, 0, 0, 0), 0, 0)] = some 1 ∧ List.all [(.aload_n 0, (0, 0, 0, 0, 0), 0, 0)] (fun x => !px_us x) = true) := by decide +kernel
theorem q_X5_init_4 : (px_bk 5 1 cX5_init 4 [(.aload_n 0, (0, 0, 0, 0, 0), 0, 0)] = some 5 ∧ List.all [(.aload_n 0, (0, 0, 0, 0, 0), 0, 0)] (fun x => !px_us x) = true) := by decide +kernel
theorem q_X5_init_8 : (px_bk 5 1 cX5_init 8 [(.dup, (0, 0, 0, 0, 0), 0, 0)] = some 9 ∧ List.all [(.dup, (0, 0, 0, 0, 0), 0, 0)] (fun x => !px_us x) = true) := by decide +kernel
theorem q_X5_init_9K : px_tI cX5_init 9 11 = true := by decide +kernel
theorem q_X5_init_15 : (px_bk 5 1 cX5_init 15 [(.aload_n 0, (0, 0, 0, 0, 0), 0, 0), (.bipush 6, (0, 0, 0, 0, 0), 6, 0)] = some 18 ∧ List.all [(.aload_n 0, (0, 0, 0, 0, 0), 0, 0), (.bipush 6, (0, 0, 0, 0, 0), 6, 0)] (fun x => !px_us x) = true) := by decide +kernel
theorem q_X5_init_24 : (px_bk 5 1 cX5_init 24 [(.aload_n 0, (0, 0, 0, 0, 0), 0, 0), (.bipush 96, (0, 0, 0, 0, 0), 96, 0)] = some 27 ∧ List.all [(.aload_n 0, (0, 0, 0, 0, 0), 0, 0), (.bipush 96, (0, 0, 0, 0, 0), 96, 0)] (fun x => !px_us x) = true) := by decide +kernel
theorem q_X5_init_32 : (px_bk 5 1 cX5_init 32 [(.aload_n 0, (0, 0, 0, 0, 0), 0, 0), (.sipush 864, (0, 0, 0, 0, 0), 864, 0)] = some 36 ∧ List.all [(.aload_n 0, (0, 0, 0, 0, 0), 0, 0), (.sipush 864, (0, 0, 0, 0, 0), 864, 0)] (fun x => !px_us x) = true) := by decide +kernel
theorem q_X5_init_41 : (px_bk 5 1 cX5_init 41 [] = some 41 ∧ List.all [] (fun x => !px_us x) = true) ∧ px_tr cX5_init 41 .return_ = true := by decide +kernel
set_option maxRecDepth 100000 in
theorem mk_X5 {I : px_I} {L : px_L} {R : px_R} (hb : bOk 85 I L R) : px_K M_X5_init [.ref 85] 86 (px_w I 85 (fun _ => 0)) (px_w L 85 (fun _ => 0)) (px_w R 85 (fun _ => none)) (fun r n2 I2 L2 R2 => r = none ∧ n2 = 92 ∧ I2 = I ∧ L2 = L ∧ R2 = R) := by
  have hb1 : bOk 86 I L R := hb.le (by decide)
  have hb87 : bOk 87 I L R := hb.le (by decide)
  have hb88 : bOk 88 I L R := hb.le (by decide)
  have hb89 : bOk 89 I L R := hb.le (by decide)
  have hb90 : bOk 90 I L R := hb.le (by decide)
  have hb91 : bOk 91 I L R := hb.le (by decide)
  have hb92 : bOk 92 I L R := hb.le (by decide)
  refine px_of (plainFor_of_name np_RX5) (fun _ _ _ => trivial) rfl ?_
  refine px_bc rfl q_X5_init_0 rfl trivial ?_
  refine px_oI (by decide +kernel) (px_i2 32 rfl rfl) (px_i1 25 rfl rfl) (px_i1 26 rfl rfl) rfl rfl ?_
  refine px_bc rfl q_X5_init_4 rfl trivial ?_
  refine px_nO (idx := 9) (ci := 9) (nf := 18) (by decide +kernel) (by decide) rfl rfl rfl rfl ?_
  refine px_bc rfl q_X5_init_8 rfl trivial ?_
  refine px_kIN q_X5_init_9K lk_5_11 nm_X9_init (mk_X9 (by repeat (first | with_reducible assumption | refine bOk.uI ?_ (by decide) | refine bOk.uR ?_ (by decide) | refine bOk.wI ?_ (by decide) | refine bOk.wR ?_ (by decide) | refine bOk.wL ?_ (by decide) | refine bOk.uL ?_ (by decide)))) rfl rfl rfl ?_
  rintro _ _ _ _ _ ⟨rfl, rfl, rfl, rfl, rfl⟩
  refine px_pF (on := 5) (ci := 5) (kf := 0) (idx := 12) rfl (by decide +kernel) (by decide) ⟨by decide, by decide, rfl⟩ rfl (Or.inl ⟨_, rfl⟩) (by first | exact Or.inl rfl | exact Or.inr ⟨rfl, rfl, rfl⟩) ?_
  refine px_bc rfl q_X5_init_15 rfl trivial ?_
  refine px_nR3 (idx := 18) (N := 6) (by decide +kernel) (by decide) rfl rfl rfl rfl rfl (by repeat (first | with_reducible assumption | refine bOk.uI ?_ (by decide) | refine bOk.uR ?_ (by decide) | refine bOk.wI ?_ (by decide) | refine bOk.wR ?_ (by decide) | refine bOk.wL ?_ (by decide) | refine bOk.uL ?_ (by decide))) rfl rfl ?_
  refine px_pF (on := 5) (ci := 5) (kf := 1) (idx := 20) rfl (by decide +kernel) (by decide) ⟨by decide, by decide, rfl⟩ rfl (Or.inr ⟨_, rfl⟩) (by first | exact Or.inl rfl | exact Or.inr ⟨rfl, rfl, rfl⟩) ?_
  refine px_bc rfl q_X5_init_24 rfl trivial ?_
  refine px_nA3 (t0 := 3) (N := 96) (by decide +kernel) (Or.inr (Or.inr (Or.inr ⟨rfl, rfl, rfl⟩))) rfl rfl rfl rfl (by repeat (first | with_reducible assumption | refine bOk.uI ?_ (by decide) | refine bOk.uR ?_ (by decide) | refine bOk.wI ?_ (by decide) | refine bOk.wR ?_ (by decide) | refine bOk.wL ?_ (by decide) | refine bOk.uL ?_ (by decide))) rfl rfl ?_
  refine px_pF (on := 5) (ci := 5) (kf := 2) (idx := 24) rfl (by decide +kernel) (by decide) ⟨by decide, by decide, rfl⟩ rfl (Or.inr ⟨_, rfl⟩) (by first | exact Or.inl rfl | exact Or.inr ⟨rfl, rfl, rfl⟩) ?_
  refine px_bc rfl q_X5_init_32 rfl trivial ?_
  refine px_nA3 (t0 := 0) (N := 864) (by decide +kernel) (Or.inl ⟨rfl, rfl, rfl⟩) rfl rfl rfl rfl (by repeat (first | with_reducible assumption | refine bOk.uI ?_ (by decide) | refine bOk.uR ?_ (by decide) | refine bOk.wI ?_ (by decide) | refine bOk.wR ?_ (by decide) | refine bOk.wL ?_ (by decide) | refine bOk.uL ?_ (by decide))) rfl rfl ?_
  refine px_pF (on := 5) (ci := 5) (kf := 3) (idx := 28) rfl (by decide +kernel) (by decide) ⟨by decide, by decide, rfl⟩ rfl (Or.inr ⟨_, rfl⟩) (by first | exact Or.inl rfl | exact Or.inr ⟨rfl, rfl, rfl⟩) ?_
  refine px_rvc rfl q_X5_init_41 rfl rfl rfl rfl trivial ⟨rfl, rfl, ?_, ?_, ?_⟩
  · funext b k
    by_cases h85 : b = 85
    · subst h85; rw [(hb 85 (by decide)).1]; simp only [px_ur, px_wr, px_I0]; grind
    simp only [px_ur, px_wr]; grind
  · funext b k
    by_cases h85 : b = 85
    · subst h85; rw [(hb 85 (by decide)).2.1]; simp only [px_ur, px_wr, px_L0]; grind
    simp only [px_ur, px_wr]; grind
  · funext b k
    by_cases h85 : b = 85
    · subst h85; rw [(hb 85 (by decide)).2.2]; simp only [px_ur, px_wr, px_R0]; grind
    simp only [px_ur, px_wr]; grind

theorem q_X3_init_0 : (px_bk 3 3 cX3_init 0 [(.aload_n 0, (0, 0, 0, 0, 0), 0, 0)] = some 1 ∧ List.all [(.aload_n 0, (0, 0, 0, 0, 0), 0, 0)] (fun x => !px_us x) = true) := by decide +kernel
theorem q_X3_init_4 : (px_bk 3 3 cX3_init 4 [(.aload_n 0, (0, 0, 0, 0, 0), 0, 0), (.iconst 3, (0, 0, 0, 0, 0), 3, 0)] = some 6 ∧ List.all [(.aload_n 0, (0, 0, 0, 0, 0), 0, 0), (.iconst 3, (0, 0, 0, 0, 0), 3, 0)] (fun x => !px_us x) = true) := by decide +kernel
theorem q_X3_init_11 : (px_bk 3 3 cX3_init 11 [(.aload_n 0, (0, 0, 0, 0, 0), 0, 0), (.iconst 3, (0, 0, 0, 0, 0), 3, 0)] = some 13 ∧ List.all [(.aload_n 0, (0, 0, 0, 0, 0), 0, 0), (.iconst 3, (0, 0, 0, 0, 0), 3, 0)] (fun x => !px_us x) = true) := by decide +kernel
theorem q_X3_init_18 : (px_bk 3 3 cX3_init 18 [(.aload_n 0, (0, 0, 0, 0, 0), 0, 0), (.iconst 3, (0, 0, 0, 0, 0), 3, 0)] = some 20 ∧ List.all [(.aload_n 0, (0, 0, 0, 0, 0), 0, 0), (.iconst 3, (0, 0, 0, 0, 0), 3, 0)] (fun x => !px_us x) = true) := by decide +kernel
theorem q_X3_init_25 : (px_bk 3 3 cX3_init 25 [(.aload_n 0, (0, 0, 0, 0, 0), 0, 0), (.iconst 3, (0, 0, 0, 0, 0), 3, 0)] = some 27 ∧ List.all [(.aload_n 0, (0, 0, 0, 0, 0), 0, 0), (.iconst 3, (0, 0, 0, 0, 0), 3, 0)] (fun x => !px_us x) = true) := by decide +kernel
theorem q_X3_init_32 : (px_bk 3 3 cX3_init 32 [(.aload_n 0, (0, 0, 0, 0, 0), 0, 0), (.aload_n 1, (0, 0, 0, 0, 0), 0, 0)] = some 34 ∧ List.all [(.aload_n 0, (0, 0, 0, 0, 0), 0, 0), (.aload_n 1, (0, 0, 0, 0, 0), 0, 0)] (fun x => !px_us x) = true) := by decide +kernel
theorem q_X3_init_37 : (px_bk 3 3 cX3_init 37 [(.aload_n 0, (0, 0, 0, 0, 0), 0, 0), (.aload_n 2, (0, 0, 0, 0, 0), 0, 0)] = some 39 ∧ List.all [(.aload_n 0, (0, 0, 0, 0, 0), 0, 0), (.aload_n 2, (0, 0, 0, 0, 0), 0, 0)] (fun x => !px_us x) = true) := by decide +kernel
theorem q_X3_init_42 : (px_bk 3 3 cX3_init 42 [] = some 42 ∧ List.all [] (fun x => !px_us x) = true) ∧ px_tr cX3_init 42 .return_ = true := by decide +kernel
set_option maxRecDepth 100000 in
theorem mk_X3 {I : px_I} {L : px_L} {R : px_R} (hb : bOk 92 I L R) : px_K M_X3_init [.ref 92, .ref 33, .ref 85] 93 (px_w I 92 (fun _ => 0)) (px_w L 92 (fun _ => 0)) (px_w R 92 (fun _ => none)) (fun r n2 I2 L2 R2 => r = none ∧ n2 = 97 ∧ I2 = I ∧ L2 = L ∧ R2 = R) := by
  have hb1 : bOk 93 I L R := hb.le (by decide)
  have hb94 : bOk 94 I L R := hb.le (by decide)
  have hb95 : bOk 95 I L R := hb.le (by decide)
  have hb96 : bOk 96 I L R := hb.le (by decide)
  have hb97 : bOk 97 I L R := hb.le (by decide)
  refine px_of (plainFor_of_name np_RX3) (fun _ _ _ => trivial) rfl ?_
  refine px_bc rfl q_X3_init_0 rfl trivial ?_
  refine px_oI (by decide +kernel) (px_i2 126 rfl rfl) (px_i1 25 rfl rfl) (px_i1 26 rfl rfl) rfl rfl ?_
  refine px_bc rfl q_X3_init_4 rfl trivial ?_
  refine px_nA3 (t0 := 0) (N := 3) (by decide +kernel) (Or.inl ⟨rfl, rfl, rfl⟩) rfl rfl rfl rfl (by repeat (first | with_reducible assumption | refine bOk.uI ?_ (by decide) | refine bOk.uR ?_ (by decide) | refine bOk.wI ?_ (by decide) | refine bOk.wR ?_ (by decide) | refine bOk.wL ?_ (by decide) | refine bOk.uL ?_ (by decide))) rfl rfl ?_
  refine px_pF (on := 3) (ci := 3) (kf := 2) (idx := 9) rfl (by decide +kernel) (by decide) ⟨by decide, by decide, rfl⟩ rfl (Or.inr ⟨_, rfl⟩) (by first | exact Or.inl rfl | exact Or.inr ⟨rfl, rfl, rfl⟩) ?_
  refine px_bc rfl q_X3_init_11 rfl trivial ?_
  refine px_nA3 (t0 := 0) (N := 3) (by decide +kernel) (Or.inl ⟨rfl, rfl, rfl⟩) rfl rfl rfl rfl (by repeat (first | with_reducible assumption | refine bOk.uI ?_ (by decide) | refine bOk.uR ?_ (by decide) | refine bOk.wI ?_ (by decide) | refine bOk.wR ?_ (by decide) | refine bOk.wL ?_ (by decide) | refine bOk.uL ?_ (by decide))) rfl rfl ?_
  refine px_pF (on := 3) (ci := 3) (kf := 3) (idx := 15) rfl (by decide +kernel) (by decide) ⟨by decide, by decide, rfl⟩ rfl (Or.inr ⟨_, rfl⟩) (by first | exact Or.inl rfl | exact Or.inr ⟨rfl, rfl, rfl⟩) ?_
  refine px_bc rfl q_X3_init_18 rfl trivial ?_
  refine px_nA3 (t0 := 0) (N := 3) (by decide +kernel) (Or.inl ⟨rfl, rfl, rfl⟩) rfl rfl rfl rfl (by repeat (first | with_reducible assumption | refine bOk.uI ?_ (by decide) | refine bOk.uR ?_ (by decide) | refine bOk.wI ?_ (by decide) | refine bOk.wR ?_ (by decide) | refine bOk.wL ?_ (by decide) | refine bOk.uL ?_ (by decide))) rfl rfl ?_
  refine px_pF (on := 3) (ci := 3) (kf := 4) (idx := 18) rfl (by decide +kernel) (by decide) ⟨by decide, by decide, rfl⟩ rfl (Or.inr ⟨_, rfl⟩) (by first | exact Or.inl rfl | exact Or.inr ⟨rfl, rfl, rfl⟩) ?_
  refine px_bc rfl q_X3_init_25 rfl trivial ?_
  refine px_nA3 (t0 := 0) (N := 3) (by decide +kernel) (Or.inl ⟨rfl, rfl, rfl⟩) rfl rfl rfl rfl (by repeat (first | with_reducible assumption | refine bOk.uI ?_ (by decide) | refine bOk.uR ?_ (by decide) | refine bOk.wI ?_ (by decide) | refine bOk.wR ?_ (by decide) | refine bOk.wL ?_ (by decide) | refine bOk.uL ?_ (by decide))) rfl rfl ?_
  refine px_pF (on := 3) (ci := 3) (kf := 5) (idx := 21) rfl (by decide +kernel) (by decide) ⟨by decide, by decide, rfl⟩ rfl (Or.inr ⟨_, rfl⟩) (by first | exact Or.inl rfl | exact Or.inr ⟨rfl, rfl, rfl⟩) ?_
  refine px_bc rfl q_X3_init_32 rfl trivial ?_
  refine px_pF (on := 3) (ci := 3) (kf := 0) (idx := 24) rfl (by decide +kernel) (by decide) ⟨by decide, by decide, rfl⟩ rfl (Or.inl ⟨_, rfl⟩) (by first | exact Or.inl rfl | exact Or.inr ⟨rfl, rfl, rfl⟩) ?_
  refine px_bc rfl q_X3_init_37 rfl trivial ?_
  refine px_pF (on := 3) (ci := 3) (kf := 1) (idx := 28) rfl (by decide +kernel) (by decide) ⟨by decide, by decide, rfl⟩ rfl (Or.inl ⟨_, rfl⟩) (by first | exact Or.inl rfl | exact Or.inr ⟨rfl, rfl, rfl⟩) ?_
  refine px_rvc rfl q_X3_init_42 rfl rfl rfl rfl trivial ⟨rfl, rfl, ?_, ?_, ?_⟩
  · funext b k
    by_cases h92 : b = 92
    · subst h92; rw [(hb 92 (by decide)).1]; simp only [px_ur, px_wr, px_I0]; grind
    simp only [px_ur, px_wr]; grind
  · funext b k
    by_cases h92 : b = 92
    · subst h92; rw [(hb 92 (by decide)).2.1]; simp only [px_ur, px_wr, px_L0]; grind
    simp only [px_ur, px_wr]; grind
  · funext b k
    by_cases h92 : b = 92
    · subst h92; rw [(hb 92 (by decide)).2.2]; simp only [px_ur, px_wr, px_R0]; grind
    simp only [px_ur, px_wr]; grind

theorem q_X6_init_0 : (px_bk 6 1 cX6_init 0 [(.aload_n 0, (0, 0, 0, 0, 0), 0, 0)] = some 1 ∧ List.all [(.aload_n 0, (0, 0, 0, 0, 0), 0, 0)] (fun x => !px_us x) = true) := by decide +kernel
theorem q_X6_init_4 : (px_bk 6 1 cX6_init 4 [(.aload_n 0, (0, 0, 0, 0, 0), 0, 0), (.iconst 3, (0, 0, 0, 0, 0), 3, 0)] = some 6 ∧ List.all [(.aload_n 0, (0, 0, 0, 0, 0), 0, 0), (.iconst 3, (0, 0, 0, 0, 0), 3, 0)] (fun x => !px_us x) = true) := by decide +kernel
theorem q_X6_init_8 : (px_bk 6 1 cX6_init 8 [(.dup, (0, 0, 0, 0, 0), 0, 0), (.iconst 0, (0, 0, 0, 0, 0), 0, 0), (.iconst 1, (0, 0, 0, 0, 0), 1, 0), (.iastore, (0, 0, 0, 0, 0), 0, 0), (.dup, (0, 0, 0, 0, 0), 0, 0), (.iconst 1, (0, 0, 0, 0, 0), 1, 0), (.iconst 1, (0, 0, 0, 0, 0), 1, 0), (.iastore, (0, 0, 0, 0, 0), 0, 0), (.dup, (0, 0, 0, 0, 0), 0, 0), (.iconst 2, (0, 0, 0, 0, 0), 2, 0), (.iconst 1, (0, 0, 0, 0, 0), 1, 0), (.iastore, (0, 0, 0, 0, 0), 0, 0)] = some 20 ∧ List.all [(.dup, (0, 0, 0, 0, 0), 0, 0), (.iconst 0, (0, 0, 0, 0, 0), 0, 0), (.iconst 1, (0, 0, 0, 0, 0), 1, 0), (.iastore, (0, 0, 0, 0, 0), 0, 0), (.dup, (0, 0, 0, 0, 0), 0, 0), (.iconst 1, (0, 0, 0, 0, 0), 1, 0), (.iconst 1, (0, 0, 0, 0, 0), 1, 0), (.iastore, (0, 0, 0, 0, 0), 0, 0), (.dup, (0, 0, 0, 0, 0), 0, 0), (.iconst 2, (0, 0, 0, 0, 0), 2, 0), (.iconst 1, (0, 0, 0, 0, 0), 1, 0), (.iastore, (0, 0, 0, 0, 0), 0, 0)] (fun x => !px_us x) = true) := by decide +kernel
theorem q_X6_init_23 : (px_bk 6 1 cX6_init 23 [(.aload_n 0, (0, 0, 0, 0, 0), 0, 0), (.bipush 123, (0, 0, 0, 0, 0), 123, 0)] = some 26 ∧ List.all [(.aload_n 0, (0, 0, 0, 0, 0), 0, 0), (.bipush 123, (0, 0, 0, 0, 0), 123, 0)] (fun x => !px_us x) = true) := by decide +kernel
theorem q_X6_init_31 : (px_bk 6 1 cX6_init 31 [(.aload_n 0, (0, 0, 0, 0, 0), 0, 0), (.bipush 123, (0, 0, 0, 0, 0), 123, 0)] = some 34 ∧ List.all [(.aload_n 0, (0, 0, 0, 0, 0), 0, 0), (.bipush 123, (0, 0, 0, 0, 0), 123, 0)] (fun x => !px_us x) = true) := by decide +kernel
theorem q_X6_init_39 : (px_bk 6 1 cX6_init 39 [(.aload_n 0, (0, 0, 0, 0, 0), 0, 0), (.iconst 0, (0, 0, 0, 0, 0), 0, 0), (.putfield 22, (6, 3, 0, 0, 0), 0, 0), (.aload_n 0, (0, 0, 0, 0, 0), 0, 0), (.iconst 0, (0, 0, 0, 0, 0), 0, 0), (.putfield 26, (6, 4, 0, 0, 0), 0, 0), (.aload_n 0, (0, 0, 0, 0, 0), 0, 0), (.iconst 0, (0, 0, 0, 0, 0), 0, 0), (.putfield 29, (6, 5, 0, 0, 0), 0, 0)] = some 54 ∧ List.all [(.aload_n 0, (0, 0, 0, 0, 0), 0, 0), (.iconst 0, (0, 0, 0, 0, 0), 0, 0), (.putfield 22, (6, 3, 0, 0, 0), 0, 0), (.aload_n 0, (0, 0, 0, 0, 0), 0, 0), (.iconst 0, (0, 0, 0, 0, 0), 0, 0), (.putfield 26, (6, 4, 0, 0, 0), 0, 0), (.aload_n 0, (0, 0, 0, 0, 0), 0, 0), (.iconst 0, (0, 0, 0, 0, 0), 0, 0), (.putfield 29, (6, 5, 0, 0, 0), 0, 0)] (fun x => !px_us x) = true) ∧ px_tr cX6_init 54 .return_ = true := by decide +kernel
set_option maxRecDepth 100000 in
theorem mk_X6 {I : px_I} {L : px_L} {R : px_R} (hb : bOk 97 I L R) : px_K M_X6_init [.ref 97] 98 (px_w I 97 (fun _ => 0)) (px_w L 97 (fun _ => 0)) (px_w R 97 (fun _ => none)) (fun r n2 I2 L2 R2 => r = none ∧ n2 = 101 ∧ I2 = I ∧ L2 = L ∧ R2 = R) := by
  have hb1 : bOk 98 I L R := hb.le (by decide)
  have hb99 : bOk 99 I L R := hb.le (by decide)
  have hb100 : bOk 100 I L R := hb.le (by decide)
  have hb101 : bOk 101 I L R := hb.le (by decide)
  refine px_of (plainFor_of_name np_RX6) (fun _ _ _ => trivial) rfl ?_
  refine px_bc rfl q_X6_init_0 rfl trivial ?_
  refine px_oI (by decide +kernel) (px_i2 151 rfl rfl) (px_i1 25 rfl rfl) (px_i1 26 rfl rfl) rfl rfl ?_
  refine px_bc rfl q_X6_init_4 rfl trivial ?_
  refine px_nA (t0 := 0) (N := 3) (by decide +kernel) (Or.inl ⟨rfl, rfl, rfl⟩) rfl rfl rfl rfl ?_
  refine px_bc rfl q_X6_init_8 rfl ⟨⟨⟨trivial, (by first | decide | exact Or.inl rfl | exact ⟨by decide, by decide, rfl⟩ | (refine ⟨?_, ?_⟩ <;> decide))⟩, (by first | decide | exact Or.inl rfl | exact ⟨by decide, by decide, rfl⟩ | (refine ⟨?_, ?_⟩ <;> decide))⟩, (by first | decide | exact Or.inl rfl | exact ⟨by decide, by decide, rfl⟩ | (refine ⟨?_, ?_⟩ <;> decide))⟩ ?_
  refine px_pF (on := 6) (ci := 6) (kf := 0) (idx := 11) rfl (by decide +kernel) (by decide) ⟨by decide, by decide, rfl⟩ rfl (Or.inr ⟨_, rfl⟩) (by first | exact Or.inl rfl | exact Or.inr ⟨rfl, rfl, rfl⟩) ?_
  refine px_bc rfl q_X6_init_23 rfl trivial ?_
  refine px_nA3 (t0 := 1) (N := 123) (by decide +kernel) (Or.inr (Or.inl ⟨rfl, rfl, rfl⟩)) rfl rfl rfl rfl (by repeat (first | with_reducible assumption | refine bOk.uI ?_ (by decide) | refine bOk.uR ?_ (by decide) | refine bOk.wI ?_ (by decide) | refine bOk.wR ?_ (by decide) | refine bOk.wL ?_ (by decide) | refine bOk.uL ?_ (by decide))) rfl rfl ?_
  refine px_pF (on := 6) (ci := 6) (kf := 1) (idx := 15) rfl (by decide +kernel) (by decide) ⟨by decide, by decide, rfl⟩ rfl (Or.inr ⟨_, rfl⟩) (by first | exact Or.inl rfl | exact Or.inr ⟨rfl, rfl, rfl⟩) ?_
  refine px_bc rfl q_X6_init_31 rfl trivial ?_
  refine px_nA3 (t0 := 1) (N := 123) (by decide +kernel) (Or.inr (Or.inl ⟨rfl, rfl, rfl⟩)) rfl rfl rfl rfl (by repeat (first | with_reducible assumption | refine bOk.uI ?_ (by decide) | refine bOk.uR ?_ (by decide) | refine bOk.wI ?_ (by decide) | refine bOk.wR ?_ (by decide) | refine bOk.wL ?_ (by decide) | refine bOk.uL ?_ (by decide))) rfl rfl ?_
  refine px_pF (on := 6) (ci := 6) (kf := 2) (idx := 19) rfl (by decide +kernel) (by decide) ⟨by decide, by decide, rfl⟩ rfl (Or.inr ⟨_, rfl⟩) (by first | exact Or.inl rfl | exact Or.inr ⟨rfl, rfl, rfl⟩) ?_
  refine px_rvc rfl q_X6_init_39 rfl rfl rfl rfl trivial ⟨rfl, rfl, ?_, ?_, ?_⟩
  · funext b k
    by_cases h97 : b = 97
    · subst h97; rw [(hb 97 (by decide)).1]; simp only [px_ur, px_wr, px_I0]; grind
    by_cases h98 : b = 98
    · subst h98; rw [(hb 98 (by decide)).1]; simp only [px_ur, px_wr, px_I0]; grind
    simp only [px_ur, px_wr]; grind
  · funext b k
    by_cases h97 : b = 97
    · subst h97; rw [(hb 97 (by decide)).2.1]; simp only [px_ur, px_wr, px_L0]; grind
    by_cases h98 : b = 98
    · subst h98; rw [(hb 98 (by decide)).2.1]; simp only [px_ur, px_wr, px_L0]; grind
    simp only [px_ur, px_wr]; grind
  · funext b k
    by_cases h97 : b = 97
    · subst h97; rw [(hb 97 (by decide)).2.2]; simp only [px_ur, px_wr, px_R0]; grind
    by_cases h98 : b = 98
    · subst h98; rw [(hb 98 (by decide)).2.2]; simp only [px_ur, px_wr, px_R0]; grind
    simp only [px_ur, px_wr]; grind
