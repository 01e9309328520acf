theorem q_X7_init_0 : (px_bk 7 1 cX7_init 0 [(.aload_n 0, (0, 0, 0, 0, 0), 0, 0)] = some 1 ∧ List.all [(.aload_n 0, (0, 0, 0, 0, 0), 0, 0)] (fun x => !px_us x) = true) := by decide +kernel
theorem q_X7_init_4 : (px_bk 7 1 cX7_init 4 [(.aload_n 0, (0, 0, 0, 0, 0), 0, 0), (.bipush 80, (0, 0, 0, 0, 0), 80, 0)] = some 7 ∧ List.all [(.aload_n 0, (0, 0, 0, 0, 0), 0, 0), (.bipush 80, (0, 0, 0, 0, 0), 80, 0)] (fun x => !px_us x) = true) := by decide +kernel
theorem q_X7_init_12 : (px_bk 7 1 cX7_init 12 [(.aload_n 0, (0, 0, 0, 0, 0), 0, 0), (.bipush 80, (0, 0, 0, 0, 0), 80, 0)] = some 15 ∧ List.all [(.aload_n 0, (0, 0, 0, 0, 0), 0, 0), (.bipush 80, (0, 0, 0, 0, 0), 80, 0)] (fun x => !px_us x) = true) := by decide +kernel
theorem q_X7_init_20 : (px_bk 7 1 cX7_init 20 [(.aload_n 0, (0, 0, 0, 0, 0), 0, 0), (.bipush 80, (0, 0, 0, 0, 0), 80, 0)] = some 23 ∧ List.all [(.aload_n 0, (0, 0, 0, 0, 0), 0, 0), (.bipush 80, (0, 0, 0, 0, 0), 80, 0)] (fun x => !px_us x) = true) := by decide +kernel
theorem q_X7_init_28 : (px_bk 7 1 cX7_init 28 [(.aload_n 0, (0, 0, 0, 0, 0), 0, 0), (.bipush 80, (0, 0, 0, 0, 0), 80, 0)] = some 31 ∧ List.all [(.aload_n 0, (0, 0, 0, 0, 0), 0, 0), (.bipush 80, (0, 0, 0, 0, 0), 80, 0)] (fun x => !px_us x) = true) := by decide +kernel
theorem q_X7_init_36 : (px_bk 7 1 cX7_init 36 [(.aload_n 0, (0, 0, 0, 0, 0), 0, 0), (.bipush 80, (0, 0, 0, 0, 0), 80, 0)] = some 39 ∧ List.all [(.aload_n 0, (0, 0, 0, 0, 0), 0, 0), (.bipush 80, (0, 0, 0, 0, 0), 80, 0)] (fun x => !px_us x) = true) := by decide +kernel
theorem q_X7_init_44 : (px_bk 7 1 cX7_init 44 [(.aload_n 0, (0, 0, 0, 0, 0), 0, 0), (.bipush 80, (0, 0, 0, 0, 0), 80, 0)] = some 47 ∧ List.all [(.aload_n 0, (0, 0, 0, 0, 0), 0, 0), (.bipush 80, (0, 0, 0, 0, 0), 80, 0)] (fun x => !px_us x) = true) := by decide +kernel
theorem q_X7_init_52 : (px_bk 7 1 cX7_init 52 [(.aload_n 0, (0, 0, 0, 0, 0), 0, 0), (.bipush 24, (0, 0, 0, 0, 0), 24, 0)] = some 55 ∧ List.all [(.aload_n 0, (0, 0, 0, 0, 0), 0, 0), (.bipush 24, (0, 0, 0, 0, 0), 24, 0)] (fun x => !px_us x) = true) := by decide +kernel
theorem q_X7_init_60 : (px_bk 7 1 cX7_init 60 [(.aload_n 0, (0, 0, 0, 0, 0), 0, 0), (.iconst 1, (0, 0, 0, 0, 0), 1, 0), (.putfield 34, (7, 7, 0, 0, 0), 0, 0), (.aload_n 0, (0, 0, 0, 0, 0), 0, 0), (.iconst 0, (0, 0, 0, 0, 0), 0, 0), (.putfield 38, (7, 8, 0, 0, 0), 0, 0)] = some 70 ∧ List.all [(.aload_n 0, (0, 0, 0, 0, 0), 0, 0), (.iconst 1, (0, 0, 0, 0, 0), 1, 0), (.putfield 34, (7, 7, 0, 0, 0), 0, 0), (.aload_n 0, (0, 0, 0, 0, 0), 0, 0), (.iconst 0, (0, 0, 0, 0, 0), 0, 0), (.putfield 38, (7, 8, 0, 0, 0), 0, 0)] (fun x => !px_us x) = true) ∧ px_tr cX7_init 70 .return_ = true := by decide +kernel
set_option maxRecDepth 100000 in
theorem mk_X7 {I : px_I} {L : px_L} {R : px_R} (hb : bOk 33 I L R) : px_K M_X7_init [.ref 33] 34 (px_w I 33 (fun _ => 0)) (px_w L 33 (fun _ => 0)) (px_w R 33 (fun _ => none)) (fun r n2 I2 L2 R2 => r = none ∧ n2 = 41 ∧ I2 = I ∧ L2 = L ∧ R2 = R) := by
  have hb1 : bOk 34 I L R := hb.le (by decide)
  have hb35 : bOk 35 I L R := hb.le (by decide)
  have hb36 : bOk 36 I L R := hb.le (by decide)
  have hb37 : bOk 37 I L R := hb.le (by decide)
  have hb38 : bOk 38 I L R := hb.le (by decide)
  have hb39 : bOk 39 I L R := hb.le (by decide)
  have hb40 : bOk 40 I L R := hb.le (by decide)
  have hb41 : bOk 41 I L R := hb.le (by decide)
  refine px_of (plainFor_of_name np_RX7) (fun _ _ _ => trivial) rfl ?_
  refine px_bc rfl q_X7_init_0 rfl trivial ?_
  refine px_oI (by decide +kernel) (px_i1 32 rfl rfl) (px_i1 25 rfl rfl) (px_i1 26 rfl rfl) rfl rfl ?_
  refine px_bc rfl q_X7_init_4 rfl trivial ?_
  refine px_nA3 (t0 := 0) (N := 80) (by decide +kernel) (Or.inl ⟨rfl, rfl, rfl⟩) rfl rfl rfl rfl (by repeat (first | with_reducible assumption | refine bOk.uI ?_ (by decide) | refine bOk.uR ?_ (by decide) | refine bOk.wI ?_ (by decide) | refine bOk.wR ?_ (by decide) | refine bOk.wL ?_ (by decide) | refine bOk.uL ?_ (by decide))) rfl rfl ?_
  refine px_pF (on := 7) (ci := 7) (kf := 0) (idx := 11) rfl (by decide +kernel) (by decide) ⟨by decide, by decide, rfl⟩ rfl (Or.inr ⟨_, rfl⟩) (by first | exact Or.inl rfl | exact Or.inr ⟨rfl, rfl, rfl⟩) ?_
  refine px_bc rfl q_X7_init_12 rfl trivial ?_
  refine px_nA3 (t0 := 0) (N := 80) (by decide +kernel) (Or.inl ⟨rfl, rfl, rfl⟩) rfl rfl rfl rfl (by repeat (first | with_reducible assumption | refine bOk.uI ?_ (by decide) | refine bOk.uR ?_ (by decide) | refine bOk.wI ?_ (by decide) | refine bOk.wR ?_ (by decide) | refine bOk.wL ?_ (by decide) | refine bOk.uL ?_ (by decide))) rfl rfl ?_
  refine px_pF (on := 7) (ci := 7) (kf := 1) (idx := 15) rfl (by decide +kernel) (by decide) ⟨by decide, by decide, rfl⟩ rfl (Or.inr ⟨_, rfl⟩) (by first | exact Or.inl rfl | exact Or.inr ⟨rfl, rfl, rfl⟩) ?_
  refine px_bc rfl q_X7_init_20 rfl trivial ?_
  refine px_nA3 (t0 := 0) (N := 80) (by decide +kernel) (Or.inl ⟨rfl, rfl, rfl⟩) rfl rfl rfl rfl (by repeat (first | with_reducible assumption | refine bOk.uI ?_ (by decide) | refine bOk.uR ?_ (by decide) | refine bOk.wI ?_ (by decide) | refine bOk.wR ?_ (by decide) | refine bOk.wL ?_ (by decide) | refine bOk.uL ?_ (by decide))) rfl rfl ?_
  refine px_pF (on := 7) (ci := 7) (kf := 2) (idx := 18) rfl (by decide +kernel) (by decide) ⟨by decide, by decide, rfl⟩ rfl (Or.inr ⟨_, rfl⟩) (by first | exact Or.inl rfl | exact Or.inr ⟨rfl, rfl, rfl⟩) ?_
  refine px_bc rfl q_X7_init_28 rfl trivial ?_
  refine px_nA3 (t0 := 0) (N := 80) (by decide +kernel) (Or.inl ⟨rfl, rfl, rfl⟩) rfl rfl rfl rfl (by repeat (first | with_reducible assumption | refine bOk.uI ?_ (by decide) | refine bOk.uR ?_ (by decide) | refine bOk.wI ?_ (by decide) | refine bOk.wR ?_ (by decide) | refine bOk.wL ?_ (by decide) | refine bOk.uL ?_ (by decide))) rfl rfl ?_
  refine px_pF (on := 7) (ci := 7) (kf := 3) (idx := 21) rfl (by decide +kernel) (by decide) ⟨by decide, by decide, rfl⟩ rfl (Or.inr ⟨_, rfl⟩) (by first | exact Or.inl rfl | exact Or.inr ⟨rfl, rfl, rfl⟩) ?_
  refine px_bc rfl q_X7_init_36 rfl trivial ?_
  refine px_nA3 (t0 := 0) (N := 80) (by decide +kernel) (Or.inl ⟨rfl, rfl, rfl⟩) rfl rfl rfl rfl (by repeat (first | with_reducible assumption | refine bOk.uI ?_ (by decide) | refine bOk.uR ?_ (by decide) | refine bOk.wI ?_ (by decide) | refine bOk.wR ?_ (by decide) | refine bOk.wL ?_ (by decide) | refine bOk.uL ?_ (by decide))) rfl rfl ?_
  refine px_pF (on := 7) (ci := 7) (kf := 4) (idx := 24) rfl (by decide +kernel) (by decide) ⟨by decide, by decide, rfl⟩ rfl (Or.inr ⟨_, rfl⟩) (by first | exact Or.inl rfl | exact Or.inr ⟨rfl, rfl, rfl⟩) ?_
  refine px_bc rfl q_X7_init_44 rfl trivial ?_
  refine px_nA3 (t0 := 0) (N := 80) (by decide +kernel) (Or.inl ⟨rfl, rfl, rfl⟩) rfl rfl rfl rfl (by repeat (first | with_reducible assumption | refine bOk.uI ?_ (by decide) | refine bOk.uR ?_ (by decide) | refine bOk.wI ?_ (by decide) | refine bOk.wR ?_ (by decide) | refine bOk.wL ?_ (by decide) | refine bOk.uL ?_ (by decide))) rfl rfl ?_
  refine px_pF (on := 7) (ci := 7) (kf := 5) (idx := 27) rfl (by decide +kernel) (by decide) ⟨by decide, by decide, rfl⟩ rfl (Or.inr ⟨_, rfl⟩) (by first | exact Or.inl rfl | exact Or.inr ⟨rfl, rfl, rfl⟩) ?_
  refine px_bc rfl q_X7_init_52 rfl trivial ?_
  refine px_nA3 (t0 := 1) (N := 24) (by decide +kernel) (Or.inr (Or.inl ⟨rfl, rfl, rfl⟩)) rfl rfl rfl rfl (by repeat (first | with_reducible assumption | refine bOk.uI ?_ (by decide) | refine bOk.uR ?_ (by decide) | refine bOk.wI ?_ (by decide) | refine bOk.wR ?_ (by decide) | refine bOk.wL ?_ (by decide) | refine bOk.uL ?_ (by decide))) rfl rfl ?_
  refine px_pF (on := 7) (ci := 7) (kf := 6) (idx := 30) rfl (by decide +kernel) (by decide) ⟨by decide, by decide, rfl⟩ rfl (Or.inr ⟨_, rfl⟩) (by first | exact Or.inl rfl | exact Or.inr ⟨rfl, rfl, rfl⟩) ?_
  refine px_rvc rfl q_X7_init_60 rfl rfl rfl rfl trivial ⟨rfl, rfl, ?_, ?_, ?_⟩
  · funext b k
    by_cases h33 : b = 33
    · subst h33; rw [(hb 33 (by decide)).1]; simp only [px_ur, px_wr, px_I0]; grind
    simp only [px_ur, px_wr]; grind
  · funext b k
    by_cases h33 : b = 33
    · subst h33; rw [(hb 33 (by decide)).2.1]; simp only [px_ur, px_wr, px_L0]; grind
    simp only [px_ur, px_wr]; grind
  · funext b k
    by_cases h33 : b = 33
    · subst h33; rw [(hb 33 (by decide)).2.2]; simp only [px_ur, px_wr, px_R0]; grind
    simp only [px_ur, px_wr]; grind

theorem q_X1_init_0 : (px_bk 1 1 cX1_init 0 [(.aload_n 0, (0, 0, 0, 0, 0), 0, 0)] = some 1 ∧ List.all [(.aload_n 0, (0, 0, 0, 0, 0), 0, 0)] (fun x => !px_us x) = true) := by decide +kernel
theorem q_X1_init_4 : (px_bk 1 1 cX1_init 4 [(.aload_n 0, (0, 0, 0, 0, 0), 0, 0), (.bipush 20, (0, 0, 0, 0, 0), 20, 0)] = some 7 ∧ List.all [(.aload_n 0, (0, 0, 0, 0, 0), 0, 0), (.bipush 20, (0, 0, 0, 0, 0), 20, 0)] (fun x => !px_us x) = true) := by decide +kernel
theorem q_X1_init_12 : (px_bk 1 1 cX1_init 12 [(.aload_n 0, (0, 0, 0, 0, 0), 0, 0), (.bipush 20, (0, 0, 0, 0, 0), 20, 0)] = some 15 ∧ List.all [(.aload_n 0, (0, 0, 0, 0, 0), 0, 0), (.bipush 20, (0, 0, 0, 0, 0), 20, 0)] (fun x => !px_us x) = true) := by decide +kernel
theorem q_X1_init_20 : (px_bk 1 1 cX1_init 20 [(.aload_n 0, (0, 0, 0, 0, 0), 0, 0), (.bipush 20, (0, 0, 0, 0, 0), 20, 0)] = some 23 ∧ List.all [(.aload_n 0, (0, 0, 0, 0, 0), 0, 0), (.bipush 20, (0, 0, 0, 0, 0), 20, 0)] (fun x => !px_us x) = true) := by decide +kernel
theorem q_X1_init_28 : (px_bk 1 1 cX1_init 28 [(.aload_n 0, (0, 0, 0, 0, 0), 0, 0), (.bipush 20, (0, 0, 0, 0, 0), 20, 0)] = some 31 ∧ List.all [(.aload_n 0, (0, 0, 0, 0, 0), 0, 0), (.bipush 20, (0, 0, 0, 0, 0), 20, 0)] (fun x => !px_us x) = true) := by decide +kernel
theorem q_X1_init_36 : (px_bk 1 1 cX1_init 36 [(.aload_n 0, (0, 0, 0, 0, 0), 0, 0), (.bipush 20, (0, 0, 0, 0, 0), 20, 0)] = some 39 ∧ List.all [(.aload_n 0, (0, 0, 0, 0, 0), 0, 0), (.bipush 20, (0, 0, 0, 0, 0), 20, 0)] (fun x => !px_us x) = true) := by decide +kernel
theorem q_X1_init_44 : (px_bk 1 1 cX1_init 44 [(.aload_n 0, (0, 0, 0, 0, 0), 0, 0), (.bipush 20, (0, 0, 0, 0, 0), 20, 0)] = some 47 ∧ List.all [(.aload_n 0, (0, 0, 0, 0, 0), 0, 0), (.bipush 20, (0, 0, 0, 0, 0), 20, 0)] (fun x => !px_us x) = true) := by decide +kernel
theorem q_X1_init_52 : (px_bk 1 1 cX1_init 52 [(.aload_n 0, (0, 0, 0, 0, 0), 0, 0), (.bipush 20, (0, 0, 0, 0, 0), 20, 0)] = some 55 ∧ List.all [(.aload_n 0, (0, 0, 0, 0, 0), 0, 0), (.bipush 20, (0, 0, 0, 0, 0), 20, 0)] (fun x => !px_us x) = true) := by decide +kernel
theorem q_X1_init_60 : (px_bk 1 1 cX1_init 60 [(.aload_n 0, (0, 0, 0, 0, 0), 0, 0), (.bipush 20, (0, 0, 0, 0, 0), 20, 0)] = some 63 ∧ List.all [(.aload_n 0, (0, 0, 0, 0, 0), 0, 0), (.bipush 20, (0, 0, 0, 0, 0), 20, 0)] (fun x => !px_us x) = true) := by decide +kernel
theorem q_X1_init_68 : (px_bk 1 1 cX1_init 68 [(.aload_n 0, (0, 0, 0, 0, 0), 0, 0), (.bipush 20, (0, 0, 0, 0, 0), 20, 0)] = some 71 ∧ List.all [(.aload_n 0, (0, 0, 0, 0, 0), 0, 0), (.bipush 20, (0, 0, 0, 0, 0), 20, 0)] (fun x => !px_us x) = true) := by decide +kernel
theorem q_X1_init_76 : (px_bk 1 1 cX1_init 76 [(.aload_n 0, (0, 0, 0, 0, 0), 0, 0), (.bipush 20, (0, 0, 0, 0, 0), 20, 0)] = some 79 ∧ List.all [(.aload_n 0, (0, 0, 0, 0, 0), 0, 0), (.bipush 20, (0, 0, 0, 0, 0), 20, 0)] (fun x => !px_us x) = true) := by decide +kernel
theorem q_X1_init_84 : (px_bk 1 1 cX1_init 84 [(.aload_n 0, (0, 0, 0, 0, 0), 0, 0), (.bipush 30, (0, 0, 0, 0, 0), 30, 0)] = some 87 ∧ List.all [(.aload_n 0, (0, 0, 0, 0, 0), 0, 0), (.bipush 30, (0, 0, 0, 0, 0), 30, 0)] (fun x => !px_us x) = true) := by decide +kernel
theorem q_X1_init_92 : (px_bk 1 1 cX1_init 92 [(.aload_n 0, (0, 0, 0, 0, 0), 0, 0), (.bipush 30, (0, 0, 0, 0, 0), 30, 0)] = some 95 ∧ List.all [(.aload_n 0, (0, 0, 0, 0, 0), 0, 0), (.bipush 30, (0, 0, 0, 0, 0), 30, 0)] (fun x => !px_us x) = true) := by decide +kernel
theorem q_X1_init_100 : (px_bk 1 1 cX1_init 100 [(.aload_n 0, (0, 0, 0, 0, 0), 0, 0), (.bipush 30, (0, 0, 0, 0, 0), 30, 0)] = some 103 ∧ List.all [(.aload_n 0, (0, 0, 0, 0, 0), 0, 0), (.bipush 30, (0, 0, 0, 0, 0), 30, 0)] (fun x => !px_us x) = true) := by decide +kernel
theorem q_X1_init_108 : (px_bk 1 1 cX1_init 108 [(.aload_n 0, (0, 0, 0, 0, 0), 0, 0), (.iconst 0, (0, 0, 0, 0, 0), 0, 0), (.putfield 51, (1, 13, 0, 0, 0), 0, 0), (.aload_n 0, (0, 0, 0, 0, 0), 0, 0), (.iconst 0, (0, 0, 0, 0, 0), 0, 0), (.putfield 55, (1, 14, 0, 0, 0), 0, 0), (.aload_n 0, (0, 0, 0, 0, 0), 0, 0), (.iconst 0, (0, 0, 0, 0, 0), 0, 0), (.putfield 58, (1, 15, 0, 0, 0), 0, 0)] = some 123 ∧ List.all [(.aload_n 0, (0, 0, 0, 0, 0), 0, 0), (.iconst 0, (0, 0, 0, 0, 0), 0, 0), (.putfield 51, (1, 13, 0, 0, 0), 0, 0), (.aload_n 0, (0, 0, 0, 0, 0), 0, 0), (.iconst 0, (0, 0, 0, 0, 0), 0, 0), (.putfield 55, (1, 14, 0, 0, 0), 0, 0), (.aload_n 0, (0, 0, 0, 0, 0), 0, 0), (.iconst 0, (0, 0, 0, 0, 0), 0, 0), (.putfield 58, (1, 15, 0, 0, 0), 0, 0)] (fun x => !px_us x) = true) ∧ px_tr cX1_init 123 .return_ = true := by decide +kernel
set_option maxRecDepth 100000 in
theorem mk_X1a {I : px_I} {L : px_L} {R : px_R} (hb : bOk 41 I L R) : px_K M_X1_init [.ref 41] 42 (px_w I 41 (fun _ => 0)) (px_w L 41 (fun _ => 0)) (px_w R 41 (fun _ => none)) (fun r n2 I2 L2 R2 => r = none ∧ n2 = 55 ∧ I2 = I ∧ L2 = L ∧ R2 = R) := by
  have hb1 : bOk 42 I L R := hb.le (by decide)
  have hb43 : bOk 43 I L R := hb.le (by decide)
  have hb44 : bOk 44 I L R := hb.le (by decide)
  have hb45 : bOk 45 I L R := hb.le (by decide)
  have hb46 : bOk 46 I L R := hb.le (by decide)
  have hb47 : bOk 47 I L R := hb.le (by decide)
  have hb48 : bOk 48 I L R := hb.le (by decide)
  have hb49 : bOk 49 I L R := hb.le (by decide)
  have hb50 : bOk 50 I L R := hb.le (by decide)
  have hb51 : bOk 51 I L R := hb.le (by decide)
  have hb52 : bOk 52 I L R := hb.le (by decide)
  have hb53 : bOk 53 I L R := hb.le (by decide)
  have hb54 : bOk 54 I L R := hb.le (by decide)
  have hb55 : bOk 55 I L R := hb.le (by decide)
  refine px_of (plainFor_of_name np_RX1) (fun _ _ _ => trivial) rfl ?_
  refine px_bc rfl q_X1_init_0 rfl trivial ?_
  refine px_oI (by decide +kernel) (px_i1 70 rfl rfl) (px_i1 25 rfl rfl) (px_i1 26 rfl rfl) rfl rfl ?_
  refine px_bc rfl q_X1_init_4 rfl trivial ?_
  refine px_nA3 (t0 := 0) (N := 20) (by decide +kernel) (Or.inl ⟨rfl, rfl, rfl⟩) rfl rfl rfl rfl (by repeat (first | with_reducible assumption | refine bOk.uI ?_ (by decide) | refine bOk.uR ?_ (by decide) | refine bOk.wI ?_ (by decide) | refine bOk.wR ?_ (by decide) | refine bOk.wL ?_ (by decide) | refine bOk.uL ?_ (by decide))) rfl rfl ?_
  refine px_pF (on := 1) (ci := 1) (kf := 0) (idx := 11) rfl (by decide +kernel) (by decide) ⟨by decide, by decide, rfl⟩ rfl (Or.inr ⟨_, rfl⟩) (by first | exact Or.inl rfl | exact Or.inr ⟨rfl, rfl, rfl⟩) ?_
  refine px_bc rfl q_X1_init_12 rfl trivial ?_
  refine px_nA3 (t0 := 0) (N := 20) (by decide +kernel) (Or.inl ⟨rfl, rfl, rfl⟩) rfl rfl rfl rfl (by repeat (first | with_reducible assumption | refine bOk.uI ?_ (by decide) | refine bOk.uR ?_ (by decide) | refine bOk.wI ?_ (by decide) | refine bOk.wR ?_ (by decide) | refine bOk.wL ?_ (by decide) | refine bOk.uL ?_ (by decide))) rfl rfl ?_
  refine px_pF (on := 1) (ci := 1) (kf := 1) (idx := 15) rfl (by decide +kernel) (by decide) ⟨by decide, by decide, rfl⟩ rfl (Or.inr ⟨_, rfl⟩) (by first | exact Or.inl rfl | exact Or.inr ⟨rfl, rfl, rfl⟩) ?_
  refine px_bc rfl q_X1_init_20 rfl trivial ?_
  refine px_nA3 (t0 := 0) (N := 20) (by decide +kernel) (Or.inl ⟨rfl, rfl, rfl⟩) rfl rfl rfl rfl (by repeat (first | with_reducible assumption | refine bOk.uI ?_ (by decide) | refine bOk.uR ?_ (by decide) | refine bOk.wI ?_ (by decide) | refine bOk.wR ?_ (by decide) | refine bOk.wL ?_ (by decide) | refine bOk.uL ?_ (by decide))) rfl rfl ?_
  refine px_pF (on := 1) (ci := 1) (kf := 2) (idx := 18) rfl (by decide +kernel) (by decide) ⟨by decide, by decide, rfl⟩ rfl (Or.inr ⟨_, rfl⟩) (by first | exact Or.inl rfl | exact Or.inr ⟨rfl, rfl, rfl⟩) ?_
  refine px_bc rfl q_X1_init_28 rfl trivial ?_
  refine px_nA3 (t0 := 0) (N := 20) (by decide +kernel) (Or.inl ⟨rfl, rfl, rfl⟩) rfl rfl rfl rfl (by repeat (first | with_reducible assumption | refine bOk.uI ?_ (by decide) | refine bOk.uR ?_ (by decide) | refine bOk.wI ?_ (by decide) | refine bOk.wR ?_ (by decide) | refine bOk.wL ?_ (by decide) | refine bOk.uL ?_ (by decide))) rfl rfl ?_
  refine px_pF (on := 1) (ci := 1) (kf := 3) (idx := 21) rfl (by decide +kernel) (by decide) ⟨by decide, by decide, rfl⟩ rfl (Or.inr ⟨_, rfl⟩) (by first | exact Or.inl rfl | exact Or.inr ⟨rfl, rfl, rfl⟩) ?_
  refine px_bc rfl q_X1_init_36 rfl trivial ?_
  refine px_nA3 (t0 := 0) (N := 20) (by decide +kernel) (Or.inl ⟨rfl, rfl, rfl⟩) rfl rfl rfl rfl (by repeat (first | with_reducible assumption | refine bOk.uI ?_ (by decide) | refine bOk.uR ?_ (by decide) | refine bOk.wI ?_ (by decide) | refine bOk.wR ?_ (by decide) | refine bOk.wL ?_ (by decide) | refine bOk.uL ?_ (by decide))) rfl rfl ?_
  refine px_pF (on := 1) (ci := 1) (kf := 4) (idx := 24) rfl (by decide +kernel) (by decide) ⟨by decide, by decide, rfl⟩ rfl (Or.inr ⟨_, rfl⟩) (by first | exact Or.inl rfl | exact Or.inr ⟨rfl, rfl, rfl⟩) ?_
  refine px_bc rfl q_X1_init_44 rfl trivial ?_
  refine px_nA3 (t0 := 0) (N := 20) (by decide +kernel) (Or.inl ⟨rfl, rfl, rfl⟩) rfl rfl rfl rfl (by repeat (first | with_reducible assumption | refine bOk.uI ?_ (by decide) | refine bOk.uR ?_ (by decide) | refine bOk.wI ?_ (by decide) | refine bOk.wR ?_ (by decide) | refine bOk.wL ?_ (by decide) | refine bOk.uL ?_ (by decide))) rfl rfl ?_
  refine px_pF (on := 1) (ci := 1) (kf := 5) (idx := 27) rfl (by decide +kernel) (by decide) ⟨by decide, by decide, rfl⟩ rfl (Or.inr ⟨_, rfl⟩) (by first | exact Or.inl rfl | exact Or.inr ⟨rfl, rfl, rfl⟩) ?_
  refine px_bc rfl q_X1_init_52 rfl trivial ?_
  refine px_nA3 (t0 := 0) (N := 20) (by decide +kernel) (Or.inl ⟨rfl, rfl, rfl⟩) rfl rfl rfl rfl (by repeat (first | with_reducible assumption | refine bOk.uI ?_ (by decide) | refine bOk.uR ?_ (by decide) | refine bOk.wI ?_ (by decide) | refine bOk.wR ?_ (by decide) | refine bOk.wL ?_ (by decide) | refine bOk.uL ?_ (by decide))) rfl rfl ?_
  refine px_pF (on := 1) (ci := 1) (kf := 6) (idx := 30) rfl (by decide +kernel) (by decide) ⟨by decide, by decide, rfl⟩ rfl (Or.inr ⟨_, rfl⟩) (by first | exact Or.inl rfl | exact Or.inr ⟨rfl, rfl, rfl⟩) ?_
  refine px_bc rfl q_X1_init_60 rfl trivial ?_
  refine px_nA3 (t0 := 0) (N := 20) (by decide +kernel) (Or.inl ⟨rfl, rfl, rfl⟩) rfl rfl rfl rfl (by repeat (first | with_reducible assumption | refine bOk.uI ?_ (by decide) | refine bOk.uR ?_ (by decide) | refine bOk.wI ?_ (by decide) | refine bOk.wR ?_ (by decide) | refine bOk.wL ?_ (by decide) | refine bOk.uL ?_ (by decide))) rfl rfl ?_
  refine px_pF (on := 1) (ci := 1) (kf := 7) (idx := 33) rfl (by decide +kernel) (by decide) ⟨by decide, by decide, rfl⟩ rfl (Or.inr ⟨_, rfl⟩) (by first | exact Or.inl rfl | exact Or.inr ⟨rfl, rfl, rfl⟩) ?_
  refine px_bc rfl q_X1_init_68 rfl trivial ?_
  refine px_nA3 (t0 := 0) (N := 20) (by decide +kernel) (Or.inl ⟨rfl, rfl, rfl⟩) rfl rfl rfl rfl (by repeat (first | with_reducible assumption | refine bOk.uI ?_ (by decide) | refine bOk.uR ?_ (by decide) | refine bOk.wI ?_ (by decide) | refine bOk.wR ?_ (by decide) | refine bOk.wL ?_ (by decide) | refine bOk.uL ?_ (by decide))) rfl rfl ?_
  refine px_pF (on := 1) (ci := 1) (kf := 8) (idx := 36) rfl (by decide +kernel) (by decide) ⟨by decide, by decide, rfl⟩ rfl (Or.inr ⟨_, rfl⟩) (by first | exact Or.inl rfl | exact Or.inr ⟨rfl, rfl, rfl⟩) ?_
  refine px_bc rfl q_X1_init_76 rfl trivial ?_
  refine px_nA3 (t0 := 0) (N := 20) (by decide +kernel) (Or.inl ⟨rfl, rfl, rfl⟩) rfl rfl rfl rfl (by repeat (first | with_reducible assumption | refine bOk.uI ?_ (by decide) | refine bOk.uR ?_ (by decide) | refine bOk.wI ?_ (by decide) | refine bOk.wR ?_ (by decide) | refine bOk.wL ?_ (by decide) | refine bOk.uL ?_ (by decide))) rfl rfl ?_
  refine px_pF (on := 1) (ci := 1) (kf := 9) (idx := 39) rfl (by decide +kernel) (by decide) ⟨by decide, by decide, rfl⟩ rfl (Or.inr ⟨_, rfl⟩) (by first | exact Or.inl rfl | exact Or.inr ⟨rfl, rfl, rfl⟩) ?_
  refine px_bc rfl q_X1_init_84 rfl trivial ?_
  refine px_nA3 (t0 := 0) (N := 30) (by decide +kernel) (Or.inl ⟨rfl, rfl, rfl⟩) rfl rfl rfl rfl (by repeat (first | with_reducible assumption | refine bOk.uI ?_ (by decide) | refine bOk.uR ?_ (by decide) | refine bOk.wI ?_ (by decide) | refine bOk.wR ?_ (by decide) | refine bOk.wL ?_ (by decide) | refine bOk.uL ?_ (by decide))) rfl rfl ?_
  refine px_pF (on := 1) (ci := 1) (kf := 10) (idx := 42) rfl (by decide +kernel) (by decide) ⟨by decide, by decide, rfl⟩ rfl (Or.inr ⟨_, rfl⟩) (by first | exact Or.inl rfl | exact Or.inr ⟨rfl, rfl, rfl⟩) ?_
  refine px_bc rfl q_X1_init_92 rfl trivial ?_
  refine px_nA3 (t0 := 0) (N := 30) (by decide +kernel) (Or.inl ⟨rfl, rfl, rfl⟩) rfl rfl rfl rfl (by repeat (first | with_reducible assumption | refine bOk.uI ?_ (by decide) | refine bOk.uR ?_ (by decide) | refine bOk.wI ?_ (by decide) | refine bOk.wR ?_ (by decide) | refine bOk.wL ?_ (by decide) | refine bOk.uL ?_ (by decide))) rfl rfl ?_
  refine px_pF (on := 1) (ci := 1) (kf := 11) (idx := 45) rfl (by decide +kernel) (by decide) ⟨by decide, by decide, rfl⟩ rfl (Or.inr ⟨_, rfl⟩) (by first | exact Or.inl rfl | exact Or.inr ⟨rfl, rfl, rfl⟩) ?_
  refine px_bc rfl q_X1_init_100 rfl trivial ?_
  refine px_nA3 (t0 := 0) (N := 30) (by decide +kernel) (Or.inl ⟨rfl, rfl, rfl⟩) rfl rfl rfl rfl (by repeat (first | with_reducible assumption | refine bOk.uI ?_ (by decide) | refine bOk.uR ?_ (by decide) | refine bOk.wI ?_ (by decide) | refine bOk.wR ?_ (by decide) | refine bOk.wL ?_ (by decide) | refine bOk.uL ?_ (by decide))) rfl rfl ?_
  refine px_pF (on := 1) (ci := 1) (kf := 12) (idx := 48) rfl (by decide +kernel) (by decide) ⟨by decide, by decide, rfl⟩ rfl (Or.inr ⟨_, rfl⟩) (by first | exact Or.inl rfl | exact Or.inr ⟨rfl, rfl, rfl⟩) ?_
  refine px_rvc rfl q_X1_init_108 rfl rfl rfl rfl trivial ⟨rfl, rfl, ?_, ?_, ?_⟩
  · funext b k
    by_cases h41 : b = 41
    · subst h41; rw [(hb 41 (by decide)).1]; simp only [px_ur, px_wr, px_I0]; grind
    simp only [px_ur, px_wr]; grind
  · funext b k
    by_cases h41 : b = 41
    · subst h41; rw [(hb 41 (by decide)).2.1]; simp only [px_ur, px_wr, px_L0]; grind
    simp only [px_ur, px_wr]; grind
  · funext b k
    by_cases h41 : b = 41
    · subst h41; rw [(hb 41 (by decide)).2.2]; simp only [px_ur, px_wr, px_R0]; grind
    simp only [px_ur, px_wr]; grind

set_option maxRecDepth 100000 in
theorem mk_X1b {I : px_I} {L : px_L} {R : px_R} (hb : bOk 55 I L R) : px_K M_X1_init [.ref 55] 56 (px_w I 55 (fun _ => 0)) (px_w L 55 (fun _ => 0)) (px_w R 55 (fun _ => none)) (fun r n2 I2 L2 R2 => r = none ∧ n2 = 69 ∧ I2 = I ∧ L2 = L ∧ R2 = R) := by
  have hb1 : bOk 56 I L R := hb.le (by decide)
  have hb57 : bOk 57 I L R := hb.le (by decide)
  have hb58 : bOk 58 I L R := hb.le (by decide)
  have hb59 : bOk 59 I L R := hb.le (by decide)
  have hb60 : bOk 60 I L R := hb.le (by decide)
  have hb61 : bOk 61 I L R := hb.le (by decide)
  have hb62 : bOk 62 I L R := hb.le (by decide)
  have hb63 : bOk 63 I L R := hb.le (by decide)
  have hb64 : bOk 64 I L R := hb.le (by decide)
  have hb65 : bOk 65 I L R := hb.le (by decide)
  have hb66 : bOk 66 I L R := hb.le (by decide)
  have hb67 : bOk 67 I L R := hb.le (by decide)
  have hb68 : bOk 68 I L R := hb.le (by decide)
  have hb69 : bOk 69 I L R := hb.le (by decide)
  refine px_of (plainFor_of_name np_RX1) (fun _ _ _ => trivial) rfl ?_
  refine px_bc rfl q_X1_init_0 rfl trivial ?_
  refine px_oI (by decide +kernel) (px_i1 70 rfl rfl) (px_i1 25 rfl rfl) (px_i1 26 rfl rfl) rfl rfl ?_
  refine px_bc rfl q_X1_init_4 rfl trivial ?_
  refine px_nA3 (t0 := 0) (N := 20) (by decide +kernel) (Or.inl ⟨rfl, rfl, rfl⟩) rfl rfl rfl rfl (by repeat (first | with_reducible assumption | refine bOk.uI ?_ (by decide) | refine bOk.uR ?_ (by decide) | refine bOk.wI ?_ (by decide) | refine bOk.wR ?_ (by decide) | refine bOk.wL ?_ (by decide) | refine bOk.uL ?_ (by decide))) rfl rfl ?_
  refine px_pF (on := 1) (ci := 1) (kf := 0) (idx := 11) rfl (by decide +kernel) (by decide) ⟨by decide, by decide, rfl⟩ rfl (Or.inr ⟨_, rfl⟩) (by first | exact Or.inl rfl | exact Or.inr ⟨rfl, rfl, rfl⟩) ?_
  refine px_bc rfl q_X1_init_12 rfl trivial ?_
  refine px_nA3 (t0 := 0) (N := 20) (by decide +kernel) (Or.inl ⟨rfl, rfl, rfl⟩) rfl rfl rfl rfl (by repeat (first | with_reducible assumption | refine bOk.uI ?_ (by decide) | refine bOk.uR ?_ (by decide) | refine bOk.wI ?_ (by decide) | refine bOk.wR ?_ (by decide) | refine bOk.wL ?_ (by decide) | refine bOk.uL ?_ (by decide))) rfl rfl ?_
  refine px_pF (on := 1) (ci := 1) (kf := 1) (idx := 15) rfl (by decide +kernel) (by decide) ⟨by decide, by decide, rfl⟩ rfl (Or.inr ⟨_, rfl⟩) (by first | exact Or.inl rfl | exact Or.inr ⟨rfl, rfl, rfl⟩) ?_
  refine px_bc rfl q_X1_init_20 rfl trivial ?_
  refine px_nA3 (t0 := 0) (N := 20) (by decide +kernel) (Or.inl ⟨rfl, rfl, rfl⟩) rfl rfl rfl rfl (by repeat (first | with_reducible assumption | refine bOk.uI ?_ (by decide) | refine bOk.uR ?_ (by decide) | refine bOk.wI ?_ (by decide) | refine bOk.wR ?_ (by decide) | refine bOk.wL ?_ (by decide) | refine bOk.uL ?_ (by decide))) rfl rfl ?_
  refine px_pF (on := 1) (ci := 1) (kf := 2) (idx := 18) rfl (by decide +kernel) (by decide) ⟨by decide, by decide, rfl⟩ rfl (Or.inr ⟨_, rfl⟩) (by first | exact Or.inl rfl | exact Or.inr ⟨rfl, rfl, rfl⟩) ?_
  refine px_bc rfl q_X1_init_28 rfl trivial ?_
  refine px_nA3 (t0 := 0) (N := 20) (by decide +kernel) (Or.inl ⟨rfl, rfl, rfl⟩) rfl rfl rfl rfl (by repeat (first | with_reducible assumption | refine bOk.uI ?_ (by decide) | refine bOk.uR ?_ (by decide) | refine bOk.wI ?_ (by decide) | refine bOk.wR ?_ (by decide) | refine bOk.wL ?_ (by decide) | refine bOk.uL ?_ (by decide))) rfl rfl ?_
  refine px_pF (on := 1) (ci := 1) (kf := 3) (idx := 21) rfl (by decide +kernel) (by decide) ⟨by decide, by decide, rfl⟩ rfl (Or.inr ⟨_, rfl⟩) (by first | exact Or.inl rfl | exact Or.inr ⟨rfl, rfl, rfl⟩) ?_
  refine px_bc rfl q_X1_init_36 rfl trivial ?_
  refine px_nA3 (t0 := 0) (N := 20) (by decide +kernel) (Or.inl ⟨rfl, rfl, rfl⟩) rfl rfl rfl rfl (by repeat (first | with_reducible assumption | refine bOk.uI ?_ (by decide) | refine bOk.uR ?_ (by decide) | refine bOk.wI ?_ (by decide) | refine bOk.wR ?_ (by decide) | refine bOk.wL ?_ (by decide) | refine bOk.uL ?_ (by decide))) rfl rfl ?_
  refine px_pF (on := 1) (ci := 1) (kf := 4) (idx := 24) rfl (by decide +kernel) (by decide) ⟨by decide, by decide, rfl⟩ rfl (Or.inr ⟨_, rfl⟩) (by first | exact Or.inl rfl | exact Or.inr ⟨rfl, rfl, rfl⟩) ?_
  refine px_bc rfl q_X1_init_44 rfl trivial ?_
  refine px_nA3 (t0 := 0) (N := 20) (by decide +kernel) (Or.inl ⟨rfl, rfl, rfl⟩) rfl rfl rfl rfl (by repeat (first | with_reducible assumption | refine bOk.uI ?_ (by decide) | refine bOk.uR ?_ (by decide) | refine bOk.wI ?_ (by decide) | refine bOk.wR ?_ (by decide) | refine bOk.wL ?_ (by decide) | refine bOk.uL ?_ (by decide))) rfl rfl ?_
  refine px_pF (on := 1) (ci := 1) (kf := 5) (idx := 27) rfl (by decide +kernel) (by decide) ⟨by decide, by decide, rfl⟩ rfl (Or.inr ⟨_, rfl⟩) (by first | exact Or.inl rfl | exact Or.inr ⟨rfl, rfl, rfl⟩) ?_
  refine px_bc rfl q_X1_init_52 rfl trivial ?_
  refine px_nA3 (t0 := 0) (N := 20) (by decide +kernel) (Or.inl ⟨rfl, rfl, rfl⟩) rfl rfl rfl rfl (by repeat (first | with_reducible assumption | refine bOk.uI ?_ (by decide) | refine bOk.uR ?_ (by decide) | refine bOk.wI ?_ (by decide) | refine bOk.wR ?_ (by decide) | refine bOk.wL ?_ (by decide) | refine bOk.uL ?_ (by decide))) rfl rfl ?_
  refine px_pF (on := 1) (ci := 1) (kf := 6) (idx := 30) rfl (by decide +kernel) (by decide) ⟨by decide, by decide, rfl⟩ rfl (Or.inr ⟨_, rfl⟩) (by first | exact Or.inl rfl | exact Or.inr ⟨rfl, rfl, rfl⟩) ?_
  refine px_bc rfl q_X1_init_60 rfl trivial ?_
  refine px_nA3 (t0 := 0) (N := 20) (by decide +kernel) (Or.inl ⟨rfl, rfl, rfl⟩) rfl rfl rfl rfl (by repeat (first | with_reducible assumption | refine bOk.uI ?_ (by decide) | refine bOk.uR ?_ (by decide) | refine bOk.wI ?_ (by decide) | refine bOk.wR ?_ (by decide) | refine bOk.wL ?_ (by decide) | refine bOk.uL ?_ (by decide))) rfl rfl ?_
  refine px_pF (on := 1) (ci := 1) (kf := 7) (idx := 33) rfl (by decide +kernel) (by decide) ⟨by decide, by decide, rfl⟩ rfl (Or.inr ⟨_, rfl⟩) (by first | exact Or.inl rfl | exact Or.inr ⟨rfl, rfl, rfl⟩) ?_
  refine px_bc rfl q_X1_init_68 rfl trivial ?_
  refine px_nA3 (t0 := 0) (N := 20) (by decide +kernel) (Or.inl ⟨rfl, rfl, rfl⟩) rfl rfl rfl rfl (by repeat (first | with_reducible assumption | refine bOk.uI ?_ (by decide) | refine bOk.uR ?_ (by decide) | refine bOk.wI ?_ (by decide) | refine bOk.wR ?_ (by decide) | refine bOk.wL ?_ (by decide) | refine bOk.uL ?_ (by decide))) rfl rfl ?_
  refine px_pF (on := 1) (ci := 1) (kf := 8) (idx := 36) rfl (by decide +kernel) (by decide) ⟨by decide, by decide, rfl⟩ rfl (Or.inr ⟨_, rfl⟩) (by first | exact Or.inl rfl | exact Or.inr ⟨rfl, rfl, rfl⟩) ?_
  refine px_bc rfl q_X1_init_76 rfl trivial ?_
  refine px_nA3 (t0 := 0) (N := 20) (by decide +kernel) (Or.inl ⟨rfl, rfl, rfl⟩) rfl rfl rfl rfl (by repeat (first | with_reducible assumption | refine bOk.uI ?_ (by decide) | refine bOk.uR ?_ (by decide) | refine bOk.wI ?_ (by decide) | refine bOk.wR ?_ (by decide) | refine bOk.wL ?_ (by decide) | refine bOk.uL ?_ (by decide))) rfl rfl ?_
  refine px_pF (on := 1) (ci := 1) (kf := 9) (idx := 39) rfl (by decide +kernel) (by decide) ⟨by decide, by decide, rfl⟩ rfl (Or.inr ⟨_, rfl⟩) (by first | exact Or.inl rfl | exact Or.inr ⟨rfl, rfl, rfl⟩) ?_
  refine px_bc rfl q_X1_init_84 rfl trivial ?_
  refine px_nA3 (t0 := 0) (N := 30) (by decide +kernel) (Or.inl ⟨rfl, rfl, rfl⟩) rfl rfl rfl rfl (by repeat (first | with_reducible assumption | refine bOk.uI ?_ (by decide) | refine bOk.uR ?_ (by decide) | refine bOk.wI ?_ (by decide) | refine bOk.wR ?_ (by decide) | refine bOk.wL ?_ (by decide) | refine bOk.uL ?_ (by decide))) rfl rfl ?_
  refine px_pF (on := 1) (ci := 1) (kf := 10) (idx := 42) rfl (by decide +kernel) (by decide) ⟨by decide, by decide, rfl⟩ rfl (Or.inr ⟨_, rfl⟩) (by first | exact Or.inl rfl | exact Or.inr ⟨rfl, rfl, rfl⟩) ?_
  refine px_bc rfl q_X1_init_92 rfl trivial ?_
  refine px_nA3 (t0 := 0) (N := 30) (by decide +kernel) (Or.inl ⟨rfl, rfl, rfl⟩) rfl rfl rfl rfl (by repeat (first | with_reducible assumption | refine bOk.uI ?_ (by decide) | refine bOk.uR ?_ (by decide) | refine bOk.wI ?_ (by decide) | refine bOk.wR ?_ (by decide) | refine bOk.wL ?_ (by decide) | refine bOk.uL ?_ (by decide))) rfl rfl ?_
  refine px_pF (on := 1) (ci := 1) (kf := 11) (idx := 45) rfl (by decide +kernel) (by decide) ⟨by decide, by decide, rfl⟩ rfl (Or.inr ⟨_, rfl⟩) (by first | exact Or.inl rfl | exact Or.inr ⟨rfl, rfl, rfl⟩) ?_
  refine px_bc rfl q_X1_init_100 rfl trivial ?_
  refine px_nA3 (t0 := 0) (N := 30) (by decide +kernel) (Or.inl ⟨rfl, rfl, rfl⟩) rfl rfl rfl rfl (by repeat (first | with_reducible assumption | refine bOk.uI ?_ (by decide) | refine bOk.uR ?_ (by decide) | refine bOk.wI ?_ (by decide) | refine bOk.wR ?_ (by decide) | refine bOk.wL ?_ (by decide) | refine bOk.uL ?_ (by decide))) rfl rfl ?_
  refine px_pF (on := 1) (ci := 1) (kf := 12) (idx := 48) rfl (by decide +kernel) (by decide) ⟨by decide, by decide, rfl⟩ rfl (Or.inr ⟨_, rfl⟩) (by first | exact Or.inl rfl | exact Or.inr ⟨rfl, rfl, rfl⟩) ?_
  refine px_rvc rfl q_X1_init_108 rfl rfl rfl rfl trivial ⟨rfl, rfl, ?_, ?_, ?_⟩
  · funext b k
    by_cases h55 : b = 55
    · subst h55; rw [(hb 55 (by decide)).1]; simp only [px_ur, px_wr, px_I0]; grind
    simp only [px_ur, px_wr]; grind
  · funext b k
    by_cases h55 : b = 55
    · subst h55; rw [(hb 55 (by decide)).2.1]; simp only [px_ur, px_wr, px_L0]; grind
    simp only [px_ur, px_wr]; grind
  · funext b k
    by_cases h55 : b = 55
    · subst h55; rw [(hb 55 (by decide)).2.2]; simp only [px_ur, px_wr, px_R0]; grind
    simp only [px_ur, px_wr]; grind

theorem q_X2_init_0 : (px_bk 2 1 cX2_init 0 [(.aload_n 0, (0, 0, 0, 0, 0), 0, 0)] = some 1 ∧ List.all [(.aload_n 0, (0, 0, 0, 0, 0), 0, 0)] (fun x => !px_us x) = true) := by decide +kernel
theorem q_X2_init_4 : (px_bk 2 1 cX2_init 4 [(.aload_n 0, (0, 0, 0, 0, 0), 0, 0), (.iconst 0, (0, 0, 0, 0, 0), 0, 0), (.putfield 9, (2, 0, 0, 0, 0), 0, 0), (.aload_n 0, (0, 0, 0, 0, 0), 0, 0), (.iconst 0, (0, 0, 0, 0, 0), 0, 0), (.putfield 15, (2, 1, 0, 0, 0), 0, 0), (.aload_n 0, (0, 0, 0, 0, 0), 0, 0), (.ldc 18, (0, 0, 0, 0, 0), 2000000000, 0), (.putfield 19, (2, 2, 0, 0, 0), 0, 0)] = some 20 ∧ List.all [(.aload_n 0, (0, 0, 0, 0, 0), 0, 0), (.iconst 0, (0, 0, 0, 0, 0), 0, 0), (.putfield 9, (2, 0, 0, 0, 0), 0, 0), (.aload_n 0, (0, 0, 0, 0, 0), 0, 0), (.iconst 0, (0, 0, 0, 0, 0), 0, 0), (.putfield 15, (2, 1, 0, 0, 0), 0, 0), (.aload_n 0, (0, 0, 0, 0, 0), 0, 0), (.ldc 18, (0, 0, 0, 0, 0), 2000000000, 0), (.putfield 19, (2, 2, 0, 0, 0), 0, 0)] (fun x => !px_us x) = true) ∧ px_tr cX2_init 20 .return_ = true := by decide +kernel
set_option maxRecDepth 100000 in
theorem mk_X2 {I : px_I} {L : px_L} {R : px_R} (hb : bOk 69 I L R) : px_K M_X2_init [.ref 69] 70 (px_w I 69 (fun _ => 0)) (px_w L 69 (fun _ => 0)) (px_w R 69 (fun _ => none)) (fun r n2 I2 L2 R2 => r = none ∧ n2 = 70 ∧ I2 = I ∧ L2 = L ∧ R2 = R) := by
  have hb1 : bOk 70 I L R := hb.le (by decide)
  refine px_of (plainFor_of_name np_RX2) (fun _ _ _ => trivial) rfl ?_
  refine px_bc rfl q_X2_init_0 rfl trivial ?_
  refine px_oI (by decide +kernel) (px_i1 133 rfl rfl) (px_i1 25 rfl rfl) (px_i1 26 rfl rfl) rfl rfl ?_
  refine px_rvc rfl q_X2_init_4 rfl rfl rfl rfl trivial ⟨rfl, rfl, ?_, ?_, ?_⟩
  · funext b k
    by_cases h69 : b = 69
    · subst h69; rw [(hb 69 (by decide)).1]; simp only [px_ur, px_wr, px_I0]; grind
    simp only [px_ur, px_wr]; grind
  · funext b k
    by_cases h69 : b = 69
    · subst h69; rw [(hb 69 (by decide)).2.1]; simp only [px_ur, px_wr, px_L0]; grind
    simp only [px_ur, px_wr]; grind
  · funext b k
    by_cases h69 : b = 69
    · subst h69; rw [(hb 69 (by decide)).2.2]; simp only [px_ur, px_wr, px_R0]; grind
    simp only [px_ur, px_wr]; grind

theorem q_X8_init_0 : (px_bk 8 1 cX8_init 0 [(.aload_n 0, (0, 0, 0, 0, 0), 0, 0)] = some 1 ∧ List.all [(.aload_n 0, (0, 0, 0, 0, 0), 0, 0)] (fun x => !px_us x) = true) := by decide +kernel
theorem q_X8_init_4 : (px_bk 8 1 cX8_init 4 [(.aload_n 0, (0, 0, 0, 0, 0), 0, 0), (.sipush 400, (0, 0, 0, 0, 0), 400, 0)] = some 8 ∧ List.all [(.aload_n 0, (0, 0, 0, 0, 0), 0, 0), (.sipush 400, (0, 0, 0, 0, 0), 400, 0)] (fun x => !px_us x) = true) := by decide +kernel
theorem q_X8_init_13 : (px_bk 8 1 cX8_init 13 [(.aload_n 0, (0, 0, 0, 0, 0), 0, 0), (.sipush 401, (0, 0, 0, 0, 0), 401, 0)] = some 17 ∧ List.all [(.aload_n 0, (0, 0, 0, 0, 0), 0, 0), (.sipush 401, (0, 0, 0, 0, 0), 401, 0)] (fun x => !px_us x) = true) := by decide +kernel
theorem q_X8_init_22 : (px_bk 8 1 cX8_init 22 [(.aload_n 0, (0, 0, 0, 0, 0), 0, 0), (.sipush 401, (0, 0, 0, 0, 0), 401, 0)] = some 26 ∧ List.all [(.aload_n 0, (0, 0, 0, 0, 0), 0, 0), (.sipush 401, (0, 0, 0, 0, 0), 401, 0)] (fun x => !px_us x) = true) := by decide +kernel
theorem q_X8_init_31 : (px_bk 8 1 cX8_init 31 [(.aload_n 0, (0, 0, 0, 0, 0), 0, 0), (.sipush 401, (0, 0, 0, 0, 0), 401, 0)] = some 35 ∧ List.all [(.aload_n 0, (0, 0, 0, 0, 0), 0, 0), (.sipush 401, (0, 0, 0, 0, 0), 401, 0)] (fun x => !px_us x) = true) := by decide +kernel
theorem q_X8_init_40 : (px_bk 8 1 cX8_init 40 [(.aload_n 0, (0, 0, 0, 0, 0), 0, 0), (.sipush 401, (0, 0, 0, 0, 0), 401, 0)] = some 44 ∧ List.all [(.aload_n 0, (0, 0, 0, 0, 0), 0, 0), (.sipush 401, (0, 0, 0, 0, 0), 401, 0)] (fun x => !px_us x) = true) := by decide +kernel
theorem q_X8_init_49 : (px_bk 8 1 cX8_init 49 [(.aload_n 0, (0, 0, 0, 0, 0), 0, 0), (.iconst 0, (0, 0, 0, 0, 0), 0, 0), (.putfield 25, (8, 5, 0, 0, 0), 0, 0), (.aload_n 0, (0, 0, 0, 0, 0), 0, 0), (.iconst 0, (0, 0, 0, 0, 0), 0, 0), (.putfield 29, (8, 6, 0, 0, 0), 0, 0)] = some 59 ∧ List.all [(.aload_n 0, (0, 0, 0, 0, 0), 0, 0), (.iconst 0, (0, 0, 0, 0, 0), 0, 0), (.putfield 25, (8, 5, 0, 0, 0), 0, 0), (.aload_n 0, (0, 0, 0, 0, 0), 0, 0), (.iconst 0, (0, 0, 0, 0, 0), 0, 0), (.putfield 29, (8, 6, 0, 0, 0), 0, 0)] (fun x => !px_us x) = true) ∧ px_tr cX8_init 59 .return_ = true := by decide +kernel
set_option maxRecDepth 100000 in
theorem mk_X8 {I : px_I} {L : px_L} {R : px_R} (hb : bOk 70 I L R) : px_K M_X8_init [.ref 70] 71 (px_w I 70 (fun _ => 0)) (px_w L 70 (fun _ => 0)) (px_w R 70 (fun _ => none)) (fun r n2 I2 L2 R2 => r = none ∧ n2 = 76 ∧ I2 = I ∧ L2 = L ∧ R2 = R) := by
  have hb1 : bOk 71 I L R := hb.le (by decide)
  have hb72 : bOk 72 I L R := hb.le (by decide)
  have hb73 : bOk 73 I L R := hb.le (by decide)
  have hb74 : bOk 74 I L R := hb.le (by decide)
  have hb75 : bOk 75 I L R := hb.le (by decide)
  have hb76 : bOk 76 I L R := hb.le (by decide)
  refine px_of (plainFor_of_name np_RX8) (fun _ _ _ => trivial) rfl ?_
  refine px_bc rfl q_X8_init_0 rfl trivial ?_
  refine px_oI (by decide +kernel) (px_i1 153 rfl rfl) (px_i1 25 rfl rfl) (px_i1 26 rfl rfl) rfl rfl ?_
  refine px_bc rfl q_X8_init_4 rfl trivial ?_
  refine px_nA3 (t0 := 0) (N := 400) (by decide +kernel) (Or.inl ⟨rfl, rfl, rfl⟩) rfl rfl rfl rfl (by repeat (first | with_reducible assumption | refine bOk.uI ?_ (by decide) | refine bOk.uR ?_ (by decide) | refine bOk.wI ?_ (by decide) | refine bOk.wR ?_ (by decide) | refine bOk.wL ?_ (by decide) | refine bOk.uL ?_ (by decide))) rfl rfl ?_
  refine px_pF (on := 8) (ci := 8) (kf := 0) (idx := 9) rfl (by decide +kernel) (by decide) ⟨by decide, by decide, rfl⟩ rfl (Or.inr ⟨_, rfl⟩) (by first | exact Or.inl rfl | exact Or.inr ⟨rfl, rfl, rfl⟩) ?_
  refine px_bc rfl q_X8_init_13 rfl trivial ?_
  refine px_nA3 (t0 := 0) (N := 401) (by decide +kernel) (Or.inl ⟨rfl, rfl, rfl⟩) rfl rfl rfl rfl (by repeat (first | with_reducible assumption | refine bOk.uI ?_ (by decide) | refine bOk.uR ?_ (by decide) | refine bOk.wI ?_ (by decide) | refine bOk.wR ?_ (by decide) | refine bOk.wL ?_ (by decide) | refine bOk.uL ?_ (by decide))) rfl rfl ?_
  refine px_pF (on := 8) (ci := 8) (kf := 1) (idx := 13) rfl (by decide +kernel) (by decide) ⟨by decide, by decide, rfl⟩ rfl (Or.inr ⟨_, rfl⟩) (by first | exact Or.inl rfl | exact Or.inr ⟨rfl, rfl, rfl⟩) ?_
  refine px_bc rfl q_X8_init_22 rfl trivial ?_
  refine px_nA3 (t0 := 0) (N := 401) (by decide +kernel) (Or.inl ⟨rfl, rfl, rfl⟩) rfl rfl rfl rfl (by repeat (first | with_reducible assumption | refine bOk.uI ?_ (by decide) | refine bOk.uR ?_ (by decide) | refine bOk.wI ?_ (by decide) | refine bOk.wR ?_ (by decide) | refine bOk.wL ?_ (by decide) | refine bOk.uL ?_ (by decide))) rfl rfl ?_
  refine px_pF (on := 8) (ci := 8) (kf := 2) (idx := 16) rfl (by decide +kernel) (by decide) ⟨by decide, by decide, rfl⟩ rfl (Or.inr ⟨_, rfl⟩) (by first | exact Or.inl rfl | exact Or.inr ⟨rfl, rfl, rfl⟩) ?_
  refine px_bc rfl q_X8_init_31 rfl trivial ?_
  refine px_nA3 (t0 := 0) (N := 401) (by decide +kernel) (Or.inl ⟨rfl, rfl, rfl⟩) rfl rfl rfl rfl (by repeat (first | with_reducible assumption | refine bOk.uI ?_ (by decide) | refine bOk.uR ?_ (by decide) | refine bOk.wI ?_ (by decide) | refine bOk.wR ?_ (by decide) | refine bOk.wL ?_ (by decide) | refine bOk.uL ?_ (by decide))) rfl rfl ?_
  refine px_pF (on := 8) (ci := 8) (kf := 3) (idx := 19) rfl (by decide +kernel) (by decide) ⟨by decide, by decide, rfl⟩ rfl (Or.inr ⟨_, rfl⟩) (by first | exact Or.inl rfl | exact Or.inr ⟨rfl, rfl, rfl⟩) ?_
  refine px_bc rfl q_X8_init_40 rfl trivial ?_
  refine px_nA3 (t0 := 0) (N := 401) (by decide +kernel) (Or.inl ⟨rfl, rfl, rfl⟩) rfl rfl rfl rfl (by repeat (first | with_reducible assumption | refine bOk.uI ?_ (by decide) | refine bOk.uR ?_ (by decide) | refine bOk.wI ?_ (by decide) | refine bOk.wR ?_ (by decide) | refine bOk.wL ?_ (by decide) | refine bOk.uL ?_ (by decide))) rfl rfl ?_
  refine px_pF (on := 8) (ci := 8) (kf := 4) (idx := 22) rfl (by decide +kernel) (by decide) ⟨by decide, by decide, rfl⟩ rfl (Or.inr ⟨_, rfl⟩) (by first | exact Or.inl rfl | exact Or.inr ⟨rfl, rfl, rfl⟩) ?_
  refine px_rvc rfl q_X8_init_49 rfl rfl rfl rfl trivial ⟨rfl, rfl, ?_, ?_, ?_⟩
  · funext b k
    by_cases h70 : b = 70
    · subst h70; rw [(hb 70 (by decide)).1]; simp only [px_ur, px_wr, px_I0]; grind
    simp only [px_ur, px_wr]; grind
  · funext b k
    by_cases h70 : b = 70
    · subst h70; rw [(hb 70 (by decide)).2.1]; simp only [px_ur, px_wr, px_L0]; grind
    simp only [px_ur, px_wr]; grind
  · funext b k
    by_cases h70 : b = 70
    · subst h70; rw [(hb 70 (by decide)).2.2]; simp only [px_ur, px_wr, px_R0]; grind
    simp only [px_ur, px_wr]; grind
