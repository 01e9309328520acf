/-! the book's own methods -/
def bG (g : Int32) (G : Nat) : Prop := (g = 0 ∧ G = 41) ∨ (g = 1 ∧ G = 55)
def cGal (I : px_I) : Prop := ((0 ≤ I 41 13 ∧ I 41 13 ≤ 20) ∧ (0 ≤ I 41 15 ∧ I 41 15 ≤ 30)) ∧ ((0 ≤ I 55 13 ∧ I 55 13 ≤ 20) ∧ (0 ≤ I 55 15 ∧ I 55 15 ≤ 30))
def cSt (I : px_I) : Prop := (1 ≤ I 33 7 ∧ I 33 7 ≤ 24) ∧ (0 ≤ I 33 8 ∧ I 33 8 ≤ 80)
def bEI (I I2 : px_I) : Prop := ∀ b, b ≠ 50 → b ≠ 51 → b ≠ 64 → b ≠ 65 → I2 b = I b
theorem cEI.bA {I I2 : px_I} (h : cEI 41 I I2) : bEI I I2 := fun b h1 h2 h3 h4 => h b h1 h2
theorem cEI.bB {I I2 : px_I} (h : cEI 55 I I2) : bEI I I2 := fun b h1 h2 h3 h4 => h b h3 h4
def bXI (I I2 : px_I) : Prop := ∀ b j, b ≠ 87 → b ≠ 88 → b ≠ 90 → b ≠ 91 → b ≠ 95 → b ≠ 96 → ¬ (b = 86 ∧ (j = 2 ∨ j = 15 ∨ j = 16 ∨ j = 17)) → I2 b j = I b j
def bXL (L L2 : px_L) : Prop := ∀ b, b ≠ 40 → b ≠ 86 → L2 b = L b
theorem bXI.trans {I I1 I2 : px_I} (h : bXI I I1) (h2 : bXI I1 I2) : bXI I I2 := fun b j a1 a2 a3 a4 a5 a6 a7 => (h2 b j a1 a2 a3 a4 a5 a6 a7).trans (h b j a1 a2 a3 a4 a5 a6 a7)
theorem bXL.trans {L L1 L2 : px_L} (h : bXL L L1) (h2 : bXL L1 L2) : bXL L L2 := fun b a1 a2 => (h2 b a1 a2).trans (h b a1 a2)
theorem bXI.rfl' {I : px_I} : bXI I I := fun _ _ _ _ _ _ _ _ _ => rfl
theorem bXL.rfl' {L : px_L} : bXL L L := fun _ _ _ => rfl
theorem cMI.b {I I2 : px_I} (h : cMI I I2) : bXI I I2 := fun b j a1 a2 a3 a4 a5 a6 a7 => h b j a1 a2 a3 a4 a7
theorem cGI.b {I I2 : px_I} (h : cGI I I2) : bXI I I2 := fun b j a1 a2 a3 a4 a5 a6 a7 => by rw [h b a5 a6]
theorem cWL.b {L L2 : px_L} (h : cWL L L2) : bXL L L2 := fun b a1 a2 => h b a2
theorem cDL.b {L L2 : px_L} (h : cDL L L2) : bXL L L2 := fun b a1 a2 => h b a1
theorem bXI.told {n : Nat} {I I2 : px_I} {R : px_R} (h : bXI I I2) (ht : cTold n I R) : cTold n I2 R := fun i hi w hw => by
  obtain ⟨h1, h2, h3⟩ := ht i hi w hw
  refine ⟨h1, h2, ?_, fun k => ?_⟩
  · rw [h w 2 (by omega) (by omega) (by omega) (by omega) (by omega) (by omega) (by omega)]; exact h3.1
  · rw [h (w + 2) k (by omega) (by omega) (by omega) (by omega) (by omega) (by omega) (by omega)]; exact h3.2 k
theorem bXI.st {I I2 : px_I} (h : bXI I I2) (hs : cSt I) : cSt I2 := by
  unfold cSt at *
  rw [h 33 7 (by decide) (by decide) (by decide) (by decide) (by decide) (by decide) (by decide), h 33 8 (by decide) (by decide) (by decide) (by decide) (by decide) (by decide) (by decide)]
  exact hs

theorem q_X11_galleryOf_0 : px_bk 11 2 cX11_galleryOf 0 [(.iload_n 1, (0, 0, 0, 0, 0), 0, 0)] = some 1 ∧ px_t1 cX11_galleryOf 1 .ne 9 = true := by decide +kernel
theorem q_X11_galleryOf_9 : px_bk 11 2 cX11_galleryOf 9 [(.iload_n 1, (0, 0, 0, 0, 0), 0, 0), (.iconst 1, (0, 0, 0, 0, 0), 1, 0)] = some 11 ∧ px_t2 cX11_galleryOf 11 .ne 21 = true := by decide +kernel
theorem q_X11_galleryOf_21 : px_bk 11 2 cX11_galleryOf 21 [(.aconst_null, (0, 0, 0, 0, 0), 0, 0)] = some 22 ∧ px_tr cX11_galleryOf 22 .areturn = true := by decide +kernel
theorem q_X11_galleryOf_14 : px_bk 11 2 cX11_galleryOf 14 [(.aload_n 0, (0, 0, 0, 0, 0), 0, 0), (.getfield 23, (11, 2, 3, 55, 0), 0, 0), (.goto 4, (0, 0, 0, 0, 0), 0, 0)] = some 22 ∧ px_tr cX11_galleryOf 22 .areturn = true := by decide +kernel
theorem q_X11_galleryOf_4 : px_bk 11 2 cX11_galleryOf 4 [(.aload_n 0, (0, 0, 0, 0, 0), 0, 0), (.getfield 19, (11, 1, 3, 41, 0), 0, 0)] = some 8 ∧ px_tr cX11_galleryOf 8 .areturn = true := by decide +kernel
set_option maxRecDepth 100000 in
theorem b_galleryOf {n : Nat} {I : px_I} {L : px_L} {R : px_R} (hg : px_G n R) (g : Int32) : px_KA M_X11_galleryOf [.ref 32, .int g] n I L R (fun o => (o = some 41 ∧ g = 0) ∨ (o = some 55 ∧ g = 1) ∨ (o = none ∧ g ≠ 0 ∧ g ≠ 1)) := by
  refine px_of (plainFor_of_name np_RX11) (fun _ _ _ => trivial) rfl ?_
  refine px_ne rfl q_X11_galleryOf_0 hg rfl trivial (fun c1 => ?_) (fun c1 => ?_)
  · refine px_ine rfl q_X11_galleryOf_9 hg rfl trivial (fun c11 => ?_) (fun c11 => ?_)
    · refine px_raN rfl q_X11_galleryOf_21 rfl rfl rfl hg rfl trivial ⟨⟨rfl, rfl, rfl, rfl⟩, ?_⟩
      first | exact Or.inl ⟨rfl, by assumption⟩ | exact Or.inr (Or.inl ⟨rfl, by assumption⟩) | exact Or.inr (Or.inr ⟨rfl, by assumption, by assumption⟩)
    · refine px_raR rfl q_X11_galleryOf_14 rfl rfl rfl hg rfl trivial ⟨⟨rfl, rfl, rfl, rfl⟩, ?_⟩
      first | exact Or.inl ⟨rfl, by assumption⟩ | exact Or.inr (Or.inl ⟨rfl, by assumption⟩) | exact Or.inr (Or.inr ⟨rfl, by assumption, by assumption⟩)
  · refine px_raR rfl q_X11_galleryOf_4 rfl rfl rfl hg rfl trivial ⟨⟨rfl, rfl, rfl, rfl⟩, ?_⟩
    first | exact Or.inl ⟨rfl, by assumption⟩ | exact Or.inr (Or.inl ⟨rfl, by assumption⟩) | exact Or.inr (Or.inr ⟨rfl, by assumption, by assumption⟩)

theorem q_X11_marks_0 : px_bk 11 1 cX11_marks 0 [(.aload_n 0, (0, 0, 0, 0, 0), 0, 0), (.getfield 19, (11, 1, 3, 41, 0), 0, 0), (.getfield 298, (1, 14, 0, 0, 0), 0, 0), (.aload_n 0, (0, 0, 0, 0, 0), 0, 0), (.getfield 23, (11, 2, 3, 55, 0), 0, 0), (.getfield 298, (1, 14, 0, 0, 0), 0, 0), (.iadd, (0, 0, 0, 0, 0), 0, 0)] = some 15 ∧ px_tr cX11_marks 15 .ireturn = true := by decide +kernel
set_option maxRecDepth 100000 in
theorem b_marks {n : Nat} {I : px_I} {L : px_L} {R : px_R} (hg : px_G n R)  : px_KP M_X11_marks [.ref 32] n I L R (fun r => r = I 41 14 + I 55 14) := by
  refine px_of (plainFor_of_name np_RX11) (fun _ _ _ => trivial) rfl ?_
  refine px_riP rfl q_X11_marks_0 rfl rfl rfl hg rfl trivial ⟨⟨rfl, rfl, rfl, rfl⟩, ?_⟩
  grind

theorem q_X11_repairs_0 : px_bk 11 1 cX11_repairs 0 [(.aload_n 0, (0, 0, 0, 0, 0), 0, 0), (.getfield 19, (11, 1, 3, 41, 0), 0, 0), (.getfield 300, (1, 15, 0, 0, 0), 0, 0), (.aload_n 0, (0, 0, 0, 0, 0), 0, 0), (.getfield 23, (11, 2, 3, 55, 0), 0, 0), (.getfield 300, (1, 15, 0, 0, 0), 0, 0), (.iadd, (0, 0, 0, 0, 0), 0, 0)] = some 15 ∧ px_tr cX11_repairs 15 .ireturn = true := by decide +kernel
set_option maxRecDepth 100000 in
theorem b_repairs {n : Nat} {I : px_I} {L : px_L} {R : px_R} (hg : px_G n R)  : px_KP M_X11_repairs [.ref 32] n I L R (fun r => r = I 41 15 + I 55 15) := by
  refine px_of (plainFor_of_name np_RX11) (fun _ _ _ => trivial) rfl ?_
  refine px_riP rfl q_X11_repairs_0 rfl rfl rfl hg rfl trivial ⟨⟨rfl, rfl, rfl, rfl⟩, ?_⟩
  grind

theorem q_X11_days_0 : px_bk 11 2 cX11_days 0 [(.iload_n 1, (0, 0, 0, 0, 0), 0, 0), (.iconst 1, (0, 0, 0, 0, 0), 1, 0), (.sipush 1000, (0, 0, 0, 0, 0), 1000, 0)] = some 5 ∧ px_tS cX11_days 5 85 = true := by decide +kernel
theorem q_X11_days_8 : px_bk 11 2 cX11_days 8 [] = some 8 ∧ px_t1 cX11_days 8 .eq 23 = true := by decide +kernel
theorem q_X11_days_23 : px_bk 11 2 cX11_days 23 [(.iconst (-1), (0, 0, 0, 0, 0), -1, 0)] = some 24 ∧ px_tr cX11_days 24 .ireturn = true := by decide +kernel
theorem q_X11_days_11 : px_bk 11 2 cX11_days 11 [(.aload_n 0, (0, 0, 0, 0, 0), 0, 0), (.getfield 81, (11, 10, 0, 0, 0), 0, 0), (.iload_n 1, (0, 0, 0, 0, 0), 0, 0), (.iadd, (0, 0, 0, 0, 0), 0, 0), (.sipush 9999, (0, 0, 0, 0, 0), 9999, 0)] = some 20 ∧ px_t2 cX11_days 20 .le 25 = true := by decide +kernel
theorem q_X11_days_25 : px_bk 11 2 cX11_days 25 [(.aload_n 0, (0, 0, 0, 0, 0), 0, 0), (.dup, (0, 0, 0, 0, 0), 0, 0), (.getfield 81, (11, 10, 0, 0, 0), 0, 0), (.iload_n 1, (0, 0, 0, 0, 0), 0, 0), (.iadd, (0, 0, 0, 0, 0), 0, 0), (.putfield 81, (11, 10, 0, 0, 0), 0, 0), (.aload_n 0, (0, 0, 0, 0, 0), 0, 0), (.getfield 81, (11, 10, 0, 0, 0), 0, 0)] = some 39 ∧ px_tr cX11_days 39 .ireturn = true := by decide +kernel
set_option maxRecDepth 100000 in
theorem b_days {n : Nat} {I : px_I} {L : px_L} {R : px_R} (hg : px_G n R) (x : Int32) : px_KS M_X11_days [.ref 32, .int x] n I L R (fun r I2 L2 => L2 = L ∧ (((1 ≤ x ∧ x ≤ 1000) ∧ I 32 10 + x ≤ 9999 ∧ r = I 32 10 + x ∧ I2 = px_u I 32 10 (I 32 10 + x)) ∨ (¬ ((1 ≤ x ∧ x ≤ 1000) ∧ I 32 10 + x ≤ 9999) ∧ r = -1 ∧ I2 = I))) := by
  refine px_of (plainFor_of_name np_RX11) (fun _ _ _ => trivial) rfl ?_
  refine px_cSP rfl q_X11_days_0 hg rfl trivial lk_11_85 nm_X11_within (c_within hg _ _ _) rfl rfl rfl ⟨rfl, rfl⟩ ?_
  intro x5 h5
  refine px_eq rfl q_X11_days_8 hg rfl trivial (fun c8 => ?_) (fun c8 => ?_)
  · replace h5 := px_bf h5 c8
    refine px_riS rfl q_X11_days_23 rfl rfl rfl hg rfl trivial ⟨⟨rfl, rfl⟩, ?_⟩
    grind [px_u_at]
  · replace h5 := px_bt h5 c8
    refine px_ile rfl q_X11_days_11 hg rfl trivial (fun c20 => ?_) (fun c20 => ?_)
    · refine px_riS rfl q_X11_days_25 rfl rfl rfl hg rfl trivial ⟨⟨rfl, rfl⟩, ?_⟩
      grind [px_u_at]
    · refine px_riS rfl q_X11_days_23 rfl rfl rfl hg rfl trivial ⟨⟨rfl, rfl⟩, ?_⟩
      grind [px_u_at]

theorem q_X11_station_0 : px_bk 11 1 cX11_station 0 [(.aload_n 0, (0, 0, 0, 0, 0), 0, 0), (.getfield 10, (11, 0, 3, 33, 0), 0, 0)] = some 4 ∧ px_tv cX11_station 4 89 = true := by decide +kernel
theorem q_X11_station_7 : px_bk 11 1 cX11_station 7 [] = some 7 ∧ px_tr cX11_station 7 .ireturn = true := by decide +kernel
set_option maxRecDepth 100000 in
theorem b_station {n : Nat} {I : px_I} {L : px_L} {R : px_R} (hg : px_G n R)  : px_KS M_X11_station [.ref 32] n I L R (fun r I2 L2 => L2 = L ∧ ((I 33 7 < 24 ∧ r = I 33 7 ∧ I2 = px_u I 33 7 (I 33 7 + 1)) ∨ (¬ I 33 7 < 24 ∧ r = -1 ∧ I2 = I))) := by
  refine px_of (plainFor_of_name np_RX11) (fun _ _ _ => trivial) rfl ?_
  refine px_cVS (ci := 7) rfl q_X11_station_0 hg rfl trivial lk_11_89 nm_X7_addStation (c_addStation hg) rfl rfl (px_lit hg rfl) rfl rfl rfl ⟨rfl, rfl⟩ ?_
  intro x4 I4 L4 h4
  refine px_riS rfl q_X11_station_7 rfl rfl rfl hg rfl trivial ⟨⟨rfl, rfl⟩, ?_⟩
  assumption

theorem q_X11_sight_0 : px_bk 11 6 cX11_sight 0 [(.iload_n 1, (0, 0, 0, 0, 0), 0, 0)] = some 1 ∧ px_tS cX11_sight 1 93 = true := by decide +kernel
theorem q_X11_sight_4 : px_bk 11 6 cX11_sight 4 [] = some 4 ∧ px_t1 cX11_sight 4 .eq 21 = true := by decide +kernel
theorem q_X11_sight_21 : px_bk 11 6 cX11_sight 21 [(.iconst (-1), (0, 0, 0, 0, 0), -1, 0)] = some 22 ∧ px_tr cX11_sight 22 .ireturn = true := by decide +kernel
theorem q_X11_sight_7 : px_bk 11 6 cX11_sight 7 [(.iload 4, (0, 0, 0, 0, 0), 0, 0), (.iload 5, (0, 0, 0, 0, 0), 0, 0), (.ldc 97, (0, 0, 0, 0, 0), -1000000, 0), (.ldc 98, (0, 0, 0, 0, 0), 1000000, 0)] = some 15 ∧ px_tS cX11_sight 15 99 = true := by decide +kernel
theorem q_X11_sight_18 : px_bk 11 6 cX11_sight 18 [] = some 18 ∧ px_t1 cX11_sight 18 .ne 23 = true := by decide +kernel
theorem q_X11_sight_23 : px_bk 11 6 cX11_sight 23 [(.aload_n 0, (0, 0, 0, 0, 0), 0, 0), (.getfield 10, (11, 0, 3, 33, 0), 0, 0), (.iload_n 2, (0, 0, 0, 0, 0), 0, 0)] = some 28 ∧ px_tv cX11_sight 28 103 = true := by decide +kernel
theorem q_X11_sight_31 : px_bk 11 6 cX11_sight 31 [] = some 31 ∧ px_t1 cX11_sight 31 .eq 50 = true := by decide +kernel
theorem q_X11_sight_50 : px_bk 11 6 cX11_sight 50 [(.iconst (-1), (0, 0, 0, 0, 0), -1, 0)] = some 51 ∧ px_tr cX11_sight 51 .ireturn = true := by decide +kernel
theorem q_X11_sight_34 : px_bk 11 6 cX11_sight 34 [(.aload_n 0, (0, 0, 0, 0, 0), 0, 0), (.getfield 10, (11, 0, 3, 33, 0), 0, 0), (.iload_n 3, (0, 0, 0, 0, 0), 0, 0)] = some 39 ∧ px_tv cX11_sight 39 103 = true := by decide +kernel
theorem q_X11_sight_42 : px_bk 11 6 cX11_sight 42 [] = some 42 ∧ px_t1 cX11_sight 42 .eq 50 = true := by decide +kernel
theorem q_X11_sight_45 : px_bk 11 6 cX11_sight 45 [(.iload_n 2, (0, 0, 0, 0, 0), 0, 0), (.iload_n 3, (0, 0, 0, 0, 0), 0, 0)] = some 47 ∧ px_t2 cX11_sight 47 .ne 52 = true := by decide +kernel
theorem q_X11_sight_52 : px_bk 11 6 cX11_sight 52 [(.aload_n 0, (0, 0, 0, 0, 0), 0, 0), (.getfield 10, (11, 0, 3, 33, 0), 0, 0), (.iload_n 1, (0, 0, 0, 0, 0), 0, 0), (.iload_n 2, (0, 0, 0, 0, 0), 0, 0), (.iload_n 3, (0, 0, 0, 0, 0), 0, 0), (.iload 4, (0, 0, 0, 0, 0), 0, 0), (.iload 5, (0, 0, 0, 0, 0), 0, 0), (.aload_n 0, (0, 0, 0, 0, 0), 0, 0), (.getfield 81, (11, 10, 0, 0, 0), 0, 0)] = some 67 ∧ px_tv cX11_sight 67 106 = true := by decide +kernel
theorem q_X11_sight_70 : px_bk 11 6 cX11_sight 70 [] = some 70 ∧ px_tr cX11_sight 70 .ireturn = true := by decide +kernel
set_option maxRecDepth 100000 in
theorem b_sight {n : Nat} {I : px_I} {L : px_L} {R : px_R} (hg : px_G n R) (a f t lo hi : Int32) (hs : 0 ≤ I 33 8) : px_KS M_X11_sight [.ref 32, .int a, .int f, .int t, .int lo, .int hi] n I L R (fun r I2 L2 => L2 = L ∧ ((((0 ≤ a ∧ a ≤ 2) ∧ (-1000000 ≤ lo ∧ lo ≤ hi ∧ hi ≤ 1000000) ∧ (0 ≤ f ∧ f < I 33 7) ∧ (0 ≤ t ∧ t < I 33 7) ∧ f ≠ t ∧ I 33 8 < 80) ∧ r = I 33 8 ∧ I2 = px_u (px_u (px_u (px_u (px_u (px_u (px_u I 34 (I 33 8).toNatClampNeg a) 35 (I 33 8).toNatClampNeg f) 36 (I 33 8).toNatClampNeg t) 37 (I 33 8).toNatClampNeg lo) 38 (I 33 8).toNatClampNeg hi) 39 (I 33 8).toNatClampNeg (I 32 10)) 33 8 (I 33 8 + 1)) ∨ (¬ ((0 ≤ a ∧ a ≤ 2) ∧ (-1000000 ≤ lo ∧ lo ≤ hi ∧ hi ≤ 1000000) ∧ (0 ≤ f ∧ f < I 33 7) ∧ (0 ≤ t ∧ t < I 33 7) ∧ f ≠ t ∧ I 33 8 < 80) ∧ r = -1 ∧ I2 = I))) := by
  refine px_of (plainFor_of_name np_RX11) (fun _ _ _ => trivial) rfl ?_
  refine px_cSP rfl q_X11_sight_0 hg rfl trivial lk_11_93 nm_X11_isAxis (c_isAxis hg _) rfl rfl rfl ⟨rfl, rfl⟩ ?_
  intro x1 h1
  refine px_eq rfl q_X11_sight_4 hg rfl trivial (fun c4 => ?_) (fun c4 => ?_)
  · replace h1 := px_bf h1 c4
    refine px_riS rfl q_X11_sight_21 rfl rfl rfl hg rfl trivial ⟨⟨rfl, rfl⟩, ?_⟩
    first
    | exact ⟨rfl, Or.inr ⟨fun z => by first | exact absurd z.1 (by assumption) | exact absurd z.2.1 (by assumption) | exact absurd z.2.2.1 (by assumption) | exact absurd z.2.2.2.1 (by assumption) | exact absurd (by assumption) z.2.2.2.2.1, rfl, rfl⟩⟩
    | (obtain ⟨rfl, h67⟩ := h67
       refine ⟨rfl, h67.imp (fun z => ⟨⟨by assumption, by assumption, by assumption, by assumption, by assumption, z.1⟩, z.2⟩) (fun z => ⟨fun q => z.1 q.2.2.2.2.2, z.2⟩)⟩)
  · replace h1 := px_bt h1 c4
    refine px_cSP rfl q_X11_sight_7 hg rfl trivial lk_11_99 nm_X11_ordered (c_ordered hg _ _ _ _) rfl rfl rfl ⟨rfl, rfl⟩ ?_
    intro x15 h15
    refine px_ne rfl q_X11_sight_18 hg rfl trivial (fun c18 => ?_) (fun c18 => ?_)
    · replace h15 := px_bt h15 c18
      refine px_cVP (ci := 7) rfl q_X11_sight_23 hg rfl trivial lk_11_103 nm_X7_has (c_has hg _) rfl rfl (px_lit hg rfl) rfl rfl rfl ⟨rfl, rfl⟩ ?_
      intro x28 h28
      refine px_eq rfl q_X11_sight_31 hg rfl trivial (fun c31 => ?_) (fun c31 => ?_)
      · replace h28 := px_bf h28 c31
        refine px_riS rfl q_X11_sight_50 rfl rfl rfl hg rfl trivial ⟨⟨rfl, rfl⟩, ?_⟩
        first
        | exact ⟨rfl, Or.inr ⟨fun z => by first | exact absurd z.1 (by assumption) | exact absurd z.2.1 (by assumption) | exact absurd z.2.2.1 (by assumption) | exact absurd z.2.2.2.1 (by assumption) | exact absurd (by assumption) z.2.2.2.2.1, rfl, rfl⟩⟩
        | (obtain ⟨rfl, h67⟩ := h67
           refine ⟨rfl, h67.imp (fun z => ⟨⟨by assumption, by assumption, by assumption, by assumption, by assumption, z.1⟩, z.2⟩) (fun z => ⟨fun q => z.1 q.2.2.2.2.2, z.2⟩)⟩)
      · replace h28 := px_bt h28 c31
        refine px_cVP (ci := 7) rfl q_X11_sight_34 hg rfl trivial lk_11_103 nm_X7_has (c_has hg _) rfl rfl (px_lit hg rfl) rfl rfl rfl ⟨rfl, rfl⟩ ?_
        intro x39 h39
        refine px_eq rfl q_X11_sight_42 hg rfl trivial (fun c42 => ?_) (fun c42 => ?_)
        · replace h39 := px_bf h39 c42
          refine px_riS rfl q_X11_sight_50 rfl rfl rfl hg rfl trivial ⟨⟨rfl, rfl⟩, ?_⟩
          first
          | exact ⟨rfl, Or.inr ⟨fun z => by first | exact absurd z.1 (by assumption) | exact absurd z.2.1 (by assumption) | exact absurd z.2.2.1 (by assumption) | exact absurd z.2.2.2.1 (by assumption) | exact absurd (by assumption) z.2.2.2.2.1, rfl, rfl⟩⟩
          | (obtain ⟨rfl, h67⟩ := h67
             refine ⟨rfl, h67.imp (fun z => ⟨⟨by assumption, by assumption, by assumption, by assumption, by assumption, z.1⟩, z.2⟩) (fun z => ⟨fun q => z.1 q.2.2.2.2.2, z.2⟩)⟩)
        · replace h39 := px_bt h39 c42
          refine px_ine rfl q_X11_sight_45 hg rfl trivial (fun c47 => ?_) (fun c47 => ?_)
          · refine px_cVS (ci := 7) rfl q_X11_sight_52 hg rfl trivial lk_11_106 nm_X7_addSight (c_addSight hg _ _ _ _ _ _ (by assumption)) rfl rfl (px_lit hg rfl) rfl rfl rfl ⟨rfl, rfl⟩ ?_
            intro x67 I67 L67 h67
            refine px_riS rfl q_X11_sight_70 rfl rfl rfl hg rfl trivial ⟨⟨rfl, rfl⟩, ?_⟩
            first
            | exact ⟨rfl, Or.inr ⟨fun z => by first | exact absurd z.1 (by assumption) | exact absurd z.2.1 (by assumption) | exact absurd z.2.2.1 (by assumption) | exact absurd z.2.2.2.1 (by assumption) | exact absurd (by assumption) z.2.2.2.2.1, rfl, rfl⟩⟩
            | (obtain ⟨rfl, h67⟩ := h67
               refine ⟨rfl, h67.imp (fun z => ⟨⟨by assumption, by assumption, by assumption, by assumption, by assumption, z.1⟩, z.2⟩) (fun z => ⟨fun q => z.1 q.2.2.2.2.2, z.2⟩)⟩)
          · refine px_riS rfl q_X11_sight_50 rfl rfl rfl hg rfl trivial ⟨⟨rfl, rfl⟩, ?_⟩
            first
            | exact ⟨rfl, Or.inr ⟨fun z => by first | exact absurd z.1 (by assumption) | exact absurd z.2.1 (by assumption) | exact absurd z.2.2.1 (by assumption) | exact absurd z.2.2.2.1 (by assumption) | exact absurd (by assumption) z.2.2.2.2.1, rfl, rfl⟩⟩
            | (obtain ⟨rfl, h67⟩ := h67
               refine ⟨rfl, h67.imp (fun z => ⟨⟨by assumption, by assumption, by assumption, by assumption, by assumption, z.1⟩, z.2⟩) (fun z => ⟨fun q => z.1 q.2.2.2.2.2, z.2⟩)⟩)
    · replace h15 := px_bf h15 c18
      refine px_riS rfl q_X11_sight_21 rfl rfl rfl hg rfl trivial ⟨⟨rfl, rfl⟩, ?_⟩
      first
      | exact ⟨rfl, Or.inr ⟨fun z => by first | exact absurd z.1 (by assumption) | exact absurd z.2.1 (by assumption) | exact absurd z.2.2.1 (by assumption) | exact absurd z.2.2.2.1 (by assumption) | exact absurd (by assumption) z.2.2.2.2.1, rfl, rfl⟩⟩
      | (obtain ⟨rfl, h67⟩ := h67
         refine ⟨rfl, h67.imp (fun z => ⟨⟨by assumption, by assumption, by assumption, by assumption, by assumption, z.1⟩, z.2⟩) (fun z => ⟨fun q => z.1 q.2.2.2.2.2, z.2⟩)⟩)

theorem q_X11_closed_0 : px_bk 11 3 cX11_closed 0 [(.iload_n 1, (0, 0, 0, 0, 0), 0, 0)] = some 1 ∧ px_tS cX11_closed 1 93 = true := by decide +kernel
theorem q_X11_closed_4 : px_bk 11 3 cX11_closed 4 [] = some 4 ∧ px_t1 cX11_closed 4 .eq 14 = true := by decide +kernel
theorem q_X11_closed_14 : px_bk 11 3 cX11_closed 14 [(.iconst (-1), (0, 0, 0, 0, 0), -1, 0)] = some 15 ∧ px_tr cX11_closed 15 .ireturn = true := by decide +kernel
theorem q_X11_closed_7 : px_bk 11 3 cX11_closed 7 [(.iload_n 2, (0, 0, 0, 0, 0), 0, 0)] = some 8 ∧ px_tS cX11_closed 8 110 = true := by decide +kernel
theorem q_X11_closed_11 : px_bk 11 3 cX11_closed 11 [] = some 11 ∧ px_t1 cX11_closed 11 .ne 16 = true := by decide +kernel
theorem q_X11_closed_16 : px_bk 11 3 cX11_closed 16 [(.aload_n 0, (0, 0, 0, 0, 0), 0, 0), (.getfield 10, (11, 0, 3, 33, 0), 0, 0), (.iload_n 1, (0, 0, 0, 0, 0), 0, 0), (.iload_n 2, (0, 0, 0, 0, 0), 0, 0), (.iconst (-1), (0, 0, 0, 0, 0), -1, 0), (.iconst (-1), (0, 0, 0, 0, 0), -1, 0)] = some 24 ∧ px_tv cX11_closed 24 113 = true := by decide +kernel
theorem q_X11_closed_27 : px_bk 11 3 cX11_closed 27 [] = some 27 ∧ px_t1 cX11_closed 27 .eq 34 = true := by decide +kernel
theorem q_X11_closed_34 : px_bk 11 3 cX11_closed 34 [(.iconst 0, (0, 0, 0, 0, 0), 0, 0)] = some 35 ∧ px_tr cX11_closed 35 .ireturn = true := by decide +kernel
theorem q_X11_closed_30 : px_bk 11 3 cX11_closed 30 [(.iconst 1, (0, 0, 0, 0, 0), 1, 0), (.goto 4, (0, 0, 0, 0, 0), 0, 0)] = some 35 ∧ px_tr cX11_closed 35 .ireturn = true := by decide +kernel
set_option maxRecDepth 100000 in
theorem b_closed {n : Nat} {I : px_I} {L : px_L} {R : px_R} (hg : px_G n R) (a k : Int32) (hS : cSt I) : px_KS M_X11_closed [.ref 32, .int a, .int k] n I L R (fun r I2 L2 => I2 = I ∧ cDL L L2) := by
  refine px_of (plainFor_of_name np_RX11) (fun _ _ _ => trivial) rfl ?_
  have hs1 := hS.2
  have hn1 := hS.1.2
  refine px_cSP rfl q_X11_closed_0 hg rfl trivial lk_11_93 nm_X11_isAxis (c_isAxis hg _) rfl rfl rfl ⟨rfl, rfl⟩ ?_
  intro x1 h1
  refine px_eq rfl q_X11_closed_4 hg rfl trivial (fun c4 => ?_) (fun c4 => ?_)
  · replace h1 := px_bf h1 c4
    refine px_riS rfl q_X11_closed_14 rfl rfl rfl hg rfl trivial ⟨⟨rfl, rfl⟩, ?_⟩
    first | exact ⟨rfl, h24⟩ | exact ⟨rfl, fun _ _ => rfl⟩
  · replace h1 := px_bt h1 c4
    refine px_cSP rfl q_X11_closed_7 hg rfl trivial lk_11_110 nm_X11_isDay (c_isDay hg _) rfl rfl rfl ⟨rfl, rfl⟩ ?_
    intro x8 h8
    refine px_ne rfl q_X11_closed_11 hg rfl trivial (fun c11 => ?_) (fun c11 => ?_)
    · replace h8 := px_bt h8 c11
      refine px_cVS (ci := 7) rfl q_X11_closed_16 hg rfl trivial lk_11_113 nm_X7_settle (c_settle hg _ _ _ _ (by assumption) (by assumption)) rfl rfl (px_lit hg rfl) rfl rfl rfl ⟨rfl, rfl⟩ ?_
      intro x24 I24 L24 h24
      obtain ⟨hr24, rfl, h24⟩ := h24
      refine px_eq rfl q_X11_closed_27 hg rfl trivial (fun c27 => ?_) (fun c27 => ?_)
      · refine px_riS rfl q_X11_closed_34 rfl rfl rfl hg rfl trivial ⟨⟨rfl, rfl⟩, ?_⟩
        first | exact ⟨rfl, h24⟩ | exact ⟨rfl, fun _ _ => rfl⟩
      · refine px_riS rfl q_X11_closed_30 rfl rfl rfl hg rfl trivial ⟨⟨rfl, rfl⟩, ?_⟩
        first | exact ⟨rfl, h24⟩ | exact ⟨rfl, fun _ _ => rfl⟩
    · replace h8 := px_bf h8 c11
      refine px_riS rfl q_X11_closed_14 rfl rfl rfl hg rfl trivial ⟨⟨rfl, rfl⟩, ?_⟩
      first | exact ⟨rfl, h24⟩ | exact ⟨rfl, fun _ _ => rfl⟩

theorem q_X11_gap_0 : px_bk 11 6 cX11_gap 0 [(.iload_n 1, (0, 0, 0, 0, 0), 0, 0)] = some 1 ∧ px_tS cX11_gap 1 93 = true := by decide +kernel
theorem q_X11_gap_4 : px_bk 11 6 cX11_gap 4 [] = some 4 ∧ px_t1 cX11_gap 4 .eq 37 = true := by decide +kernel
theorem q_X11_gap_37 : px_bk 11 6 cX11_gap 37 [(.ldc 120, (0, 0, 0, 0, 0), -2000000000, 0)] = some 39 ∧ px_tr cX11_gap 39 .ireturn = true := by decide +kernel
theorem q_X11_gap_7 : px_bk 11 6 cX11_gap 7 [(.iload 4, (0, 0, 0, 0, 0), 0, 0)] = some 9 ∧ px_tS cX11_gap 9 110 = true := by decide +kernel
theorem q_X11_gap_12 : px_bk 11 6 cX11_gap 12 [] = some 12 ∧ px_t1 cX11_gap 12 .eq 37 = true := by decide +kernel
theorem q_X11_gap_15 : px_bk 11 6 cX11_gap 15 [(.aload_n 0, (0, 0, 0, 0, 0), 0, 0), (.getfield 10, (11, 0, 3, 33, 0), 0, 0), (.iload_n 2, (0, 0, 0, 0, 0), 0, 0)] = some 20 ∧ px_tv cX11_gap 20 103 = true := by decide +kernel
theorem q_X11_gap_23 : px_bk 11 6 cX11_gap 23 [] = some 23 ∧ px_t1 cX11_gap 23 .eq 37 = true := by decide +kernel
theorem q_X11_gap_26 : px_bk 11 6 cX11_gap 26 [(.aload_n 0, (0, 0, 0, 0, 0), 0, 0), (.getfield 10, (11, 0, 3, 33, 0), 0, 0), (.iload_n 3, (0, 0, 0, 0, 0), 0, 0)] = some 31 ∧ px_tv cX11_gap 31 103 = true := by decide +kernel
theorem q_X11_gap_34 : px_bk 11 6 cX11_gap 34 [] = some 34 ∧ px_t1 cX11_gap 34 .ne 40 = true := by decide +kernel
theorem q_X11_gap_40 : px_bk 11 6 cX11_gap 40 [(.aload_n 0, (0, 0, 0, 0, 0), 0, 0), (.getfield 10, (11, 0, 3, 33, 0), 0, 0), (.iload_n 1, (0, 0, 0, 0, 0), 0, 0), (.iload_n 2, (0, 0, 0, 0, 0), 0, 0), (.iload_n 3, (0, 0, 0, 0, 0), 0, 0), (.iload 4, (0, 0, 0, 0, 0), 0, 0), (.iload 5, (0, 0, 0, 0, 0), 0, 0)] = some 51 ∧ px_tv cX11_gap 51 121 = true := by decide +kernel
theorem q_X11_gap_54 : px_bk 11 6 cX11_gap 54 [] = some 54 ∧ px_tr cX11_gap 54 .ireturn = true := by decide +kernel
set_option maxRecDepth 100000 in
theorem b_gap {n : Nat} {I : px_I} {L : px_L} {R : px_R} (hg : px_G n R) (a f t k h : Int32) (hS : cSt I) : px_KS M_X11_gap [.ref 32, .int a, .int f, .int t, .int k, .int h] n I L R (fun r I2 L2 => I2 = I ∧ cDL L L2) := by
  refine px_of (plainFor_of_name np_RX11) (fun _ _ _ => trivial) rfl ?_
  have hs1 := hS.2
  have hn1 := hS.1.2
  refine px_cSP rfl q_X11_gap_0 hg rfl trivial lk_11_93 nm_X11_isAxis (c_isAxis hg _) rfl rfl rfl ⟨rfl, rfl⟩ ?_
  intro x1 h1
  refine px_eq rfl q_X11_gap_4 hg rfl trivial (fun c4 => ?_) (fun c4 => ?_)
  · replace h1 := px_bf h1 c4
    refine px_riS rfl q_X11_gap_37 rfl rfl rfl hg rfl trivial ⟨⟨rfl, rfl⟩, ?_⟩
    first | exact h51 | exact ⟨rfl, fun _ _ => rfl⟩
  · replace h1 := px_bt h1 c4
    refine px_cSP rfl q_X11_gap_7 hg rfl trivial lk_11_110 nm_X11_isDay (c_isDay hg _) rfl rfl rfl ⟨rfl, rfl⟩ ?_
    intro x9 h9
    refine px_eq rfl q_X11_gap_12 hg rfl trivial (fun c12 => ?_) (fun c12 => ?_)
    · replace h9 := px_bf h9 c12
      refine px_riS rfl q_X11_gap_37 rfl rfl rfl hg rfl trivial ⟨⟨rfl, rfl⟩, ?_⟩
      first | exact h51 | exact ⟨rfl, fun _ _ => rfl⟩
    · replace h9 := px_bt h9 c12
      refine px_cVP (ci := 7) rfl q_X11_gap_15 hg rfl trivial lk_11_103 nm_X7_has (c_has hg _) rfl rfl (px_lit hg rfl) rfl rfl rfl ⟨rfl, rfl⟩ ?_
      intro x20 h20
      refine px_eq rfl q_X11_gap_23 hg rfl trivial (fun c23 => ?_) (fun c23 => ?_)
      · replace h20 := px_bf h20 c23
        refine px_riS rfl q_X11_gap_37 rfl rfl rfl hg rfl trivial ⟨⟨rfl, rfl⟩, ?_⟩
        first | exact h51 | exact ⟨rfl, fun _ _ => rfl⟩
      · replace h20 := px_bt h20 c23
        refine px_cVP (ci := 7) rfl q_X11_gap_26 hg rfl trivial lk_11_103 nm_X7_has (c_has hg _) rfl rfl (px_lit hg rfl) rfl rfl rfl ⟨rfl, rfl⟩ ?_
        intro x31 h31
        refine px_ne rfl q_X11_gap_34 hg rfl trivial (fun c34 => ?_) (fun c34 => ?_)
        · replace h31 := px_bt h31 c34
          refine px_cVS (ci := 7) rfl q_X11_gap_40 hg rfl trivial lk_11_121 nm_X7_bound (c_bound hg _ _ _ _ _ (by assumption) (by assumption)) rfl rfl (px_lit hg rfl) rfl rfl rfl ⟨rfl, rfl⟩ ?_
          intro x51 I51 L51 h51
          refine px_riS rfl q_X11_gap_54 rfl rfl rfl hg rfl trivial ⟨⟨rfl, rfl⟩, ?_⟩
          first | exact h51 | exact ⟨rfl, fun _ _ => rfl⟩
        · replace h31 := px_bf h31 c34
          refine px_riS rfl q_X11_gap_37 rfl rfl rfl hg rfl trivial ⟨⟨rfl, rfl⟩, ?_⟩
          first | exact h51 | exact ⟨rfl, fun _ _ => rfl⟩

theorem q_X11_span_0 : px_bk 11 5 cX11_span 0 [(.aload_n 0, (0, 0, 0, 0, 0), 0, 0), (.iload_n 1, (0, 0, 0, 0, 0), 0, 0), (.iconst 0, (0, 0, 0, 0, 0), 0, 0), (.iload_n 2, (0, 0, 0, 0, 0), 0, 0), (.iload_n 3, (0, 0, 0, 0, 0), 0, 0), (.iload 4, (0, 0, 0, 0, 0), 0, 0)] = some 7 ∧ px_tv cX11_span 7 116 = true := by decide +kernel
theorem q_X11_span_10 : px_bk 11 5 cX11_span 10 [] = some 10 ∧ px_tr cX11_span 10 .ireturn = true := by decide +kernel
set_option maxRecDepth 100000 in
theorem b_span {n : Nat} {I : px_I} {L : px_L} {R : px_R} (hg : px_G n R) (a t k h : Int32) (hS : cSt I) : px_KS M_X11_span [.ref 32, .int a, .int t, .int k, .int h] n I L R (fun r I2 L2 => I2 = I ∧ cDL L L2) := by
  refine px_of (plainFor_of_name np_RX11) (fun _ _ _ => trivial) rfl ?_
  refine px_cVS (ci := 11) rfl q_X11_span_0 hg rfl trivial lk_11_116 nm_X11_gap (b_gap hg _ _ _ _ _ ‹_›) rfl rfl (px_lit hg rfl) rfl rfl rfl ⟨rfl, rfl⟩ ?_
  intro x7 I7 L7 h7
  refine px_riS rfl q_X11_span_10 rfl rfl rfl hg rfl trivial ⟨⟨rfl, rfl⟩, ?_⟩
  assumption

theorem q_X11_blamed_0 : px_bk 11 4 cX11_blamed 0 [(.iload_n 1, (0, 0, 0, 0, 0), 0, 0)] = some 1 ∧ px_tS cX11_blamed 1 93 = true := by decide +kernel
theorem q_X11_blamed_4 : px_bk 11 4 cX11_blamed 4 [] = some 4 ∧ px_t1 cX11_blamed 4 .eq 18 = true := by decide +kernel
theorem q_X11_blamed_18 : px_bk 11 4 cX11_blamed 18 [(.iconst (-1), (0, 0, 0, 0, 0), -1, 0)] = some 19 ∧ px_tr cX11_blamed 19 .ireturn = true := by decide +kernel
theorem q_X11_blamed_7 : px_bk 11 4 cX11_blamed 7 [(.iload_n 2, (0, 0, 0, 0, 0), 0, 0)] = some 8 ∧ px_tS cX11_blamed 8 110 = true := by decide +kernel
theorem q_X11_blamed_11 : px_bk 11 4 cX11_blamed 11 [] = some 11 ∧ px_t1 cX11_blamed 11 .eq 18 = true := by decide +kernel
theorem q_X11_blamed_14 : px_bk 11 4 cX11_blamed 14 [(.iload_n 3, (0, 0, 0, 0, 0), 0, 0)] = some 15 ∧ px_t1 cX11_blamed 15 .ge 20 = true := by decide +kernel
theorem q_X11_blamed_20 : px_bk 11 4 cX11_blamed 20 [(.aload_n 0, (0, 0, 0, 0, 0), 0, 0), (.getfield 10, (11, 0, 3, 33, 0), 0, 0), (.iload_n 1, (0, 0, 0, 0, 0), 0, 0), (.iload_n 2, (0, 0, 0, 0, 0), 0, 0), (.iload_n 3, (0, 0, 0, 0, 0), 0, 0)] = some 27 ∧ px_tv cX11_blamed 27 124 = true := by decide +kernel
theorem q_X11_blamed_30 : px_bk 11 4 cX11_blamed 30 [] = some 30 ∧ px_tr cX11_blamed 30 .ireturn = true := by decide +kernel
set_option maxRecDepth 100000 in
theorem b_blamed {n : Nat} {I : px_I} {L : px_L} {R : px_R} (hg : px_G n R) (a k i : Int32) (hS : cSt I) : px_KS M_X11_blamed [.ref 32, .int a, .int k, .int i] n I L R (fun r I2 L2 => I2 = I ∧ cDL L L2) := by
  refine px_of (plainFor_of_name np_RX11) (fun _ _ _ => trivial) rfl ?_
  have hs1 := hS.2
  have hn1 := hS.1.2
  refine px_cSP rfl q_X11_blamed_0 hg rfl trivial lk_11_93 nm_X11_isAxis (c_isAxis hg _) rfl rfl rfl ⟨rfl, rfl⟩ ?_
  intro x1 h1
  refine px_eq rfl q_X11_blamed_4 hg rfl trivial (fun c4 => ?_) (fun c4 => ?_)
  · replace h1 := px_bf h1 c4
    refine px_riS rfl q_X11_blamed_18 rfl rfl rfl hg rfl trivial ⟨⟨rfl, rfl⟩, ?_⟩
    first | assumption | exact ⟨rfl, fun _ _ => rfl⟩
  · replace h1 := px_bt h1 c4
    refine px_cSP rfl q_X11_blamed_7 hg rfl trivial lk_11_110 nm_X11_isDay (c_isDay hg _) rfl rfl rfl ⟨rfl, rfl⟩ ?_
    intro x8 h8
    refine px_eq rfl q_X11_blamed_11 hg rfl trivial (fun c11 => ?_) (fun c11 => ?_)
    · replace h8 := px_bf h8 c11
      refine px_riS rfl q_X11_blamed_18 rfl rfl rfl hg rfl trivial ⟨⟨rfl, rfl⟩, ?_⟩
      first | assumption | exact ⟨rfl, fun _ _ => rfl⟩
    · replace h8 := px_bt h8 c11
      refine px_ge rfl q_X11_blamed_14 hg rfl trivial (fun c15 => ?_) (fun c15 => ?_)
      · refine px_cVS (ci := 7) rfl q_X11_blamed_20 hg rfl trivial lk_11_124 nm_X7_culprit (c_culprit hg _ _ _ (by assumption) (by assumption)) rfl rfl (px_lit hg rfl) rfl rfl rfl ⟨rfl, rfl⟩ ?_
        intro x27 I27 L27 h27
        refine px_riS rfl q_X11_blamed_30 rfl rfl rfl hg rfl trivial ⟨⟨rfl, rfl⟩, ?_⟩
        first | assumption | exact ⟨rfl, fun _ _ => rfl⟩
      · refine px_riS rfl q_X11_blamed_18 rfl rfl rfl hg rfl trivial ⟨⟨rfl, rfl⟩, ?_⟩
        first | assumption | exact ⟨rfl, fun _ _ => rfl⟩

theorem q_X11_reach_0 : px_bk 11 9 cX11_reach 0 [(.aload_n 0, (0, 0, 0, 0, 0), 0, 0), (.iload_n 1, (0, 0, 0, 0, 0), 0, 0)] = some 2 ∧ px_tv cX11_reach 2 128 = true := by decide +kernel
theorem q_X11_reach_5 : px_bk 11 9 cX11_reach 5 [(.astore 8, (0, 0, 0, 0, 0), 0, 0), (.aload 8, (0, 0, 0, 0, 0), 0, 0)] = some 9 ∧ px_t3 cX11_reach 9 30 = true := by decide +kernel
theorem q_X11_reach_12 : px_bk 11 9 cX11_reach 12 [(.iload 7, (0, 0, 0, 0, 0), 0, 0), (.iconst (-1), (0, 0, 0, 0, 0), -1, 0)] = some 15 ∧ px_t2 cX11_reach 15 .eq 32 = true := by decide +kernel
theorem q_X11_reach_32 : px_bk 11 9 cX11_reach 32 [(.aload 8, (0, 0, 0, 0, 0), 0, 0), (.iload_n 2, (0, 0, 0, 0, 0), 0, 0), (.iload_n 3, (0, 0, 0, 0, 0), 0, 0), (.iload 4, (0, 0, 0, 0, 0), 0, 0), (.iload 5, (0, 0, 0, 0, 0), 0, 0), (.iload 6, (0, 0, 0, 0, 0), 0, 0), (.iload 7, (0, 0, 0, 0, 0), 0, 0)] = some 44 ∧ px_tv cX11_reach 44 132 = true := by decide +kernel
theorem q_X11_reach_47 : px_bk 11 9 cX11_reach 47 [] = some 47 ∧ px_tr cX11_reach 47 .ireturn = true := by decide +kernel
theorem q_X11_reach_18 : px_bk 11 9 cX11_reach 18 [(.aload_n 0, (0, 0, 0, 0, 0), 0, 0), (.getfield 10, (11, 0, 3, 33, 0), 0, 0), (.iload 7, (0, 0, 0, 0, 0), 0, 0)] = some 24 ∧ px_tv cX11_reach 24 103 = true := by decide +kernel
theorem q_X11_reach_27 : px_bk 11 9 cX11_reach 27 [] = some 27 ∧ px_t1 cX11_reach 27 .ne 32 = true := by decide +kernel
theorem q_X11_reach_30 : px_bk 11 9 cX11_reach 30 [(.iconst (-1), (0, 0, 0, 0, 0), -1, 0)] = some 31 ∧ px_tr cX11_reach 31 .ireturn = true := by decide +kernel
set_option maxRecDepth 100000 in
theorem b_reach {n : Nat} {I : px_I} {L : px_L} {R : px_R} (hg : px_G n R) (g lo hi sl fa w st : Int32) (hG : cGal I) : px_KS M_X11_reach [.ref 32, .int g, .int lo, .int hi, .int sl, .int fa, .int w, .int st] n I L R (fun r I2 L2 => L2 = L ∧ ((∃ G, (bG g G ∧ (st = -1 ∨ (0 ≤ st ∧ st < I 33 7)) ∧ cReachOk G I lo hi sl fa w) ∧ r = (if I G 13 = 0 then 1 else I G 13) ∧ I2 = cReach G I lo hi sl fa w st) ∨ (¬ (∃ G, bG g G ∧ (st = -1 ∨ (0 ≤ st ∧ st < I 33 7)) ∧ cReachOk G I lo hi sl fa w) ∧ r = -1 ∧ I2 = I))) := by
  refine px_of (plainFor_of_name np_RX11) (fun _ _ _ => trivial) rfl ?_
  obtain ⟨⟨gA1, gA2⟩, ⟨gB1, gB2⟩⟩ := id hG
  have gA3 := gA1.2
  have gB3 := gB1.2
  have gA4 := gA2.1
  have gB4 := gB2.1
  have gA5 := gA2.2
  have gB5 := gB2.2
  refine px_cVA (ci := 11) rfl q_X11_reach_0 hg rfl trivial lk_11_128 nm_X11_galleryOf (b_galleryOf hg _) rfl rfl (px_lit hg rfl) rfl rfl rfl ⟨rfl, rfl⟩ ?_
  intro o2 h2
  rcases h2 with ⟨rfl, hg0⟩ | ⟨rfl, hg0⟩ | ⟨rfl, hg0, hg1⟩ --N
  · refine px_nulR rfl q_X11_reach_5 hg rfl trivial ?_
    refine px_ieq rfl q_X11_reach_12 hg rfl trivial (fun c15 => ?_) (fun c15 => ?_)
    · refine px_cVS (ci := 1) rfl q_X11_reach_32 hg rfl trivial lk_11_132 nm_X1_addReach (c_addReachA hg _ _ _ _ _ _ (by assumption)) rfl rfl (px_lit hg rfl) rfl rfl rfl ⟨rfl, rfl⟩ ?_
      intro x44 I44 L44 h44
      refine px_riS rfl q_X11_reach_47 rfl rfl rfl hg rfl trivial ⟨⟨rfl, rfl⟩, ?_⟩
      obtain ⟨rfl, h44⟩ := h44
      have hst : st = -1 ∨ (0 ≤ st ∧ st < I 33 7) := by first | exact Or.inl (by assumption) | exact Or.inr (by assumption)
      refine ⟨rfl, h44.imp (fun z => ⟨41, ⟨Or.inl ⟨hg0, rfl⟩, hst, z.1⟩, z.2⟩) (fun z => ⟨fun ⟨G, z1, z2, z3⟩ => ?_, z.2⟩)⟩
      rcases z1 with ⟨e, rfl⟩ | ⟨e, rfl⟩ <;> (first | exact absurd (hg0.symm.trans e) (by decide) | exact absurd z3 z.1)
    · refine px_cVP (ci := 7) rfl q_X11_reach_18 hg rfl trivial lk_11_103 nm_X7_has (c_has hg _) rfl rfl (px_lit hg rfl) rfl rfl rfl ⟨rfl, rfl⟩ ?_
      intro x24 h24
      refine px_ne rfl q_X11_reach_27 hg rfl trivial (fun c27 => ?_) (fun c27 => ?_)
      · replace h24 := px_bt h24 c27
        refine px_cVS (ci := 1) rfl q_X11_reach_32 hg rfl trivial lk_11_132 nm_X1_addReach (c_addReachA hg _ _ _ _ _ _ (by assumption)) rfl rfl (px_lit hg rfl) rfl rfl rfl ⟨rfl, rfl⟩ ?_
        intro x44 I44 L44 h44
        refine px_riS rfl q_X11_reach_47 rfl rfl rfl hg rfl trivial ⟨⟨rfl, rfl⟩, ?_⟩
        obtain ⟨rfl, h44⟩ := h44
        have hst : st = -1 ∨ (0 ≤ st ∧ st < I 33 7) := by first | exact Or.inl (by assumption) | exact Or.inr (by assumption)
        refine ⟨rfl, h44.imp (fun z => ⟨41, ⟨Or.inl ⟨hg0, rfl⟩, hst, z.1⟩, z.2⟩) (fun z => ⟨fun ⟨G, z1, z2, z3⟩ => ?_, z.2⟩)⟩
        rcases z1 with ⟨e, rfl⟩ | ⟨e, rfl⟩ <;> (first | exact absurd (hg0.symm.trans e) (by decide) | exact absurd z3 z.1)
      · replace h24 := px_bf h24 c27
        refine px_riS rfl q_X11_reach_30 rfl rfl rfl hg rfl trivial ⟨⟨rfl, rfl⟩, ?_⟩
        exact ⟨rfl, Or.inr ⟨fun ⟨G, z1, z2⟩ => by rcases z1 with ⟨e, rfl⟩ | ⟨e, rfl⟩ <;> (first | exact absurd (hg0.symm.trans e) (by decide) | exact absurd e hg0 | exact absurd e hg1 | grind), rfl, rfl⟩⟩
  · refine px_nulR rfl q_X11_reach_5 hg rfl trivial ?_
    refine px_ieq rfl q_X11_reach_12 hg rfl trivial (fun c15 => ?_) (fun c15 => ?_)
    · refine px_cVS (ci := 1) rfl q_X11_reach_32 hg rfl trivial lk_11_132 nm_X1_addReach (c_addReachB hg _ _ _ _ _ _ (by assumption)) rfl rfl (px_lit hg rfl) rfl rfl rfl ⟨rfl, rfl⟩ ?_
      intro x44 I44 L44 h44
      refine px_riS rfl q_X11_reach_47 rfl rfl rfl hg rfl trivial ⟨⟨rfl, rfl⟩, ?_⟩
      obtain ⟨rfl, h44⟩ := h44
      have hst : st = -1 ∨ (0 ≤ st ∧ st < I 33 7) := by first | exact Or.inl (by assumption) | exact Or.inr (by assumption)
      refine ⟨rfl, h44.imp (fun z => ⟨55, ⟨Or.inr ⟨hg0, rfl⟩, hst, z.1⟩, z.2⟩) (fun z => ⟨fun ⟨G, z1, z2, z3⟩ => ?_, z.2⟩)⟩
      rcases z1 with ⟨e, rfl⟩ | ⟨e, rfl⟩ <;> (first | exact absurd (hg0.symm.trans e) (by decide) | exact absurd z3 z.1)
    · refine px_cVP (ci := 7) rfl q_X11_reach_18 hg rfl trivial lk_11_103 nm_X7_has (c_has hg _) rfl rfl (px_lit hg rfl) rfl rfl rfl ⟨rfl, rfl⟩ ?_
      intro x24 h24
      refine px_ne rfl q_X11_reach_27 hg rfl trivial (fun c27 => ?_) (fun c27 => ?_)
      · replace h24 := px_bt h24 c27
        refine px_cVS (ci := 1) rfl q_X11_reach_32 hg rfl trivial lk_11_132 nm_X1_addReach (c_addReachB hg _ _ _ _ _ _ (by assumption)) rfl rfl (px_lit hg rfl) rfl rfl rfl ⟨rfl, rfl⟩ ?_
        intro x44 I44 L44 h44
        refine px_riS rfl q_X11_reach_47 rfl rfl rfl hg rfl trivial ⟨⟨rfl, rfl⟩, ?_⟩
        obtain ⟨rfl, h44⟩ := h44
        have hst : st = -1 ∨ (0 ≤ st ∧ st < I 33 7) := by first | exact Or.inl (by assumption) | exact Or.inr (by assumption)
        refine ⟨rfl, h44.imp (fun z => ⟨55, ⟨Or.inr ⟨hg0, rfl⟩, hst, z.1⟩, z.2⟩) (fun z => ⟨fun ⟨G, z1, z2, z3⟩ => ?_, z.2⟩)⟩
        rcases z1 with ⟨e, rfl⟩ | ⟨e, rfl⟩ <;> (first | exact absurd (hg0.symm.trans e) (by decide) | exact absurd z3 z.1)
      · replace h24 := px_bf h24 c27
        refine px_riS rfl q_X11_reach_30 rfl rfl rfl hg rfl trivial ⟨⟨rfl, rfl⟩, ?_⟩
        exact ⟨rfl, Or.inr ⟨fun ⟨G, z1, z2⟩ => by rcases z1 with ⟨e, rfl⟩ | ⟨e, rfl⟩ <;> (first | exact absurd (hg0.symm.trans e) (by decide) | exact absurd e hg0 | exact absurd e hg1 | grind), rfl, rfl⟩⟩
  · refine px_nulN rfl q_X11_reach_5 hg rfl trivial ?_
    refine px_riS rfl q_X11_reach_30 rfl rfl rfl hg rfl trivial ⟨⟨rfl, rfl⟩, ?_⟩
    exact ⟨rfl, Or.inr ⟨fun ⟨G, z1, z2⟩ => by rcases z1 with ⟨e, rfl⟩ | ⟨e, rfl⟩ <;> (first | exact absurd (hg0.symm.trans e) (by decide) | exact absurd e hg0 | exact absurd e hg1 | grind), rfl, rfl⟩⟩

theorem q_X11_mouth_0 : px_bk 11 4 cX11_mouth 0 [(.aload_n 0, (0, 0, 0, 0, 0), 0, 0), (.iload_n 1, (0, 0, 0, 0, 0), 0, 0)] = some 2 ∧ px_tv cX11_mouth 2 128 = true := by decide +kernel
theorem q_X11_mouth_5 : px_bk 11 4 cX11_mouth 5 [(.astore_n 3, (0, 0, 0, 0, 0), 0, 0), (.aload_n 3, (0, 0, 0, 0, 0), 0, 0)] = some 7 ∧ px_t3 cX11_mouth 7 33 = true := by decide +kernel
theorem q_X11_mouth_10 : px_bk 11 4 cX11_mouth 10 [(.aload_n 0, (0, 0, 0, 0, 0), 0, 0), (.getfield 10, (11, 0, 3, 33, 0), 0, 0), (.iload_n 2, (0, 0, 0, 0, 0), 0, 0)] = some 15 ∧ px_tv cX11_mouth 15 103 = true := by decide +kernel
theorem q_X11_mouth_18 : px_bk 11 4 cX11_mouth 18 [] = some 18 ∧ px_t1 cX11_mouth 18 .eq 33 = true := by decide +kernel
theorem q_X11_mouth_33 : px_bk 11 4 cX11_mouth 33 [(.iconst 0, (0, 0, 0, 0, 0), 0, 0)] = some 34 ∧ px_tr cX11_mouth 34 .ireturn = true := by decide +kernel
theorem q_X11_mouth_21 : px_bk 11 4 cX11_mouth 21 [(.aload_n 3, (0, 0, 0, 0, 0), 0, 0), (.iload_n 2, (0, 0, 0, 0, 0), 0, 0)] = some 23 ∧ px_tv cX11_mouth 23 135 = true := by decide +kernel
theorem q_X11_mouth_26 : px_bk 11 4 cX11_mouth 26 [] = some 26 ∧ px_t1 cX11_mouth 26 .eq 33 = true := by decide +kernel
theorem q_X11_mouth_29 : px_bk 11 4 cX11_mouth 29 [(.iconst 1, (0, 0, 0, 0, 0), 1, 0), (.goto 4, (0, 0, 0, 0, 0), 0, 0)] = some 34 ∧ px_tr cX11_mouth 34 .ireturn = true := by decide +kernel
set_option maxRecDepth 100000 in
theorem b_mouth {n : Nat} {I : px_I} {L : px_L} {R : px_R} (hg : px_G n R) (g st : Int32) : px_KS M_X11_mouth [.ref 32, .int g, .int st] n I L R (fun r I2 L2 => L2 = L ∧ ((∃ G, bG g G ∧ I2 = px_u I (G + 1) 0 st) ∨ I2 = I)) := by
  refine px_of (plainFor_of_name np_RX11) (fun _ _ _ => trivial) rfl ?_
  refine px_cVA (ci := 11) rfl q_X11_mouth_0 hg rfl trivial lk_11_128 nm_X11_galleryOf (b_galleryOf hg _) rfl rfl (px_lit hg rfl) rfl rfl rfl ⟨rfl, rfl⟩ ?_
  intro o2 h2
  rcases h2 with ⟨rfl, hg0⟩ | ⟨rfl, hg0⟩ | ⟨rfl, hg0, hg1⟩ --N
  · refine px_nulR rfl q_X11_mouth_5 hg rfl trivial ?_
    refine px_cVP (ci := 7) rfl q_X11_mouth_10 hg rfl trivial lk_11_103 nm_X7_has (c_has hg _) rfl rfl (px_lit hg rfl) rfl rfl rfl ⟨rfl, rfl⟩ ?_
    intro x15 h15
    refine px_eq rfl q_X11_mouth_18 hg rfl trivial (fun c18 => ?_) (fun c18 => ?_)
    · replace h15 := px_bf h15 c18
      refine px_rzS rfl q_X11_mouth_33 rfl rfl rfl hg rfl trivial ⟨⟨rfl, rfl⟩, (by first | exact Or.inl rfl | exact Or.inr rfl | grind), ?_⟩
      first | exact ⟨rfl, h9⟩ | exact ⟨rfl, Or.inr rfl⟩
    · replace h15 := px_bt h15 c18
      refine px_cVS (ci := 1) rfl q_X11_mouth_21 hg rfl trivial lk_11_135 nm_X1_openAt (c_openAtA hg _) rfl rfl (px_lit hg rfl) rfl rfl rfl ⟨rfl, rfl⟩ ?_
      intro x23 I23 L23 h23
      obtain ⟨rfl, h23⟩ := h23
      have h9 : (∃ G, bG g G ∧ I23 = px_u I (G + 1) 0 st) ∨ I23 = I := by rcases h23 with z | z; exact Or.inr z.2.2; exact Or.inl (by first | exact ⟨41, Or.inl ⟨hg0, rfl⟩, z.2.2⟩ | exact ⟨55, Or.inr ⟨hg0, rfl⟩, z.2.2⟩)
      refine px_eq rfl q_X11_mouth_26 hg rfl trivial (fun c26 => ?_) (fun c26 => ?_)
      · refine px_rzS rfl q_X11_mouth_33 rfl rfl rfl hg rfl trivial ⟨⟨rfl, rfl⟩, (by first | exact Or.inl rfl | exact Or.inr rfl | grind), ?_⟩
        first | exact ⟨rfl, h9⟩ | exact ⟨rfl, Or.inr rfl⟩
      · refine px_rzS rfl q_X11_mouth_29 rfl rfl rfl hg rfl trivial ⟨⟨rfl, rfl⟩, (by first | exact Or.inl rfl | exact Or.inr rfl | grind), ?_⟩
        first | exact ⟨rfl, h9⟩ | exact ⟨rfl, Or.inr rfl⟩
  · refine px_nulR rfl q_X11_mouth_5 hg rfl trivial ?_
    refine px_cVP (ci := 7) rfl q_X11_mouth_10 hg rfl trivial lk_11_103 nm_X7_has (c_has hg _) rfl rfl (px_lit hg rfl) rfl rfl rfl ⟨rfl, rfl⟩ ?_
    intro x15 h15
    refine px_eq rfl q_X11_mouth_18 hg rfl trivial (fun c18 => ?_) (fun c18 => ?_)
    · replace h15 := px_bf h15 c18
      refine px_rzS rfl q_X11_mouth_33 rfl rfl rfl hg rfl trivial ⟨⟨rfl, rfl⟩, (by first | exact Or.inl rfl | exact Or.inr rfl | grind), ?_⟩
      first | exact ⟨rfl, h9⟩ | exact ⟨rfl, Or.inr rfl⟩
    · replace h15 := px_bt h15 c18
      refine px_cVS (ci := 1) rfl q_X11_mouth_21 hg rfl trivial lk_11_135 nm_X1_openAt (c_openAtB hg _) rfl rfl (px_lit hg rfl) rfl rfl rfl ⟨rfl, rfl⟩ ?_
      intro x23 I23 L23 h23
      obtain ⟨rfl, h23⟩ := h23
      have h9 : (∃ G, bG g G ∧ I23 = px_u I (G + 1) 0 st) ∨ I23 = I := by rcases h23 with z | z; exact Or.inr z.2.2; exact Or.inl (by first | exact ⟨41, Or.inl ⟨hg0, rfl⟩, z.2.2⟩ | exact ⟨55, Or.inr ⟨hg0, rfl⟩, z.2.2⟩)
      refine px_eq rfl q_X11_mouth_26 hg rfl trivial (fun c26 => ?_) (fun c26 => ?_)
      · refine px_rzS rfl q_X11_mouth_33 rfl rfl rfl hg rfl trivial ⟨⟨rfl, rfl⟩, (by first | exact Or.inl rfl | exact Or.inr rfl | grind), ?_⟩
        first | exact ⟨rfl, h9⟩ | exact ⟨rfl, Or.inr rfl⟩
      · refine px_rzS rfl q_X11_mouth_29 rfl rfl rfl hg rfl trivial ⟨⟨rfl, rfl⟩, (by first | exact Or.inl rfl | exact Or.inr rfl | grind), ?_⟩
        first | exact ⟨rfl, h9⟩ | exact ⟨rfl, Or.inr rfl⟩
  · refine px_nulN rfl q_X11_mouth_5 hg rfl trivial ?_
    refine px_rzS rfl q_X11_mouth_33 rfl rfl rfl hg rfl trivial ⟨⟨rfl, rfl⟩, (by first | exact Or.inl rfl | exact Or.inr rfl | grind), ?_⟩
    first | exact ⟨rfl, h9⟩ | exact ⟨rfl, Or.inr rfl⟩

theorem q_X11_mark_0 : px_bk 11 6 cX11_mark 0 [(.aload_n 0, (0, 0, 0, 0, 0), 0, 0), (.iload_n 1, (0, 0, 0, 0, 0), 0, 0)] = some 2 ∧ px_tv cX11_mark 2 128 = true := by decide +kernel
theorem q_X11_mark_5 : px_bk 11 6 cX11_mark 5 [(.astore 5, (0, 0, 0, 0, 0), 0, 0), (.aload 5, (0, 0, 0, 0, 0), 0, 0)] = some 9 ∧ px_t3 cX11_mark 9 33 = true := by decide +kernel
theorem q_X11_mark_12 : px_bk 11 6 cX11_mark 12 [(.aload_n 0, (0, 0, 0, 0, 0), 0, 0)] = some 13 ∧ px_tv cX11_mark 13 138 = true := by decide +kernel
theorem q_X11_mark_16 : px_bk 11 6 cX11_mark 16 [(.bipush 40, (0, 0, 0, 0, 0), 40, 0)] = some 18 ∧ px_t2 cX11_mark 18 .ge 33 = true := by decide +kernel
theorem q_X11_mark_33 : px_bk 11 6 cX11_mark 33 [(.iconst (-1), (0, 0, 0, 0, 0), -1, 0)] = some 34 ∧ px_tr cX11_mark 34 .ireturn = true := by decide +kernel
theorem q_X11_mark_21 : px_bk 11 6 cX11_mark 21 [(.aload 5, (0, 0, 0, 0, 0), 0, 0), (.iload_n 2, (0, 0, 0, 0, 0), 0, 0), (.iload_n 3, (0, 0, 0, 0, 0), 0, 0), (.iload 4, (0, 0, 0, 0, 0), 0, 0)] = some 27 ∧ px_tv cX11_mark 27 141 = true := by decide +kernel
theorem q_X11_mark_30 : px_bk 11 6 cX11_mark 30 [] = some 30 ∧ px_t1 cX11_mark 30 .ne 35 = true := by decide +kernel
theorem q_X11_mark_35 : px_bk 11 6 cX11_mark 35 [(.aload_n 0, (0, 0, 0, 0, 0), 0, 0)] = some 36 ∧ px_tv cX11_mark 36 138 = true := by decide +kernel
theorem q_X11_mark_39 : px_bk 11 6 cX11_mark 39 [] = some 39 ∧ px_tr cX11_mark 39 .ireturn = true := by decide +kernel
set_option maxRecDepth 100000 in
theorem b_mark {n : Nat} {I : px_I} {L : px_L} {R : px_R} (hg : px_G n R) (g p f t : Int32) (hG : cGal I) : px_KS M_X11_mark [.ref 32, .int g, .int p, .int f, .int t] n I L R (fun r I2 L2 => L2 = L ∧ ((∃ G, (bG g G ∧ I 41 14 + I 55 14 < 40 ∧ (0 ≤ p ∧ p < I G 13) ∧ (0 ≤ f ∧ f ≤ t ∧ t ≤ 20000)) ∧ r = I 41 14 + I 55 14 + 1 ∧ I2 = cMark G I p f t) ∨ (¬ (∃ G, bG g G ∧ I 41 14 + I 55 14 < 40 ∧ (0 ≤ p ∧ p < I G 13) ∧ (0 ≤ f ∧ f ≤ t ∧ t ≤ 20000)) ∧ r = -1 ∧ I2 = I))) := by
  refine px_of (plainFor_of_name np_RX11) (fun _ _ _ => trivial) rfl ?_
  obtain ⟨⟨gA1, gA2⟩, ⟨gB1, gB2⟩⟩ := id hG
  have gA3 := gA1.2
  have gB3 := gB1.2
  have gA4 := gA2.1
  have gB4 := gB2.1
  have gA5 := gA2.2
  have gB5 := gB2.2
  refine px_cVA (ci := 11) rfl q_X11_mark_0 hg rfl trivial lk_11_128 nm_X11_galleryOf (b_galleryOf hg _) rfl rfl (px_lit hg rfl) rfl rfl rfl ⟨rfl, rfl⟩ ?_
  intro o2 h2
  rcases h2 with ⟨rfl, hg0⟩ | ⟨rfl, hg0⟩ | ⟨rfl, hg0, hg1⟩ --N
  · refine px_nulR rfl q_X11_mark_5 hg rfl trivial ?_
    refine px_cVP (ci := 11) rfl q_X11_mark_12 hg rfl trivial lk_11_138 nm_X11_marks (b_marks hg) rfl rfl (px_lit hg rfl) rfl rfl rfl ⟨rfl, rfl⟩ ?_
    intro x13 h13
    refine px_ige rfl q_X11_mark_16 hg rfl trivial (fun c18 => ?_) (fun c18 => ?_)
    · refine px_riS rfl q_X11_mark_33 rfl rfl rfl hg rfl trivial ⟨⟨rfl, rfl⟩, ?_⟩
      exact ⟨rfl, Or.inr ⟨fun ⟨G, z1, z2⟩ => by rcases z1 with ⟨e, rfl⟩ | ⟨e, rfl⟩ <;> (first | exact absurd (hg0.symm.trans e) (by decide) | exact absurd e hg0 | exact absurd e hg1 | grind), rfl, rfl⟩⟩
    · refine px_cVS (ci := 1) rfl q_X11_mark_21 hg rfl trivial lk_11_141 nm_X1_addMark (c_addMarkA hg _ _ _ (by assumption)) rfl rfl (px_lit hg rfl) rfl rfl rfl ⟨rfl, rfl⟩ ?_
      intro x27 I27 L27 h27
      obtain ⟨rfl, h27⟩ := h27
      refine px_ne rfl q_X11_mark_30 hg rfl trivial (fun c30 => ?_) (fun c30 => ?_)
      · refine px_cVP (ci := 11) rfl q_X11_mark_35 hg rfl trivial lk_11_138 nm_X11_marks (b_marks hg) rfl rfl (px_lit hg rfl) rfl rfl rfl ⟨rfl, rfl⟩ ?_
        intro x36 h36
        refine px_riS rfl q_X11_mark_39 rfl rfl rfl hg rfl trivial ⟨⟨rfl, rfl⟩, ?_⟩
        obtain ⟨z1, z2, rfl⟩ := h27.resolve_right (fun z => absurd z.2.1 (by assumption))
        refine ⟨rfl, Or.inl ⟨41, ⟨Or.inl ⟨hg0, rfl⟩, by rw [← h13]; grind, z1⟩, ?_, rfl⟩⟩
        rw [h36]
        simp [cMark, px_ur]
        grind
      · refine px_riS rfl q_X11_mark_33 rfl rfl rfl hg rfl trivial ⟨⟨rfl, rfl⟩, ?_⟩
        obtain ⟨z0, -, rfl⟩ := h27.resolve_left (fun z => absurd (z.2.1.symm.trans (by assumption)) (by decide))
        exact ⟨rfl, Or.inr ⟨fun ⟨G, z1, z2, z3⟩ => by rcases z1 with ⟨e, rfl⟩ | ⟨e, rfl⟩ <;> (first | exact absurd (hg0.symm.trans e) (by decide) | exact absurd z3 z0), rfl, rfl⟩⟩
  · refine px_nulR rfl q_X11_mark_5 hg rfl trivial ?_
    refine px_cVP (ci := 11) rfl q_X11_mark_12 hg rfl trivial lk_11_138 nm_X11_marks (b_marks hg) rfl rfl (px_lit hg rfl) rfl rfl rfl ⟨rfl, rfl⟩ ?_
    intro x13 h13
    refine px_ige rfl q_X11_mark_16 hg rfl trivial (fun c18 => ?_) (fun c18 => ?_)
    · refine px_riS rfl q_X11_mark_33 rfl rfl rfl hg rfl trivial ⟨⟨rfl, rfl⟩, ?_⟩
      exact ⟨rfl, Or.inr ⟨fun ⟨G, z1, z2⟩ => by rcases z1 with ⟨e, rfl⟩ | ⟨e, rfl⟩ <;> (first | exact absurd (hg0.symm.trans e) (by decide) | exact absurd e hg0 | exact absurd e hg1 | grind), rfl, rfl⟩⟩
    · refine px_cVS (ci := 1) rfl q_X11_mark_21 hg rfl trivial lk_11_141 nm_X1_addMark (c_addMarkB hg _ _ _ (by assumption)) rfl rfl (px_lit hg rfl) rfl rfl rfl ⟨rfl, rfl⟩ ?_
      intro x27 I27 L27 h27
      obtain ⟨rfl, h27⟩ := h27
      refine px_ne rfl q_X11_mark_30 hg rfl trivial (fun c30 => ?_) (fun c30 => ?_)
      · refine px_cVP (ci := 11) rfl q_X11_mark_35 hg rfl trivial lk_11_138 nm_X11_marks (b_marks hg) rfl rfl (px_lit hg rfl) rfl rfl rfl ⟨rfl, rfl⟩ ?_
        intro x36 h36
        refine px_riS rfl q_X11_mark_39 rfl rfl rfl hg rfl trivial ⟨⟨rfl, rfl⟩, ?_⟩
        obtain ⟨z1, z2, rfl⟩ := h27.resolve_right (fun z => absurd z.2.1 (by assumption))
        refine ⟨rfl, Or.inl ⟨55, ⟨Or.inr ⟨hg0, rfl⟩, by rw [← h13]; grind, z1⟩, ?_, rfl⟩⟩
        rw [h36]
        simp [cMark, px_ur]
        grind
      · refine px_riS rfl q_X11_mark_33 rfl rfl rfl hg rfl trivial ⟨⟨rfl, rfl⟩, ?_⟩
        obtain ⟨z0, -, rfl⟩ := h27.resolve_left (fun z => absurd (z.2.1.symm.trans (by assumption)) (by decide))
        exact ⟨rfl, Or.inr ⟨fun ⟨G, z1, z2, z3⟩ => by rcases z1 with ⟨e, rfl⟩ | ⟨e, rfl⟩ <;> (first | exact absurd (hg0.symm.trans e) (by decide) | exact absurd z3 z0), rfl, rfl⟩⟩
  · refine px_nulN rfl q_X11_mark_5 hg rfl trivial ?_
    refine px_riS rfl q_X11_mark_33 rfl rfl rfl hg rfl trivial ⟨⟨rfl, rfl⟩, ?_⟩
    exact ⟨rfl, Or.inr ⟨fun ⟨G, z1, z2⟩ => by rcases z1 with ⟨e, rfl⟩ | ⟨e, rfl⟩ <;> (first | exact absurd (hg0.symm.trans e) (by decide) | exact absurd e hg0 | exact absurd e hg1 | grind), rfl, rfl⟩⟩

theorem q_X11_when_0 : px_bk 11 5 cX11_when 0 [(.aload_n 0, (0, 0, 0, 0, 0), 0, 0), (.iload_n 1, (0, 0, 0, 0, 0), 0, 0)] = some 2 ∧ px_tv cX11_when 2 128 = true := by decide +kernel
theorem q_X11_when_5 : px_bk 11 5 cX11_when 5 [(.astore 4, (0, 0, 0, 0, 0), 0, 0), (.aload 4, (0, 0, 0, 0, 0), 0, 0)] = some 9 ∧ px_t4 cX11_when 9 16 = true := by decide +kernel
theorem q_X11_when_16 : px_bk 11 5 cX11_when 16 [(.aload 4, (0, 0, 0, 0, 0), 0, 0), (.iload_n 2, (0, 0, 0, 0, 0), 0, 0), (.iload_n 3, (0, 0, 0, 0, 0), 0, 0)] = some 20 ∧ px_tv cX11_when 20 144 = true := by decide +kernel
theorem q_X11_when_23 : px_bk 11 5 cX11_when 23 [] = some 23 ∧ px_tr cX11_when 23 .ireturn = true := by decide +kernel
theorem q_X11_when_12 : px_bk 11 5 cX11_when 12 [(.iconst (-1), (0, 0, 0, 0, 0), -1, 0), (.goto 10, (0, 0, 0, 0, 0), 0, 0)] = some 23 ∧ px_tr cX11_when 23 .ireturn = true := by decide +kernel
set_option maxRecDepth 100000 in
theorem b_when {n : Nat} {I : px_I} {L : px_L} {R : px_R} (hg : px_G n R) (g p h : Int32) (hG : cGal I) : px_KS M_X11_when [.ref 32, .int g, .int p, .int h] n I L R (fun r I2 L2 => L2 = L ∧ bEI I I2) := by
  refine px_of (plainFor_of_name np_RX11) (fun _ _ _ => trivial) rfl ?_
  obtain ⟨⟨gA1, gA2⟩, ⟨gB1, gB2⟩⟩ := id hG
  have gA3 := gA1.2
  have gB3 := gB1.2
  have gA4 := gA2.1
  have gB4 := gB2.1
  have gA5 := gA2.2
  have gB5 := gB2.2
  refine px_cVA (ci := 11) rfl q_X11_when_0 hg rfl trivial lk_11_128 nm_X11_galleryOf (b_galleryOf hg _) rfl rfl (px_lit hg rfl) rfl rfl rfl ⟨rfl, rfl⟩ ?_
  intro o2 h2
  rcases h2 with ⟨rfl, hg0⟩ | ⟨rfl, hg0⟩ | ⟨rfl, hg0, hg1⟩ --N
  · refine px_nonR rfl q_X11_when_5 hg rfl trivial ?_
    refine px_cVS (ci := 1) rfl q_X11_when_16 hg rfl trivial lk_11_144 nm_X1_dayOf (c_dayOfA hg _ _ (by assumption)) rfl rfl (px_lit hg rfl) rfl rfl rfl ⟨rfl, rfl⟩ ?_
    intro x20 I20 L20 h20
    refine px_riS rfl q_X11_when_23 rfl rfl rfl hg rfl trivial ⟨⟨rfl, rfl⟩, ?_⟩
    first | exact ⟨rfl, fun _ _ _ _ _ => rfl⟩ | exact ⟨h20.1, h20.2.bA⟩ | exact ⟨h20.1, h20.2.bB⟩
  · refine px_nonR rfl q_X11_when_5 hg rfl trivial ?_
    refine px_cVS (ci := 1) rfl q_X11_when_16 hg rfl trivial lk_11_144 nm_X1_dayOf (c_dayOfB hg _ _ (by assumption)) rfl rfl (px_lit hg rfl) rfl rfl rfl ⟨rfl, rfl⟩ ?_
    intro x20 I20 L20 h20
    refine px_riS rfl q_X11_when_23 rfl rfl rfl hg rfl trivial ⟨⟨rfl, rfl⟩, ?_⟩
    first | exact ⟨rfl, fun _ _ _ _ _ => rfl⟩ | exact ⟨h20.1, h20.2.bA⟩ | exact ⟨h20.1, h20.2.bB⟩
  · refine px_nonN rfl q_X11_when_5 hg rfl trivial ?_
    refine px_riS rfl q_X11_when_12 rfl rfl rfl hg rfl trivial ⟨⟨rfl, rfl⟩, ?_⟩
    first | exact ⟨rfl, fun _ _ _ _ _ => rfl⟩ | exact ⟨h20.1, h20.2.bA⟩ | exact ⟨h20.1, h20.2.bB⟩

theorem q_X11_between_0 : px_bk 11 6 cX11_between 0 [(.aload_n 0, (0, 0, 0, 0, 0), 0, 0), (.iload_n 1, (0, 0, 0, 0, 0), 0, 0)] = some 2 ∧ px_tv cX11_between 2 128 = true := by decide +kernel
theorem q_X11_between_5 : px_bk 11 6 cX11_between 5 [(.astore 5, (0, 0, 0, 0, 0), 0, 0), (.aload 5, (0, 0, 0, 0, 0), 0, 0)] = some 9 ∧ px_t4 cX11_between 9 16 = true := by decide +kernel
theorem q_X11_between_16 : px_bk 11 6 cX11_between 16 [(.aload 5, (0, 0, 0, 0, 0), 0, 0), (.iload_n 2, (0, 0, 0, 0, 0), 0, 0), (.iload_n 3, (0, 0, 0, 0, 0), 0, 0), (.iload 4, (0, 0, 0, 0, 0), 0, 0)] = some 22 ∧ px_tv cX11_between 22 148 = true := by decide +kernel
theorem q_X11_between_25 : px_bk 11 6 cX11_between 25 [] = some 25 ∧ px_tr cX11_between 25 .ireturn = true := by decide +kernel
theorem q_X11_between_12 : px_bk 11 6 cX11_between 12 [(.iconst (-1), (0, 0, 0, 0, 0), -1, 0), (.goto 12, (0, 0, 0, 0, 0), 0, 0)] = some 25 ∧ px_tr cX11_between 25 .ireturn = true := by decide +kernel
set_option maxRecDepth 100000 in
theorem b_between {n : Nat} {I : px_I} {L : px_L} {R : px_R} (hg : px_G n R) (g p q h : Int32) (hG : cGal I) : px_KS M_X11_between [.ref 32, .int g, .int p, .int q, .int h] n I L R (fun r I2 L2 => L2 = L ∧ bEI I I2) := by
  refine px_of (plainFor_of_name np_RX11) (fun _ _ _ => trivial) rfl ?_
  obtain ⟨⟨gA1, gA2⟩, ⟨gB1, gB2⟩⟩ := id hG
  have gA3 := gA1.2
  have gB3 := gB1.2
  have gA4 := gA2.1
  have gB4 := gB2.1
  have gA5 := gA2.2
  have gB5 := gB2.2
  refine px_cVA (ci := 11) rfl q_X11_between_0 hg rfl trivial lk_11_128 nm_X11_galleryOf (b_galleryOf hg _) rfl rfl (px_lit hg rfl) rfl rfl rfl ⟨rfl, rfl⟩ ?_
  intro o2 h2
  rcases h2 with ⟨rfl, hg0⟩ | ⟨rfl, hg0⟩ | ⟨rfl, hg0, hg1⟩ --N
  · refine px_nonR rfl q_X11_between_5 hg rfl trivial ?_
    refine px_cVS (ci := 1) rfl q_X11_between_16 hg rfl trivial lk_11_148 nm_X1_daysFrom (c_daysFromA hg _ _ _ (by assumption)) rfl rfl (px_lit hg rfl) rfl rfl rfl ⟨rfl, rfl⟩ ?_
    intro x22 I22 L22 h22
    refine px_riS rfl q_X11_between_25 rfl rfl rfl hg rfl trivial ⟨⟨rfl, rfl⟩, ?_⟩
    first | exact ⟨rfl, fun _ _ _ _ _ => rfl⟩ | exact ⟨h22.1, h22.2.bA⟩ | exact ⟨h22.1, h22.2.bB⟩
  · refine px_nonR rfl q_X11_between_5 hg rfl trivial ?_
    refine px_cVS (ci := 1) rfl q_X11_between_16 hg rfl trivial lk_11_148 nm_X1_daysFrom (c_daysFromB hg _ _ _ (by assumption)) rfl rfl (px_lit hg rfl) rfl rfl rfl ⟨rfl, rfl⟩ ?_
    intro x22 I22 L22 h22
    refine px_riS rfl q_X11_between_25 rfl rfl rfl hg rfl trivial ⟨⟨rfl, rfl⟩, ?_⟩
    first | exact ⟨rfl, fun _ _ _ _ _ => rfl⟩ | exact ⟨h22.1, h22.2.bA⟩ | exact ⟨h22.1, h22.2.bB⟩
  · refine px_nonN rfl q_X11_between_5 hg rfl trivial ?_
    refine px_riS rfl q_X11_between_12 rfl rfl rfl hg rfl trivial ⟨⟨rfl, rfl⟩, ?_⟩
    first | exact ⟨rfl, fun _ _ _ _ _ => rfl⟩ | exact ⟨h22.1, h22.2.bA⟩ | exact ⟨h22.1, h22.2.bB⟩

theorem q_X11_lamps_0 : px_bk 11 7 cX11_lamps 0 [(.aload_n 0, (0, 0, 0, 0, 0), 0, 0), (.iload_n 1, (0, 0, 0, 0, 0), 0, 0)] = some 2 ∧ px_tv cX11_lamps 2 128 = true := by decide +kernel
theorem q_X11_lamps_5 : px_bk 11 7 cX11_lamps 5 [(.astore 6, (0, 0, 0, 0, 0), 0, 0), (.aload 6, (0, 0, 0, 0, 0), 0, 0)] = some 9 ∧ px_t3 cX11_lamps 9 21 = true := by decide +kernel
theorem q_X11_lamps_12 : px_bk 11 7 cX11_lamps 12 [(.aload 6, (0, 0, 0, 0, 0), 0, 0), (.iload_n 2, (0, 0, 0, 0, 0), 0, 0)] = some 15 ∧ px_tv cX11_lamps 15 152 = true := by decide +kernel
theorem q_X11_lamps_18 : px_bk 11 7 cX11_lamps 18 [] = some 18 ∧ px_t1 cX11_lamps 18 .ne 23 = true := by decide +kernel
theorem q_X11_lamps_23 : px_bk 11 7 cX11_lamps 23 [(.iload_n 3, (0, 0, 0, 0, 0), 0, 0), (.iconst 0, (0, 0, 0, 0, 0), 0, 0), (.sipush 9999, (0, 0, 0, 0, 0), 9999, 0)] = some 28 ∧ px_tS cX11_lamps 28 85 = true := by decide +kernel
theorem q_X11_lamps_31 : px_bk 11 7 cX11_lamps 31 [] = some 31 ∧ px_t1 cX11_lamps 31 .eq 47 = true := by decide +kernel
theorem q_X11_lamps_47 : px_bk 11 7 cX11_lamps 47 [(.iconst (-1), (0, 0, 0, 0, 0), -1, 0)] = some 48 ∧ px_tr cX11_lamps 48 .ireturn = true := by decide +kernel
theorem q_X11_lamps_34 : px_bk 11 7 cX11_lamps 34 [(.iload 4, (0, 0, 0, 0, 0), 0, 0), (.iload 5, (0, 0, 0, 0, 0), 0, 0), (.iconst 1, (0, 0, 0, 0, 0), 1, 0), (.ldc 155, (0, 0, 0, 0, 0), 100000, 0)] = some 41 ∧ px_tS cX11_lamps 41 99 = true := by decide +kernel
theorem q_X11_lamps_44 : px_bk 11 7 cX11_lamps 44 [] = some 44 ∧ px_t1 cX11_lamps 44 .ne 49 = true := by decide +kernel
theorem q_X11_lamps_49 : px_bk 11 7 cX11_lamps 49 [(.aload 6, (0, 0, 0, 0, 0), 0, 0), (.iload_n 2, (0, 0, 0, 0, 0), 0, 0), (.iload_n 3, (0, 0, 0, 0, 0), 0, 0), (.iload 4, (0, 0, 0, 0, 0), 0, 0), (.iload 5, (0, 0, 0, 0, 0), 0, 0)] = some 57 ∧ px_tv cX11_lamps 57 156 = true := by decide +kernel
theorem q_X11_lamps_60 : px_bk 11 7 cX11_lamps 60 [] = some 60 ∧ px_t1 cX11_lamps 60 .eq 67 = true := by decide +kernel
theorem q_X11_lamps_67 : px_bk 11 7 cX11_lamps 67 [(.iconst 0, (0, 0, 0, 0, 0), 0, 0)] = some 68 ∧ px_tr cX11_lamps 68 .ireturn = true := by decide +kernel
theorem q_X11_lamps_63 : px_bk 11 7 cX11_lamps 63 [(.iconst 1, (0, 0, 0, 0, 0), 1, 0), (.goto 4, (0, 0, 0, 0, 0), 0, 0)] = some 68 ∧ px_tr cX11_lamps 68 .ireturn = true := by decide +kernel
theorem q_X11_lamps_21 : px_bk 11 7 cX11_lamps 21 [(.iconst (-1), (0, 0, 0, 0, 0), -1, 0)] = some 22 ∧ px_tr cX11_lamps 22 .ireturn = true := by decide +kernel
set_option maxRecDepth 100000 in
theorem b_lamps {n : Nat} {I : px_I} {L : px_L} {R : px_R} (hg : px_G n R) (g p h lo hi : Int32) (hG : cGal I) : px_KP M_X11_lamps [.ref 32, .int g, .int p, .int h, .int lo, .int hi] n I L R (fun r => (∃ G, (bG g G ∧ (1 ≤ p ∧ p < I G 13) ∧ (0 ≤ h ∧ h ≤ 9999) ∧ (1 ≤ lo ∧ lo ≤ hi ∧ hi ≤ 100000)) ∧ ((r = 1 ∧ cHo G I p h lo hi) ∨ (r = 0 ∧ ¬ cHo G I p h lo hi))) ∨ (¬ (∃ G, bG g G ∧ (1 ≤ p ∧ p < I G 13) ∧ (0 ≤ h ∧ h ≤ 9999) ∧ (1 ≤ lo ∧ lo ≤ hi ∧ hi ≤ 100000)) ∧ r = -1)) := by
  refine px_of (plainFor_of_name np_RX11) (fun _ _ _ => trivial) rfl ?_
  obtain ⟨⟨gA1, gA2⟩, ⟨gB1, gB2⟩⟩ := id hG
  have gA3 := gA1.2
  have gB3 := gB1.2
  have gA4 := gA2.1
  have gB4 := gB2.1
  have gA5 := gA2.2
  have gB5 := gB2.2
  refine px_cVA (ci := 11) rfl q_X11_lamps_0 hg rfl trivial lk_11_128 nm_X11_galleryOf (b_galleryOf hg _) rfl rfl (px_lit hg rfl) rfl rfl rfl ⟨rfl, rfl⟩ ?_
  intro o2 h2
  rcases h2 with ⟨rfl, hg0⟩ | ⟨rfl, hg0⟩ | ⟨rfl, hg0, hg1⟩ --N
  · refine px_nulR rfl q_X11_lamps_5 hg rfl trivial ?_
    refine px_cVP (ci := 1) rfl q_X11_lamps_12 hg rfl trivial lk_11_152 nm_X1_hasReach (c_hasReachA hg _) rfl rfl (px_lit hg rfl) rfl rfl rfl ⟨rfl, rfl⟩ ?_
    intro x15 h15
    refine px_ne rfl q_X11_lamps_18 hg rfl trivial (fun c18 => ?_) (fun c18 => ?_)
    · replace h15 := px_bt h15 c18
      refine px_cSP rfl q_X11_lamps_23 hg rfl trivial lk_11_85 nm_X11_within (c_within hg _ _ _) rfl rfl rfl ⟨rfl, rfl⟩ ?_
      intro x28 h28
      refine px_eq rfl q_X11_lamps_31 hg rfl trivial (fun c31 => ?_) (fun c31 => ?_)
      · replace h28 := px_bf h28 c31
        refine px_riP rfl q_X11_lamps_47 rfl rfl rfl hg rfl trivial ⟨⟨rfl, rfl, rfl, rfl⟩, ?_⟩
        exact Or.inr ⟨fun ⟨G, z1, z2⟩ => by rcases z1 with ⟨e, rfl⟩ | ⟨e, rfl⟩ <;> (first | exact absurd (hg0.symm.trans e) (by decide) | exact absurd e hg0 | exact absurd e hg1 | grind), rfl⟩
      · replace h28 := px_bt h28 c31
        refine px_cSP rfl q_X11_lamps_34 hg rfl trivial lk_11_99 nm_X11_ordered (c_ordered hg _ _ _ _) rfl rfl rfl ⟨rfl, rfl⟩ ?_
        intro x41 h41
        refine px_ne rfl q_X11_lamps_44 hg rfl trivial (fun c44 => ?_) (fun c44 => ?_)
        · replace h41 := px_bt h41 c44
          refine px_cVP (ci := 1) rfl q_X11_lamps_49 hg rfl trivial lk_11_156 nm_X1_holesAgree (c_holesAgreeA hg _ _ _ _ (by assumption) (by grind)) rfl rfl (px_lit hg rfl) rfl rfl rfl ⟨rfl, rfl⟩ ?_
          intro x57 h57
          refine px_eq rfl q_X11_lamps_60 hg rfl trivial (fun c60 => ?_) (fun c60 => ?_)
          · refine px_riP rfl q_X11_lamps_67 rfl rfl rfl hg rfl trivial ⟨⟨rfl, rfl, rfl, rfl⟩, ?_⟩
            exact Or.inl ⟨41, ⟨Or.inl ⟨hg0, rfl⟩, by assumption, by assumption, by assumption⟩, Or.inr ⟨rfl, (h57.resolve_left (fun z => absurd (z.1.symm.trans (by assumption)) (by decide))).2⟩⟩
          · refine px_riP rfl q_X11_lamps_63 rfl rfl rfl hg rfl trivial ⟨⟨rfl, rfl, rfl, rfl⟩, ?_⟩
            exact Or.inl ⟨41, ⟨Or.inl ⟨hg0, rfl⟩, by assumption, by assumption, by assumption⟩, Or.inl ⟨rfl, (h57.resolve_right (fun z => absurd z.1 (by assumption))).2⟩⟩
        · replace h41 := px_bf h41 c44
          refine px_riP rfl q_X11_lamps_47 rfl rfl rfl hg rfl trivial ⟨⟨rfl, rfl, rfl, rfl⟩, ?_⟩
          exact Or.inr ⟨fun ⟨G, z1, z2⟩ => by rcases z1 with ⟨e, rfl⟩ | ⟨e, rfl⟩ <;> (first | exact absurd (hg0.symm.trans e) (by decide) | exact absurd e hg0 | exact absurd e hg1 | grind), rfl⟩
    · replace h15 := px_bf h15 c18
      refine px_riP rfl q_X11_lamps_21 rfl rfl rfl hg rfl trivial ⟨⟨rfl, rfl, rfl, rfl⟩, ?_⟩
      exact Or.inr ⟨fun ⟨G, z1, z2⟩ => by rcases z1 with ⟨e, rfl⟩ | ⟨e, rfl⟩ <;> (first | exact absurd (hg0.symm.trans e) (by decide) | exact absurd e hg0 | exact absurd e hg1 | grind), rfl⟩
  · refine px_nulR rfl q_X11_lamps_5 hg rfl trivial ?_
    refine px_cVP (ci := 1) rfl q_X11_lamps_12 hg rfl trivial lk_11_152 nm_X1_hasReach (c_hasReachB hg _) rfl rfl (px_lit hg rfl) rfl rfl rfl ⟨rfl, rfl⟩ ?_
    intro x15 h15
    refine px_ne rfl q_X11_lamps_18 hg rfl trivial (fun c18 => ?_) (fun c18 => ?_)
    · replace h15 := px_bt h15 c18
      refine px_cSP rfl q_X11_lamps_23 hg rfl trivial lk_11_85 nm_X11_within (c_within hg _ _ _) rfl rfl rfl ⟨rfl, rfl⟩ ?_
      intro x28 h28
      refine px_eq rfl q_X11_lamps_31 hg rfl trivial (fun c31 => ?_) (fun c31 => ?_)
      · replace h28 := px_bf h28 c31
        refine px_riP rfl q_X11_lamps_47 rfl rfl rfl hg rfl trivial ⟨⟨rfl, rfl, rfl, rfl⟩, ?_⟩
        exact Or.inr ⟨fun ⟨G, z1, z2⟩ => by rcases z1 with ⟨e, rfl⟩ | ⟨e, rfl⟩ <;> (first | exact absurd (hg0.symm.trans e) (by decide) | exact absurd e hg0 | exact absurd e hg1 | grind), rfl⟩
      · replace h28 := px_bt h28 c31
        refine px_cSP rfl q_X11_lamps_34 hg rfl trivial lk_11_99 nm_X11_ordered (c_ordered hg _ _ _ _) rfl rfl rfl ⟨rfl, rfl⟩ ?_
        intro x41 h41
        refine px_ne rfl q_X11_lamps_44 hg rfl trivial (fun c44 => ?_) (fun c44 => ?_)
        · replace h41 := px_bt h41 c44
          refine px_cVP (ci := 1) rfl q_X11_lamps_49 hg rfl trivial lk_11_156 nm_X1_holesAgree (c_holesAgreeB hg _ _ _ _ (by assumption) (by grind)) rfl rfl (px_lit hg rfl) rfl rfl rfl ⟨rfl, rfl⟩ ?_
          intro x57 h57
          refine px_eq rfl q_X11_lamps_60 hg rfl trivial (fun c60 => ?_) (fun c60 => ?_)
          · refine px_riP rfl q_X11_lamps_67 rfl rfl rfl hg rfl trivial ⟨⟨rfl, rfl, rfl, rfl⟩, ?_⟩
            exact Or.inl ⟨55, ⟨Or.inr ⟨hg0, rfl⟩, by assumption, by assumption, by assumption⟩, Or.inr ⟨rfl, (h57.resolve_left (fun z => absurd (z.1.symm.trans (by assumption)) (by decide))).2⟩⟩
          · refine px_riP rfl q_X11_lamps_63 rfl rfl rfl hg rfl trivial ⟨⟨rfl, rfl, rfl, rfl⟩, ?_⟩
            exact Or.inl ⟨55, ⟨Or.inr ⟨hg0, rfl⟩, by assumption, by assumption, by assumption⟩, Or.inl ⟨rfl, (h57.resolve_right (fun z => absurd z.1 (by assumption))).2⟩⟩
        · replace h41 := px_bf h41 c44
          refine px_riP rfl q_X11_lamps_47 rfl rfl rfl hg rfl trivial ⟨⟨rfl, rfl, rfl, rfl⟩, ?_⟩
          exact Or.inr ⟨fun ⟨G, z1, z2⟩ => by rcases z1 with ⟨e, rfl⟩ | ⟨e, rfl⟩ <;> (first | exact absurd (hg0.symm.trans e) (by decide) | exact absurd e hg0 | exact absurd e hg1 | grind), rfl⟩
    · replace h15 := px_bf h15 c18
      refine px_riP rfl q_X11_lamps_21 rfl rfl rfl hg rfl trivial ⟨⟨rfl, rfl, rfl, rfl⟩, ?_⟩
      exact Or.inr ⟨fun ⟨G, z1, z2⟩ => by rcases z1 with ⟨e, rfl⟩ | ⟨e, rfl⟩ <;> (first | exact absurd (hg0.symm.trans e) (by decide) | exact absurd e hg0 | exact absurd e hg1 | grind), rfl⟩
  · refine px_nulN rfl q_X11_lamps_5 hg rfl trivial ?_
    refine px_riP rfl q_X11_lamps_21 rfl rfl rfl hg rfl trivial ⟨⟨rfl, rfl, rfl, rfl⟩, ?_⟩
    exact Or.inr ⟨fun ⟨G, z1, z2⟩ => by rcases z1 with ⟨e, rfl⟩ | ⟨e, rfl⟩ <;> (first | exact absurd (hg0.symm.trans e) (by decide) | exact absurd e hg0 | exact absurd e hg1 | grind), rfl⟩

theorem q_X11_count_0 : px_bk 11 4 cX11_count 0 [(.aload_n 0, (0, 0, 0, 0, 0), 0, 0), (.getfield 29, (11, 3, 3, 69, 0), 0, 0), (.iload_n 1, (0, 0, 0, 0, 0), 0, 0), (.iload_n 2, (0, 0, 0, 0, 0), 0, 0), (.iload_n 3, (0, 0, 0, 0, 0), 0, 0)] = some 7 ∧ px_tv cX11_count 7 159 = true := by decide +kernel
theorem q_X11_count_10 : px_bk 11 4 cX11_count 10 [] = some 10 ∧ px_tr cX11_count 10 .ireturn = true := by decide +kernel
set_option maxRecDepth 100000 in
theorem b_count {n : Nat} {I : px_I} {L : px_L} {R : px_R} (hg : px_G n R) (u lo hi : Int32) : px_KS M_X11_count [.ref 32, .int u, .int lo, .int hi] n I L R (fun r I2 L2 => L2 = L ∧ ((cCount I u lo hi ∧ r = I 69 0 + 1 ∧ I2 = px_u (px_u (px_u I 69 1 (cCf I u lo)) 69 2 (cCt I u hi)) 69 0 (I 69 0 + 1)) ∨ (¬ cCount I u lo hi ∧ r = -1 ∧ I2 = I))) := by
  refine px_of (plainFor_of_name np_RX11) (fun _ _ _ => trivial) rfl ?_
  refine px_cVS (ci := 2) rfl q_X11_count_0 hg rfl trivial lk_11_159 nm_X2_addCount (c_addCount hg _ _ _) rfl rfl (px_lit hg rfl) rfl rfl rfl ⟨rfl, rfl⟩ ?_
  intro x7 I7 L7 h7
  refine px_riS rfl q_X11_count_10 rfl rfl rfl hg rfl trivial ⟨⟨rfl, rfl⟩, ?_⟩
  assumption

theorem q_X11_unit_0 : px_bk 11 2 cX11_unit 0 [(.aload_n 0, (0, 0, 0, 0, 0), 0, 0), (.getfield 29, (11, 3, 3, 69, 0), 0, 0), (.getfield 162, (2, 0, 0, 0, 0), 0, 0)] = some 7 ∧ px_t1 cX11_unit 7 .ne 12 = true := by decide +kernel
theorem q_X11_unit_12 : px_bk 11 2 cX11_unit 12 [(.iload_n 1, (0, 0, 0, 0, 0), 0, 0)] = some 13 ∧ px_t1 cX11_unit 13 .eq 26 = true := by decide +kernel
theorem q_X11_unit_26 : px_bk 11 2 cX11_unit 26 [(.aload_n 0, (0, 0, 0, 0, 0), 0, 0), (.getfield 29, (11, 3, 3, 69, 0), 0, 0), (.getfield 168, (2, 1, 0, 0, 0), 0, 0)] = some 33 ∧ px_tr cX11_unit 33 .ireturn = true := by decide +kernel
theorem q_X11_unit_16 : px_bk 11 2 cX11_unit 16 [(.aload_n 0, (0, 0, 0, 0, 0), 0, 0), (.getfield 29, (11, 3, 3, 69, 0), 0, 0), (.getfield 165, (2, 2, 0, 0, 0), 0, 0), (.goto 10, (0, 0, 0, 0, 0), 0, 0)] = some 33 ∧ px_tr cX11_unit 33 .ireturn = true := by decide +kernel
theorem q_X11_unit_10 : px_bk 11 2 cX11_unit 10 [(.iconst (-1), (0, 0, 0, 0, 0), -1, 0)] = some 11 ∧ px_tr cX11_unit 11 .ireturn = true := by decide +kernel
set_option maxRecDepth 100000 in
theorem b_unit {n : Nat} {I : px_I} {L : px_L} {R : px_R} (hg : px_G n R) (h : Int32) : px_KP M_X11_unit [.ref 32, .int h] n I L R (fun r => r = if I 69 0 = 0 then -1 else if ¬ h = 0 then I 69 2 else I 69 1) := by
  refine px_of (plainFor_of_name np_RX11) (fun _ _ _ => trivial) rfl ?_
  refine px_ne rfl q_X11_unit_0 hg rfl trivial (fun c7 => ?_) (fun c7 => ?_)
  · refine px_eq rfl q_X11_unit_12 hg rfl trivial (fun c13 => ?_) (fun c13 => ?_)
    · refine px_riP rfl q_X11_unit_26 rfl rfl rfl hg rfl trivial ⟨⟨rfl, rfl, rfl, rfl⟩, ?_⟩
      grind
    · refine px_riP rfl q_X11_unit_16 rfl rfl rfl hg rfl trivial ⟨⟨rfl, rfl, rfl, rfl⟩, ?_⟩
      grind
  · refine px_riP rfl q_X11_unit_10 rfl rfl rfl hg rfl trivial ⟨⟨rfl, rfl, rfl, rfl⟩, ?_⟩
    grind

theorem q_X11_feed_0 : px_bk 11 6 cX11_feed 0 [(.aload_n 0, (0, 0, 0, 0, 0), 0, 0), (.getfield 36, (11, 4, 3, 70, 0), 0, 0), (.bipush 20, (0, 0, 0, 0, 0), 20, 0)] = some 6 ∧ px_tv cX11_feed 6 171 = true := by decide +kernel
theorem q_X11_feed_9 : px_bk 11 6 cX11_feed 9 [] = some 9 ∧ px_t1 cX11_feed 9 .ne 14 = true := by decide +kernel
theorem q_X11_feed_14 : px_bk 11 6 cX11_feed 14 [(.aload_n 0, (0, 0, 0, 0, 0), 0, 0), (.getfield 36, (11, 4, 3, 70, 0), 0, 0), (.iload_n 1, (0, 0, 0, 0, 0), 0, 0)] = some 19 ∧ px_tv cX11_feed 19 174 = true := by decide +kernel
theorem q_X11_feed_22 : px_bk 11 6 cX11_feed 22 [(.aload_n 0, (0, 0, 0, 0, 0), 0, 0), (.getfield 36, (11, 4, 3, 70, 0), 0, 0), (.iload_n 2, (0, 0, 0, 0, 0), 0, 0)] = some 27 ∧ px_tv cX11_feed 27 174 = true := by decide +kernel
theorem q_X11_feed_30 : px_bk 11 6 cX11_feed 30 [(.aload_n 0, (0, 0, 0, 0, 0), 0, 0), (.getfield 36, (11, 4, 3, 70, 0), 0, 0), (.iload_n 3, (0, 0, 0, 0, 0), 0, 0)] = some 35 ∧ px_tv cX11_feed 35 174 = true := by decide +kernel
theorem q_X11_feed_38 : px_bk 11 6 cX11_feed 38 [(.aload_n 0, (0, 0, 0, 0, 0), 0, 0), (.getfield 36, (11, 4, 3, 70, 0), 0, 0), (.iload 4, (0, 0, 0, 0, 0), 0, 0)] = some 44 ∧ px_tv cX11_feed 44 174 = true := by decide +kernel
theorem q_X11_feed_47 : px_bk 11 6 cX11_feed 47 [(.aload_n 0, (0, 0, 0, 0, 0), 0, 0), (.getfield 36, (11, 4, 3, 70, 0), 0, 0), (.iload 5, (0, 0, 0, 0, 0), 0, 0)] = some 53 ∧ px_tv cX11_feed 53 174 = true := by decide +kernel
theorem q_X11_feed_56 : px_bk 11 6 cX11_feed 56 [(.aload_n 0, (0, 0, 0, 0, 0), 0, 0), (.getfield 36, (11, 4, 3, 70, 0), 0, 0), (.getfield 178, (8, 5, 0, 0, 0), 0, 0)] = some 63 ∧ px_tr cX11_feed 63 .ireturn = true := by decide +kernel
theorem q_X11_feed_12 : px_bk 11 6 cX11_feed 12 [(.iconst (-1), (0, 0, 0, 0, 0), -1, 0)] = some 13 ∧ px_tr cX11_feed 13 .ireturn = true := by decide +kernel
set_option maxRecDepth 100000 in
theorem b_feed {n : Nat} {I : px_I} {L : px_L} {R : px_R} (hg : px_G n R) (a b c d e : Int32) (ht : 0 ≤ I 70 5 ∧ I 70 5 ≤ 400) : px_KS M_X11_feed [.ref 32, .int a, .int b, .int c, .int d, .int e] n I L R (fun r I2 L2 => L2 = L ∧ ((I 70 5 + 20 ≤ 400 ∧ r = I 70 5 + 20 ∧ I2 = cApp (cApp (cApp (cApp (cApp I a) b) c) d) e) ∨ (¬ I 70 5 + 20 ≤ 400 ∧ r = -1 ∧ I2 = I))) := by
  refine px_of (plainFor_of_name np_RX11) (fun _ _ _ => trivial) rfl ?_
  refine px_cVP (ci := 8) rfl q_X11_feed_0 hg rfl trivial lk_11_171 nm_X8_hasRoom (c_hasRoom hg _) rfl rfl (px_lit hg rfl) rfl rfl rfl ⟨rfl, rfl⟩ ?_
  intro x6 h6
  refine px_ne rfl q_X11_feed_9 hg rfl trivial (fun c9 => ?_) (fun c9 => ?_)
  · replace h6 := px_bt h6 c9
    refine px_cVW (ci := 8) rfl q_X11_feed_14 hg rfl trivial lk_11_174 nm_X8_append (c_append hg _ (by first | assumption | grind)) rfl rfl (px_lit hg rfl) rfl rfl rfl ⟨rfl, rfl⟩ ?_
    intro I19 L19 h19
    obtain ⟨rfl, h19⟩ := h19
    have e19 := congrFun (congrFun h19 70) 5
    rw [cApp_5] at e19
    refine px_cVW (ci := 8) rfl q_X11_feed_22 hg rfl trivial lk_11_174 nm_X8_append (c_append hg _ (by first | assumption | grind)) rfl rfl (px_lit hg rfl) rfl rfl rfl ⟨rfl, rfl⟩ ?_
    intro I27 L27 h27
    obtain ⟨rfl, h27⟩ := h27
    have e27 := congrFun (congrFun h27 70) 5
    rw [cApp_5] at e27
    refine px_cVW (ci := 8) rfl q_X11_feed_30 hg rfl trivial lk_11_174 nm_X8_append (c_append hg _ (by first | assumption | grind)) rfl rfl (px_lit hg rfl) rfl rfl rfl ⟨rfl, rfl⟩ ?_
    intro I35 L35 h35
    obtain ⟨rfl, h35⟩ := h35
    have e35 := congrFun (congrFun h35 70) 5
    rw [cApp_5] at e35
    refine px_cVW (ci := 8) rfl q_X11_feed_38 hg rfl trivial lk_11_174 nm_X8_append (c_append hg _ (by first | assumption | grind)) rfl rfl (px_lit hg rfl) rfl rfl rfl ⟨rfl, rfl⟩ ?_
    intro I44 L44 h44
    obtain ⟨rfl, h44⟩ := h44
    have e44 := congrFun (congrFun h44 70) 5
    rw [cApp_5] at e44
    refine px_cVW (ci := 8) rfl q_X11_feed_47 hg rfl trivial lk_11_174 nm_X8_append (c_append hg _ (by first | assumption | grind)) rfl rfl (px_lit hg rfl) rfl rfl rfl ⟨rfl, rfl⟩ ?_
    intro I53 L53 h53
    obtain ⟨rfl, h53⟩ := h53
    have e53 := congrFun (congrFun h53 70) 5
    rw [cApp_5] at e53
    refine px_riS rfl q_X11_feed_56 rfl rfl rfl hg rfl trivial ⟨⟨rfl, rfl⟩, ?_⟩
    first | exact ⟨rfl, Or.inr ⟨by assumption, rfl, rfl⟩⟩ | (subst h19; subst h27; subst h35; subst h44; exact ⟨rfl, Or.inl ⟨by assumption, by grind, h53⟩⟩)
  · replace h6 := px_bf h6 c9
    refine px_riS rfl q_X11_feed_12 rfl rfl rfl hg rfl trivial ⟨⟨rfl, rfl⟩, ?_⟩
    first | exact ⟨rfl, Or.inr ⟨by assumption, rfl, rfl⟩⟩ | (subst h19; subst h27; subst h35; subst h44; exact ⟨rfl, Or.inl ⟨by assumption, by grind, h53⟩⟩)

theorem q_X11_end_0 : px_bk 11 2 cX11_end 0 [(.iload_n 1, (0, 0, 0, 0, 0), 0, 0), (.iconst 0, (0, 0, 0, 0, 0), 0, 0), (.aload_n 0, (0, 0, 0, 0, 0), 0, 0), (.getfield 36, (11, 4, 3, 70, 0), 0, 0), (.getfield 178, (8, 5, 0, 0, 0), 0, 0)] = some 9 ∧ px_tS cX11_end 9 85 = true := by decide +kernel
theorem q_X11_end_12 : px_bk 11 2 cX11_end 12 [] = some 12 ∧ px_t1 cX11_end 12 .ne 17 = true := by decide +kernel
theorem q_X11_end_17 : px_bk 11 2 cX11_end 17 [(.aload_n 0, (0, 0, 0, 0, 0), 0, 0), (.getfield 36, (11, 4, 3, 70, 0), 0, 0), (.iload_n 1, (0, 0, 0, 0, 0), 0, 0), (.putfield 178, (8, 5, 0, 0, 0), 0, 0), (.iload_n 1, (0, 0, 0, 0, 0), 0, 0)] = some 26 ∧ px_tr cX11_end 26 .ireturn = true := by decide +kernel
theorem q_X11_end_15 : px_bk 11 2 cX11_end 15 [(.iconst (-1), (0, 0, 0, 0, 0), -1, 0)] = some 16 ∧ px_tr cX11_end 16 .ireturn = true := by decide +kernel
set_option maxRecDepth 100000 in
theorem b_end {n : Nat} {I : px_I} {L : px_L} {R : px_R} (hg : px_G n R) (x : Int32) : px_KS M_X11_end [.ref 32, .int x] n I L R (fun r I2 L2 => L2 = L ∧ (((0 ≤ x ∧ x ≤ I 70 5) ∧ r = x ∧ I2 = px_u I 70 5 x) ∨ (¬ (0 ≤ x ∧ x ≤ I 70 5) ∧ r = -1 ∧ I2 = I))) := by
  refine px_of (plainFor_of_name np_RX11) (fun _ _ _ => trivial) rfl ?_
  refine px_cSP rfl q_X11_end_0 hg rfl trivial lk_11_85 nm_X11_within (c_within hg _ _ _) rfl rfl rfl ⟨rfl, rfl⟩ ?_
  intro x9 h9
  refine px_ne rfl q_X11_end_12 hg rfl trivial (fun c12 => ?_) (fun c12 => ?_)
  · replace h9 := px_bt h9 c12
    refine px_riS rfl q_X11_end_17 rfl rfl rfl hg rfl trivial ⟨⟨rfl, rfl⟩, ?_⟩
    grind
  · replace h9 := px_bf h9 c12
    refine px_riS rfl q_X11_end_15 rfl rfl rfl hg rfl trivial ⟨⟨rfl, rfl⟩, ?_⟩
    grind

theorem q_X11_fault_0 : px_bk 11 2 cX11_fault 0 [(.iload_n 1, (0, 0, 0, 0, 0), 0, 0)] = some 1 ∧ px_t1 cX11_fault 1 .ne 12 = true := by decide +kernel
theorem q_X11_fault_12 : px_bk 11 2 cX11_fault 12 [(.iload_n 1, (0, 0, 0, 0, 0), 0, 0), (.iconst 1, (0, 0, 0, 0, 0), 1, 0)] = some 14 ∧ px_t2 cX11_fault 14 .ne 27 = true := by decide +kernel
theorem q_X11_fault_27 : px_bk 11 2 cX11_fault 27 [(.iconst (-1), (0, 0, 0, 0, 0), -1, 0)] = some 28 ∧ px_tr cX11_fault 28 .ireturn = true := by decide +kernel
theorem q_X11_fault_17 : px_bk 11 2 cX11_fault 17 [(.aload_n 0, (0, 0, 0, 0, 0), 0, 0), (.getfield 45, (11, 5, 3, 76, 0), 0, 0), (.getfield 202, (4, 15, 0, 0, 0), 0, 0), (.goto 4, (0, 0, 0, 0, 0), 0, 0)] = some 28 ∧ px_tr cX11_fault 28 .ireturn = true := by decide +kernel
theorem q_X11_fault_4 : px_bk 11 2 cX11_fault 4 [(.aload_n 0, (0, 0, 0, 0, 0), 0, 0), (.getfield 45, (11, 5, 3, 76, 0), 0, 0), (.getfield 199, (4, 14, 0, 0, 0), 0, 0)] = some 11 ∧ px_tr cX11_fault 11 .ireturn = true := by decide +kernel
set_option maxRecDepth 100000 in
theorem b_fault {n : Nat} {I : px_I} {L : px_L} {R : px_R} (hg : px_G n R) (x : Int32) : px_KP M_X11_fault [.ref 32, .int x] n I L R (fun r => r = if x = 0 then I 76 14 else if x = 1 then I 76 15 else -1) := by
  refine px_of (plainFor_of_name np_RX11) (fun _ _ _ => trivial) rfl ?_
  refine px_ne rfl q_X11_fault_0 hg rfl trivial (fun c1 => ?_) (fun c1 => ?_)
  · refine px_ine rfl q_X11_fault_12 hg rfl trivial (fun c14 => ?_) (fun c14 => ?_)
    · refine px_riP rfl q_X11_fault_27 rfl rfl rfl hg rfl trivial ⟨⟨rfl, rfl, rfl, rfl⟩, ?_⟩
      grind
    · refine px_riP rfl q_X11_fault_17 rfl rfl rfl hg rfl trivial ⟨⟨rfl, rfl, rfl, rfl⟩, ?_⟩
      grind
  · refine px_riP rfl q_X11_fault_4 rfl rfl rfl hg rfl trivial ⟨⟨rfl, rfl, rfl, rfl⟩, ?_⟩
    grind

theorem q_X11_tools_0 : px_bk 11 6 cX11_tools 0 [(.iload_n 1, (0, 0, 0, 0, 0), 0, 0), (.iconst 0, (0, 0, 0, 0, 0), 0, 0), (.sipush 1000, (0, 0, 0, 0, 0), 1000, 0)] = some 5 ∧ px_tS cX11_tools 5 85 = true := by decide +kernel
theorem q_X11_tools_8 : px_bk 11 6 cX11_tools 8 [] = some 8 ∧ px_t1 cX11_tools 8 .eq 33 = true := by decide +kernel
theorem q_X11_tools_33 : px_bk 11 6 cX11_tools 33 [(.iconst 0, (0, 0, 0, 0, 0), 0, 0)] = some 34 ∧ px_tr cX11_tools 34 .ireturn = true := by decide +kernel
theorem q_X11_tools_11 : px_bk 11 6 cX11_tools 11 [(.iload_n 2, (0, 0, 0, 0, 0), 0, 0), (.iconst 0, (0, 0, 0, 0, 0), 0, 0), (.sipush 1000, (0, 0, 0, 0, 0), 1000, 0)] = some 16 ∧ px_tS cX11_tools 16 85 = true := by decide +kernel
theorem q_X11_tools_19 : px_bk 11 6 cX11_tools 19 [] = some 19 ∧ px_t1 cX11_tools 19 .eq 33 = true := by decide +kernel
theorem q_X11_tools_22 : px_bk 11 6 cX11_tools 22 [(.iload_n 3, (0, 0, 0, 0, 0), 0, 0), (.iconst 0, (0, 0, 0, 0, 0), 0, 0), (.sipush 1000, (0, 0, 0, 0, 0), 1000, 0)] = some 27 ∧ px_tS cX11_tools 27 85 = true := by decide +kernel
theorem q_X11_tools_30 : px_bk 11 6 cX11_tools 30 [] = some 30 ∧ px_t1 cX11_tools 30 .ne 35 = true := by decide +kernel
theorem q_X11_tools_35 : px_bk 11 6 cX11_tools 35 [(.iload 4, (0, 0, 0, 0, 0), 0, 0), (.iconst 0, (0, 0, 0, 0, 0), 0, 0), (.sipush 10000, (0, 0, 0, 0, 0), 10000, 0)] = some 41 ∧ px_tS cX11_tools 41 85 = true := by decide +kernel
theorem q_X11_tools_44 : px_bk 11 6 cX11_tools 44 [] = some 44 ∧ px_t1 cX11_tools 44 .eq 59 = true := by decide +kernel
theorem q_X11_tools_59 : px_bk 11 6 cX11_tools 59 [(.iconst 0, (0, 0, 0, 0, 0), 0, 0)] = some 60 ∧ px_tr cX11_tools 60 .ireturn = true := by decide +kernel
theorem q_X11_tools_47 : px_bk 11 6 cX11_tools 47 [(.iload 5, (0, 0, 0, 0, 0), 0, 0), (.iconst 0, (0, 0, 0, 0, 0), 0, 0), (.sipush 1000, (0, 0, 0, 0, 0), 1000, 0)] = some 53 ∧ px_tS cX11_tools 53 85 = true := by decide +kernel
theorem q_X11_tools_56 : px_bk 11 6 cX11_tools 56 [] = some 56 ∧ px_t1 cX11_tools 56 .ne 61 = true := by decide +kernel
theorem q_X11_tools_61 : px_bk 11 6 cX11_tools 61 [(.aload_n 0, (0, 0, 0, 0, 0), 0, 0), (.getfield 52, (11, 6, 3, 85, 0), 0, 0), (.getfield 205, (5, 0, 3, 86, 0), 0, 0), (.iload_n 1, (0, 0, 0, 0, 0), 0, 0), (.iload_n 2, (0, 0, 0, 0, 0), 0, 0), (.iload_n 3, (0, 0, 0, 0, 0), 0, 0), (.iload 4, (0, 0, 0, 0, 0), 0, 0), (.iload 5, (0, 0, 0, 0, 0), 0, 0)] = some 75 ∧ px_tv cX11_tools 75 209 = true := by decide +kernel
theorem q_X11_tools_78 : px_bk 11 6 cX11_tools 78 [(.aload_n 0, (0, 0, 0, 0, 0), 0, 0), (.getfield 52, (11, 6, 3, 85, 0), 0, 0)] = some 82 ∧ px_tv cX11_tools 82 215 = true := by decide +kernel
theorem q_X11_tools_85 : px_bk 11 6 cX11_tools 85 [(.iconst 1, (0, 0, 0, 0, 0), 1, 0)] = some 86 ∧ px_tr cX11_tools 86 .ireturn = true := by decide +kernel
set_option maxRecDepth 100000 in
theorem b_tools {n : Nat} {I : px_I} {L : px_L} {R : px_R} (hg : px_G n R) (a b c d e : Int32) : px_KS M_X11_tools [.ref 32, .int a, .int b, .int c, .int d, .int e] n I L R (fun r I2 L2 => L2 = L ∧ ((((0 ≤ a ∧ a ≤ 1000) ∧ (0 ≤ b ∧ b ≤ 1000) ∧ (0 ≤ c ∧ c ≤ 1000) ∧ (0 ≤ d ∧ d ≤ 10000) ∧ (0 ≤ e ∧ e ≤ 1000)) ∧ r = 1 ∧ cKF (px_u (px_u (px_u (px_u (px_u I 86 3 a) 86 4 b) 86 5 c) 86 6 d) 86 7 e) I2) ∨ (¬ ((0 ≤ a ∧ a ≤ 1000) ∧ (0 ≤ b ∧ b ≤ 1000) ∧ (0 ≤ c ∧ c ≤ 1000) ∧ (0 ≤ d ∧ d ≤ 10000) ∧ (0 ≤ e ∧ e ≤ 1000)) ∧ r = 0 ∧ I2 = I))) := by
  refine px_of (plainFor_of_name np_RX11) (fun _ _ _ => trivial) rfl ?_
  refine px_cSP rfl q_X11_tools_0 hg rfl trivial lk_11_85 nm_X11_within (c_within hg _ _ _) rfl rfl rfl ⟨rfl, rfl⟩ ?_
  intro x5 h5
  refine px_eq rfl q_X11_tools_8 hg rfl trivial (fun c8 => ?_) (fun c8 => ?_)
  · replace h5 := px_bf h5 c8
    refine px_rzS rfl q_X11_tools_33 rfl rfl rfl hg rfl trivial ⟨⟨rfl, rfl⟩, (by first | exact Or.inl rfl | exact Or.inr rfl | grind), ?_⟩
    first | exact ⟨rfl, Or.inr ⟨fun z => by grind, rfl, rfl⟩⟩ | exact ⟨rfl, Or.inl ⟨⟨by assumption, by assumption, by assumption, by assumption, by assumption⟩, rfl, by assumption⟩⟩
  · replace h5 := px_bt h5 c8
    refine px_cSP rfl q_X11_tools_11 hg rfl trivial lk_11_85 nm_X11_within (c_within hg _ _ _) rfl rfl rfl ⟨rfl, rfl⟩ ?_
    intro x16 h16
    refine px_eq rfl q_X11_tools_19 hg rfl trivial (fun c19 => ?_) (fun c19 => ?_)
    · replace h16 := px_bf h16 c19
      refine px_rzS rfl q_X11_tools_33 rfl rfl rfl hg rfl trivial ⟨⟨rfl, rfl⟩, (by first | exact Or.inl rfl | exact Or.inr rfl | grind), ?_⟩
      first | exact ⟨rfl, Or.inr ⟨fun z => by grind, rfl, rfl⟩⟩ | exact ⟨rfl, Or.inl ⟨⟨by assumption, by assumption, by assumption, by assumption, by assumption⟩, rfl, by assumption⟩⟩
    · replace h16 := px_bt h16 c19
      refine px_cSP rfl q_X11_tools_22 hg rfl trivial lk_11_85 nm_X11_within (c_within hg _ _ _) rfl rfl rfl ⟨rfl, rfl⟩ ?_
      intro x27 h27
      refine px_ne rfl q_X11_tools_30 hg rfl trivial (fun c30 => ?_) (fun c30 => ?_)
      · replace h27 := px_bt h27 c30
        refine px_cSP rfl q_X11_tools_35 hg rfl trivial lk_11_85 nm_X11_within (c_within hg _ _ _) rfl rfl rfl ⟨rfl, rfl⟩ ?_
        intro x41 h41
        refine px_eq rfl q_X11_tools_44 hg rfl trivial (fun c44 => ?_) (fun c44 => ?_)
        · replace h41 := px_bf h41 c44
          refine px_rzS rfl q_X11_tools_59 rfl rfl rfl hg rfl trivial ⟨⟨rfl, rfl⟩, (by first | exact Or.inl rfl | exact Or.inr rfl | grind), ?_⟩
          first | exact ⟨rfl, Or.inr ⟨fun z => by grind, rfl, rfl⟩⟩ | exact ⟨rfl, Or.inl ⟨⟨by assumption, by assumption, by assumption, by assumption, by assumption⟩, rfl, by assumption⟩⟩
        · replace h41 := px_bt h41 c44
          refine px_cSP rfl q_X11_tools_47 hg rfl trivial lk_11_85 nm_X11_within (c_within hg _ _ _) rfl rfl rfl ⟨rfl, rfl⟩ ?_
          intro x53 h53
          refine px_ne rfl q_X11_tools_56 hg rfl trivial (fun c56 => ?_) (fun c56 => ?_)
          · replace h53 := px_bt h53 c56
            refine px_cVW (ci := 9) rfl q_X11_tools_61 hg rfl trivial lk_11_209 nm_X9_take (c_takeW hg _ _ _ _ _) rfl rfl (px_lit hg rfl) rfl rfl rfl ⟨rfl, rfl⟩ ?_
            intro I75 L75 h75
            obtain ⟨rfl, rfl⟩ := h75
            refine px_cVW (ci := 5) rfl q_X11_tools_78 hg rfl trivial lk_11_215 nm_X5_forgetAll (c_forgetAll hg) rfl rfl (px_lit hg rfl) rfl rfl rfl ⟨rfl, rfl⟩ ?_
            intro I82 L82 h82
            obtain ⟨rfl, h82⟩ := h82
            refine px_rzS rfl q_X11_tools_85 rfl rfl rfl hg rfl trivial ⟨⟨rfl, rfl⟩, (by first | exact Or.inl rfl | exact Or.inr rfl | grind), ?_⟩
            first | exact ⟨rfl, Or.inr ⟨fun z => by grind, rfl, rfl⟩⟩ | exact ⟨rfl, Or.inl ⟨⟨by assumption, by assumption, by assumption, by assumption, by assumption⟩, rfl, by assumption⟩⟩
          · replace h53 := px_bf h53 c56
            refine px_rzS rfl q_X11_tools_59 rfl rfl rfl hg rfl trivial ⟨⟨rfl, rfl⟩, (by first | exact Or.inl rfl | exact Or.inr rfl | grind), ?_⟩
            first | exact ⟨rfl, Or.inr ⟨fun z => by grind, rfl, rfl⟩⟩ | exact ⟨rfl, Or.inl ⟨⟨by assumption, by assumption, by assumption, by assumption, by assumption⟩, rfl, by assumption⟩⟩
      · replace h27 := px_bf h27 c30
        refine px_rzS rfl q_X11_tools_33 rfl rfl rfl hg rfl trivial ⟨⟨rfl, rfl⟩, (by first | exact Or.inl rfl | exact Or.inr rfl | grind), ?_⟩
        first | exact ⟨rfl, Or.inr ⟨fun z => by grind, rfl, rfl⟩⟩ | exact ⟨rfl, Or.inl ⟨⟨by assumption, by assumption, by assumption, by assumption, by assumption⟩, rfl, by assumption⟩⟩

theorem q_X11_canMeet_0 : px_bk 11 5 cX11_canMeet 0 [(.aload_n 0, (0, 0, 0, 0, 0), 0, 0), (.getfield 52, (11, 6, 3, 85, 0), 0, 0), (.iload_n 1, (0, 0, 0, 0, 0), 0, 0)] = some 5 ∧ px_tv cX11_canMeet 5 221 = true := by decide +kernel
theorem q_X11_canMeet_8 : px_bk 11 5 cX11_canMeet 8 [] = some 8 ∧ px_t1 cX11_canMeet 8 .eq 49 = true := by decide +kernel
theorem q_X11_canMeet_49 : px_bk 11 5 cX11_canMeet 49 [(.iconst 0, (0, 0, 0, 0, 0), 0, 0)] = some 50 ∧ px_tr cX11_canMeet 50 .ireturn = true := by decide +kernel
theorem q_X11_canMeet_11 : px_bk 11 5 cX11_canMeet 11 [(.aload_n 0, (0, 0, 0, 0, 0), 0, 0), (.getfield 52, (11, 6, 3, 85, 0), 0, 0), (.iload_n 3, (0, 0, 0, 0, 0), 0, 0)] = some 16 ∧ px_tv cX11_canMeet 16 221 = true := by decide +kernel
theorem q_X11_canMeet_19 : px_bk 11 5 cX11_canMeet 19 [] = some 19 ∧ px_t1 cX11_canMeet 19 .eq 49 = true := by decide +kernel
theorem q_X11_canMeet_22 : px_bk 11 5 cX11_canMeet 22 [(.aload_n 0, (0, 0, 0, 0, 0), 0, 0), (.getfield 10, (11, 0, 3, 33, 0), 0, 0), (.iload_n 2, (0, 0, 0, 0, 0), 0, 0)] = some 27 ∧ px_tv cX11_canMeet 27 103 = true := by decide +kernel
theorem q_X11_canMeet_30 : px_bk 11 5 cX11_canMeet 30 [] = some 30 ∧ px_t1 cX11_canMeet 30 .eq 49 = true := by decide +kernel
theorem q_X11_canMeet_33 : px_bk 11 5 cX11_canMeet 33 [(.aload_n 0, (0, 0, 0, 0, 0), 0, 0), (.getfield 10, (11, 0, 3, 33, 0), 0, 0), (.iload 4, (0, 0, 0, 0, 0), 0, 0)] = some 39 ∧ px_tv cX11_canMeet 39 103 = true := by decide +kernel
theorem q_X11_canMeet_42 : px_bk 11 5 cX11_canMeet 42 [] = some 42 ∧ px_t1 cX11_canMeet 42 .eq 49 = true := by decide +kernel
theorem q_X11_canMeet_45 : px_bk 11 5 cX11_canMeet 45 [(.iconst 1, (0, 0, 0, 0, 0), 1, 0), (.goto 4, (0, 0, 0, 0, 0), 0, 0)] = some 50 ∧ px_tr cX11_canMeet 50 .ireturn = true := by decide +kernel
set_option maxRecDepth 100000 in
theorem b_canMeet {n : Nat} {I : px_I} {L : px_L} {R : px_R} (hg : px_G n R) (a f b t : Int32) (hT : cTold n I R) : px_KS M_X11_canMeet [.ref 32, .int a, .int f, .int b, .int t] n I L R (fun r I2 L2 => (r = 0 ∨ r = 1) ∧ bXI I I2 ∧ bXL L L2) := by
  refine px_of (plainFor_of_name np_RX11) (fun _ _ _ => trivial) rfl ?_
  refine px_cVS (ci := 5) rfl q_X11_canMeet_0 hg rfl trivial lk_11_221 nm_X5_make (c_make hg _ hT) rfl rfl (px_lit hg rfl) rfl rfl rfl ⟨rfl, rfl⟩ ?_
  intro x5 I5 L5 h5
  obtain ⟨hr5, h5a, h5b⟩ := h5
  refine px_eq rfl q_X11_canMeet_8 hg rfl trivial (fun c8 => ?_) (fun c8 => ?_)
  · refine px_rzS rfl q_X11_canMeet_49 rfl rfl rfl hg rfl trivial ⟨⟨rfl, rfl⟩, (by first | exact Or.inl rfl | exact Or.inr rfl | grind), ?_⟩
    first | exact ⟨Or.inl rfl, h16a.b, h16b.b⟩ | exact ⟨Or.inr rfl, h16a.b, h16b.b⟩ | exact ⟨Or.inl rfl, h5a.b, h5b.b⟩
  · refine px_cVS (ci := 5) rfl q_X11_canMeet_11 hg rfl trivial lk_11_221 nm_X5_make (c_make hg _ (h5a.told hT)) rfl rfl (px_lit hg rfl) rfl rfl rfl ⟨rfl, rfl⟩ ?_
    intro x16 I16 L16 h16
    obtain ⟨hr16, h16a, h16b⟩ := h16
    replace h16a := h5a.trans h16a
    replace h16b := h5b.trans h16b
    refine px_eq rfl q_X11_canMeet_19 hg rfl trivial (fun c19 => ?_) (fun c19 => ?_)
    · refine px_rzS rfl q_X11_canMeet_49 rfl rfl rfl hg rfl trivial ⟨⟨rfl, rfl⟩, (by first | exact Or.inl rfl | exact Or.inr rfl | grind), ?_⟩
      first | exact ⟨Or.inl rfl, h16a.b, h16b.b⟩ | exact ⟨Or.inr rfl, h16a.b, h16b.b⟩ | exact ⟨Or.inl rfl, h5a.b, h5b.b⟩
    · refine px_cVP (ci := 7) rfl q_X11_canMeet_22 hg rfl trivial lk_11_103 nm_X7_has (c_has hg _) rfl rfl (px_lit hg rfl) rfl rfl rfl ⟨rfl, rfl⟩ ?_
      intro x27 h27
      refine px_eq rfl q_X11_canMeet_30 hg rfl trivial (fun c30 => ?_) (fun c30 => ?_)
      · replace h27 := px_bf h27 c30
        refine px_rzS rfl q_X11_canMeet_49 rfl rfl rfl hg rfl trivial ⟨⟨rfl, rfl⟩, (by first | exact Or.inl rfl | exact Or.inr rfl | grind), ?_⟩
        first | exact ⟨Or.inl rfl, h16a.b, h16b.b⟩ | exact ⟨Or.inr rfl, h16a.b, h16b.b⟩ | exact ⟨Or.inl rfl, h5a.b, h5b.b⟩
      · replace h27 := px_bt h27 c30
        refine px_cVP (ci := 7) rfl q_X11_canMeet_33 hg rfl trivial lk_11_103 nm_X7_has (c_has hg _) rfl rfl (px_lit hg rfl) rfl rfl rfl ⟨rfl, rfl⟩ ?_
        intro x39 h39
        refine px_eq rfl q_X11_canMeet_42 hg rfl trivial (fun c42 => ?_) (fun c42 => ?_)
        · replace h39 := px_bf h39 c42
          refine px_rzS rfl q_X11_canMeet_49 rfl rfl rfl hg rfl trivial ⟨⟨rfl, rfl⟩, (by first | exact Or.inl rfl | exact Or.inr rfl | grind), ?_⟩
          first | exact ⟨Or.inl rfl, h16a.b, h16b.b⟩ | exact ⟨Or.inr rfl, h16a.b, h16b.b⟩ | exact ⟨Or.inl rfl, h5a.b, h5b.b⟩
        · replace h39 := px_bt h39 c42
          refine px_rzS rfl q_X11_canMeet_45 rfl rfl rfl hg rfl trivial ⟨⟨rfl, rfl⟩, (by first | exact Or.inl rfl | exact Or.inr rfl | grind), ?_⟩
          first | exact ⟨Or.inl rfl, h16a.b, h16b.b⟩ | exact ⟨Or.inr rfl, h16a.b, h16b.b⟩ | exact ⟨Or.inl rfl, h5a.b, h5b.b⟩

theorem q_X11_meeting_0 : px_bk 11 7 cX11_meeting 0 [(.iload 5, (0, 0, 0, 0, 0), 0, 0)] = some 2 ∧ px_tS cX11_meeting 2 93 = true := by decide +kernel
theorem q_X11_meeting_5 : px_bk 11 7 cX11_meeting 5 [] = some 5 ∧ px_t1 cX11_meeting 5 .eq 20 = true := by decide +kernel
theorem q_X11_meeting_20 : px_bk 11 7 cX11_meeting 20 [(.ldc 120, (0, 0, 0, 0, 0), -2000000000, 0)] = some 22 ∧ px_tr cX11_meeting 22 .ireturn = true := by decide +kernel
theorem q_X11_meeting_8 : px_bk 11 7 cX11_meeting 8 [(.aload_n 0, (0, 0, 0, 0, 0), 0, 0), (.iload_n 1, (0, 0, 0, 0, 0), 0, 0), (.iload_n 2, (0, 0, 0, 0, 0), 0, 0), (.iload_n 3, (0, 0, 0, 0, 0), 0, 0), (.iload 4, (0, 0, 0, 0, 0), 0, 0)] = some 14 ∧ px_tv cX11_meeting 14 228 = true := by decide +kernel
theorem q_X11_meeting_17 : px_bk 11 7 cX11_meeting 17 [] = some 17 ∧ px_t1 cX11_meeting 17 .ne 23 = true := by decide +kernel
theorem q_X11_meeting_23 : px_bk 11 7 cX11_meeting 23 [(.aload_n 0, (0, 0, 0, 0, 0), 0, 0), (.getfield 61, (11, 7, 3, 92, 0), 0, 0), (.iload_n 2, (0, 0, 0, 0, 0), 0, 0), (.iload 4, (0, 0, 0, 0, 0), 0, 0), (.aload_n 0, (0, 0, 0, 0, 0), 0, 0), (.getfield 81, (11, 10, 0, 0, 0), 0, 0)] = some 34 ∧ px_tv cX11_meeting 34 231 = true := by decide +kernel
theorem q_X11_meeting_37 : px_bk 11 7 cX11_meeting 37 [(.aload_n 0, (0, 0, 0, 0, 0), 0, 0), (.getfield 61, (11, 7, 3, 92, 0), 0, 0), (.iload_n 1, (0, 0, 0, 0, 0), 0, 0), (.iload_n 3, (0, 0, 0, 0, 0), 0, 0), (.iload 5, (0, 0, 0, 0, 0), 0, 0), (.iload 6, (0, 0, 0, 0, 0), 0, 0)] = some 47 ∧ px_tv cX11_meeting 47 235 = true := by decide +kernel
theorem q_X11_meeting_50 : px_bk 11 7 cX11_meeting 50 [] = some 50 ∧ px_tr cX11_meeting 50 .ireturn = true := by decide +kernel
set_option maxRecDepth 100000 in
theorem b_meeting {n : Nat} {I : px_I} {L : px_L} {R : px_R} (hg : px_G n R) (a f b t x h : Int32) (hT : cTold n I R) (hS : cSt I) : px_KS M_X11_meeting [.ref 32, .int a, .int f, .int b, .int t, .int x, .int h] n I L R (fun r I2 L2 => bXI I I2 ∧ bXL L L2) := by
  refine px_of (plainFor_of_name np_RX11) (fun _ _ _ => trivial) rfl ?_
  refine px_cSP rfl q_X11_meeting_0 hg rfl trivial lk_11_93 nm_X11_isAxis (c_isAxis hg _) rfl rfl rfl ⟨rfl, rfl⟩ ?_
  intro x2 h2
  refine px_eq rfl q_X11_meeting_5 hg rfl trivial (fun c5 => ?_) (fun c5 => ?_)
  · replace h2 := px_bf h2 c5
    refine px_riS rfl q_X11_meeting_20 rfl rfl rfl hg rfl trivial ⟨⟨rfl, rfl⟩, ?_⟩
    first | exact ⟨h14a.trans h34c.b, h14b.trans h34d.b⟩ | exact ⟨h14a, h14b⟩ | exact ⟨bXI.rfl', bXL.rfl'⟩
  · replace h2 := px_bt h2 c5
    refine px_cVS (ci := 11) rfl q_X11_meeting_8 hg rfl trivial lk_11_228 nm_X11_canMeet (b_canMeet hg _ _ _ _ ‹_›) rfl rfl (px_lit hg rfl) rfl rfl rfl ⟨rfl, rfl⟩ ?_
    intro x14 I14 L14 h14
    obtain ⟨hr14, h14a, h14b⟩ := h14
    have hS14 := h14a.st hS
    have hs1 := hS14.2
    have hn1 := hS14.1.2
    refine px_ne rfl q_X11_meeting_17 hg rfl trivial (fun c17 => ?_) (fun c17 => ?_)
    · refine px_cVW (ci := 3) rfl q_X11_meeting_23 hg rfl trivial lk_11_231 nm_X3_look (c_look hg _ _ _ hs1 hn1) rfl rfl (px_lit hg rfl) rfl rfl rfl ⟨rfl, rfl⟩ ?_
      intro I34 L34 h34
      obtain ⟨h34c, h34d⟩ := h34
      refine px_cVP (ci := 3) rfl q_X11_meeting_37 hg rfl trivial lk_11_235 nm_X3_bound (c_boundM hg _ _ _ _) rfl rfl (px_lit hg rfl) rfl rfl rfl ⟨rfl, rfl⟩ ?_
      intro x47 h47
      refine px_riS rfl q_X11_meeting_50 rfl rfl rfl hg rfl trivial ⟨⟨rfl, rfl⟩, ?_⟩
      first | exact ⟨h14a.trans h34c.b, h14b.trans h34d.b⟩ | exact ⟨h14a, h14b⟩ | exact ⟨bXI.rfl', bXL.rfl'⟩
    · refine px_riS rfl q_X11_meeting_20 rfl rfl rfl hg rfl trivial ⟨⟨rfl, rfl⟩, ?_⟩
      first | exact ⟨h14a.trans h34c.b, h14b.trans h34d.b⟩ | exact ⟨h14a, h14b⟩ | exact ⟨bXI.rfl', bXL.rfl'⟩

theorem q_X11_there_0 : px_bk 11 4 cX11_there 0 [(.iload_n 1, (0, 0, 0, 0, 0), 0, 0)] = some 1 ∧ px_tS cX11_there 1 93 = true := by decide +kernel
theorem q_X11_there_4 : px_bk 11 4 cX11_there 4 [] = some 4 ∧ px_t1 cX11_there 4 .eq 19 = true := by decide +kernel
theorem q_X11_there_19 : px_bk 11 4 cX11_there 19 [(.iconst 0, (0, 0, 0, 0, 0), 0, 0)] = some 20 ∧ px_tr cX11_there 20 .ireturn = true := by decide +kernel
theorem q_X11_there_7 : px_bk 11 4 cX11_there 7 [(.iload_n 2, (0, 0, 0, 0, 0), 0, 0), (.iload_n 3, (0, 0, 0, 0, 0), 0, 0), (.ldc 97, (0, 0, 0, 0, 0), -1000000, 0), (.ldc 98, (0, 0, 0, 0, 0), 1000000, 0)] = some 13 ∧ px_tS cX11_there 13 99 = true := by decide +kernel
theorem q_X11_there_16 : px_bk 11 4 cX11_there 16 [] = some 16 ∧ px_t1 cX11_there 16 .ne 21 = true := by decide +kernel
theorem q_X11_there_21 : px_bk 11 4 cX11_there 21 [(.aload_n 0, (0, 0, 0, 0, 0), 0, 0), (.getfield 61, (11, 7, 3, 92, 0), 0, 0), (.iload_n 1, (0, 0, 0, 0, 0), 0, 0), (.iload_n 2, (0, 0, 0, 0, 0), 0, 0), (.iload_n 3, (0, 0, 0, 0, 0), 0, 0)] = some 28 ∧ px_tv cX11_there 28 238 = true := by decide +kernel
theorem q_X11_there_31 : px_bk 11 4 cX11_there 31 [(.iconst 1, (0, 0, 0, 0, 0), 1, 0)] = some 32 ∧ px_tr cX11_there 32 .ireturn = true := by decide +kernel
set_option maxRecDepth 100000 in
theorem b_there {n : Nat} {I : px_I} {L : px_L} {R : px_R} (hg : px_G n R) (a lo hi : Int32) : px_KS M_X11_there [.ref 32, .int a, .int lo, .int hi] n I L R (fun r I2 L2 => L2 = L ∧ ((((0 ≤ a ∧ a ≤ 2) ∧ (-1000000 ≤ lo ∧ lo ≤ hi ∧ hi ≤ 1000000)) ∧ r = 1 ∧ I2 = px_u (px_u I 93 a.toNatClampNeg lo) 94 a.toNatClampNeg hi) ∨ (¬ ((0 ≤ a ∧ a ≤ 2) ∧ (-1000000 ≤ lo ∧ lo ≤ hi ∧ hi ≤ 1000000)) ∧ r = 0 ∧ I2 = I))) := by
  refine px_of (plainFor_of_name np_RX11) (fun _ _ _ => trivial) rfl ?_
  refine px_cSP rfl q_X11_there_0 hg rfl trivial lk_11_93 nm_X11_isAxis (c_isAxis hg _) rfl rfl rfl ⟨rfl, rfl⟩ ?_
  intro x1 h1
  refine px_eq rfl q_X11_there_4 hg rfl trivial (fun c4 => ?_) (fun c4 => ?_)
  · replace h1 := px_bf h1 c4
    refine px_rzS rfl q_X11_there_19 rfl rfl rfl hg rfl trivial ⟨⟨rfl, rfl⟩, (by first | exact Or.inl rfl | exact Or.inr rfl | grind), ?_⟩
    first | exact ⟨rfl, Or.inr ⟨fun z => by first | exact absurd z.1 (by assumption) | exact absurd z.2 (by assumption), rfl, rfl⟩⟩ | exact ⟨h28.1, Or.inl ⟨⟨by assumption, by assumption⟩, rfl, by rw [h28.2, if_pos (by assumption)]⟩⟩
  · replace h1 := px_bt h1 c4
    refine px_cSP rfl q_X11_there_7 hg rfl trivial lk_11_99 nm_X11_ordered (c_ordered hg _ _ _ _) rfl rfl rfl ⟨rfl, rfl⟩ ?_
    intro x13 h13
    refine px_ne rfl q_X11_there_16 hg rfl trivial (fun c16 => ?_) (fun c16 => ?_)
    · replace h13 := px_bt h13 c16
      refine px_cVW (ci := 3) rfl q_X11_there_21 hg rfl trivial lk_11_238 nm_X3_seen (c_seen hg _ _ _) rfl rfl (px_lit hg rfl) rfl rfl rfl ⟨rfl, rfl⟩ ?_
      intro I28 L28 h28
      refine px_rzS rfl q_X11_there_31 rfl rfl rfl hg rfl trivial ⟨⟨rfl, rfl⟩, (by first | exact Or.inl rfl | exact Or.inr rfl | grind), ?_⟩
      first | exact ⟨rfl, Or.inr ⟨fun z => by first | exact absurd z.1 (by assumption) | exact absurd z.2 (by assumption), rfl, rfl⟩⟩ | exact ⟨h28.1, Or.inl ⟨⟨by assumption, by assumption⟩, rfl, by rw [h28.2, if_pos (by assumption)]⟩⟩
    · replace h13 := px_bf h13 c16
      refine px_rzS rfl q_X11_there_19 rfl rfl rfl hg rfl trivial ⟨⟨rfl, rfl⟩, (by first | exact Or.inl rfl | exact Or.inr rfl | grind), ?_⟩
      first | exact ⟨rfl, Or.inr ⟨fun z => by first | exact absurd z.1 (by assumption) | exact absurd z.2 (by assumption), rfl, rfl⟩⟩ | exact ⟨h28.1, Or.inl ⟨⟨by assumption, by assumption⟩, rfl, by rw [h28.2, if_pos (by assumption)]⟩⟩

theorem q_X11_fits_0 : px_bk 11 5 cX11_fits 0 [(.aload_n 0, (0, 0, 0, 0, 0), 0, 0), (.iload_n 1, (0, 0, 0, 0, 0), 0, 0), (.iload_n 2, (0, 0, 0, 0, 0), 0, 0), (.iload_n 3, (0, 0, 0, 0, 0), 0, 0), (.iload 4, (0, 0, 0, 0, 0), 0, 0)] = some 6 ∧ px_tv cX11_fits 6 228 = true := by decide +kernel
theorem q_X11_fits_9 : px_bk 11 5 cX11_fits 9 [] = some 9 ∧ px_t1 cX11_fits 9 .ne 14 = true := by decide +kernel
theorem q_X11_fits_14 : px_bk 11 5 cX11_fits 14 [(.aload_n 0, (0, 0, 0, 0, 0), 0, 0), (.getfield 61, (11, 7, 3, 92, 0), 0, 0), (.iload_n 2, (0, 0, 0, 0, 0), 0, 0), (.iload 4, (0, 0, 0, 0, 0), 0, 0), (.aload_n 0, (0, 0, 0, 0, 0), 0, 0), (.getfield 81, (11, 10, 0, 0, 0), 0, 0)] = some 25 ∧ px_tv cX11_fits 25 231 = true := by decide +kernel
theorem q_X11_fits_28 : px_bk 11 5 cX11_fits 28 [(.aload_n 0, (0, 0, 0, 0, 0), 0, 0), (.getfield 61, (11, 7, 3, 92, 0), 0, 0), (.iload_n 1, (0, 0, 0, 0, 0), 0, 0), (.iload_n 3, (0, 0, 0, 0, 0), 0, 0)] = some 34 ∧ px_tv cX11_fits 34 241 = true := by decide +kernel
theorem q_X11_fits_37 : px_bk 11 5 cX11_fits 37 [] = some 37 ∧ px_tr cX11_fits 37 .ireturn = true := by decide +kernel
theorem q_X11_fits_12 : px_bk 11 5 cX11_fits 12 [(.iconst (-1), (0, 0, 0, 0, 0), -1, 0)] = some 13 ∧ px_tr cX11_fits 13 .ireturn = true := by decide +kernel
set_option maxRecDepth 100000 in
theorem b_fits {n : Nat} {I : px_I} {L : px_L} {R : px_R} (hg : px_G n R) (a f b t : Int32) (hT : cTold n I R) (hS : cSt I) : px_KS M_X11_fits [.ref 32, .int a, .int f, .int b, .int t] n I L R (fun r I2 L2 => bXI I I2 ∧ bXL L L2) := by
  refine px_of (plainFor_of_name np_RX11) (fun _ _ _ => trivial) rfl ?_
  refine px_cVS (ci := 11) rfl q_X11_fits_0 hg rfl trivial lk_11_228 nm_X11_canMeet (b_canMeet hg _ _ _ _ ‹_›) rfl rfl (px_lit hg rfl) rfl rfl rfl ⟨rfl, rfl⟩ ?_
  intro x6 I6 L6 h6
  obtain ⟨hr6, h6a, h6b⟩ := h6
  have hS6 := h6a.st hS
  have hs1 := hS6.2
  have hn1 := hS6.1.2
  refine px_ne rfl q_X11_fits_9 hg rfl trivial (fun c9 => ?_) (fun c9 => ?_)
  · refine px_cVW (ci := 3) rfl q_X11_fits_14 hg rfl trivial lk_11_231 nm_X3_look (c_look hg _ _ _ hs1 hn1) rfl rfl (px_lit hg rfl) rfl rfl rfl ⟨rfl, rfl⟩ ?_
    intro I25 L25 h25
    obtain ⟨h25c, h25d⟩ := h25
    refine px_cVP (ci := 3) rfl q_X11_fits_28 hg rfl trivial lk_11_241 nm_X3_judge (c_judge hg _ _) rfl rfl (px_lit hg rfl) rfl rfl rfl ⟨rfl, rfl⟩ ?_
    intro x34 h34
    refine px_riS rfl q_X11_fits_37 rfl rfl rfl hg rfl trivial ⟨⟨rfl, rfl⟩, ?_⟩
    first | exact ⟨h6a.trans h25c.b, h6b.trans h25d.b⟩ | exact ⟨h6a, h6b⟩ | exact ⟨bXI.rfl', bXL.rfl'⟩
  · refine px_riS rfl q_X11_fits_12 rfl rfl rfl hg rfl trivial ⟨⟨rfl, rfl⟩, ?_⟩
    first | exact ⟨h6a.trans h25c.b, h6b.trans h25d.b⟩ | exact ⟨h6a, h6b⟩ | exact ⟨bXI.rfl', bXL.rfl'⟩

theorem q_X11_ways_0 : px_bk 11 6 cX11_ways 0 [(.iload_n 1, (0, 0, 0, 0, 0), 0, 0)] = some 1 ∧ px_tS cX11_ways 1 218 = true := by decide +kernel
theorem q_X11_ways_4 : px_bk 11 6 cX11_ways 4 [] = some 4 ∧ px_t1 cX11_ways 4 .eq 24 = true := by decide +kernel
theorem q_X11_ways_24 : px_bk 11 6 cX11_ways 24 [(.iconst (-1), (0, 0, 0, 0, 0), -1, 0)] = some 25 ∧ px_tr cX11_ways 25 .ireturn = true := by decide +kernel
theorem q_X11_ways_7 : px_bk 11 6 cX11_ways 7 [(.iload_n 3, (0, 0, 0, 0, 0), 0, 0)] = some 8 ∧ px_tS cX11_ways 8 218 = true := by decide +kernel
theorem q_X11_ways_11 : px_bk 11 6 cX11_ways 11 [] = some 11 ∧ px_t1 cX11_ways 11 .eq 24 = true := by decide +kernel
theorem q_X11_ways_14 : px_bk 11 6 cX11_ways 14 [(.iload 5, (0, 0, 0, 0, 0), 0, 0), (.iconst 0, (0, 0, 0, 0, 0), 0, 0), (.iconst 2, (0, 0, 0, 0, 0), 2, 0)] = some 18 ∧ px_tS cX11_ways 18 85 = true := by decide +kernel
theorem q_X11_ways_21 : px_bk 11 6 cX11_ways 21 [] = some 21 ∧ px_t1 cX11_ways 21 .ne 26 = true := by decide +kernel
theorem q_X11_ways_26 : px_bk 11 6 cX11_ways 26 [(.aload_n 0, (0, 0, 0, 0, 0), 0, 0), (.getfield 10, (11, 0, 3, 33, 0), 0, 0), (.iload_n 2, (0, 0, 0, 0, 0), 0, 0)] = some 31 ∧ px_tv cX11_ways 31 103 = true := by decide +kernel
theorem q_X11_ways_34 : px_bk 11 6 cX11_ways 34 [] = some 34 ∧ px_t1 cX11_ways 34 .eq 49 = true := by decide +kernel
theorem q_X11_ways_49 : px_bk 11 6 cX11_ways 49 [(.iconst (-1), (0, 0, 0, 0, 0), -1, 0)] = some 50 ∧ px_tr cX11_ways 50 .ireturn = true := by decide +kernel
theorem q_X11_ways_37 : px_bk 11 6 cX11_ways 37 [(.aload_n 0, (0, 0, 0, 0, 0), 0, 0), (.getfield 10, (11, 0, 3, 33, 0), 0, 0), (.iload 4, (0, 0, 0, 0, 0), 0, 0)] = some 43 ∧ px_tv cX11_ways 43 103 = true := by decide +kernel
theorem q_X11_ways_46 : px_bk 11 6 cX11_ways 46 [] = some 46 ∧ px_t1 cX11_ways 46 .ne 51 = true := by decide +kernel
theorem q_X11_ways_51 : px_bk 11 6 cX11_ways 51 [(.aload_n 0, (0, 0, 0, 0, 0), 0, 0), (.getfield 61, (11, 7, 3, 92, 0), 0, 0), (.iload_n 2, (0, 0, 0, 0, 0), 0, 0), (.iload 4, (0, 0, 0, 0, 0), 0, 0), (.aload_n 0, (0, 0, 0, 0, 0), 0, 0), (.getfield 81, (11, 10, 0, 0, 0), 0, 0)] = some 62 ∧ px_tv cX11_ways 62 231 = true := by decide +kernel
theorem q_X11_ways_65 : px_bk 11 6 cX11_ways 65 [(.aload_n 0, (0, 0, 0, 0, 0), 0, 0), (.getfield 61, (11, 7, 3, 92, 0), 0, 0), (.iload_n 1, (0, 0, 0, 0, 0), 0, 0), (.iload_n 3, (0, 0, 0, 0, 0), 0, 0), (.iload 5, (0, 0, 0, 0, 0), 0, 0)] = some 73 ∧ px_tv cX11_ways 73 244 = true := by decide +kernel
theorem q_X11_ways_76 : px_bk 11 6 cX11_ways 76 [] = some 76 ∧ px_tr cX11_ways 76 .ireturn = true := by decide +kernel
set_option maxRecDepth 100000 in
theorem b_ways {n : Nat} {I : px_I} {L : px_L} {R : px_R} (hg : px_G n R) (a f b t x : Int32) (hT : cTold n I R) (hS : cSt I) : px_KS M_X11_ways [.ref 32, .int a, .int f, .int b, .int t, .int x] n I L R (fun r I2 L2 => bXI I I2 ∧ bXL L L2) := by
  refine px_of (plainFor_of_name np_RX11) (fun _ _ _ => trivial) rfl ?_
  have hs1 := hS.2
  have hn1 := hS.1.2
  refine px_cSP rfl q_X11_ways_0 hg rfl trivial lk_11_218 nm_X11_isHeading (c_isHeading hg _) rfl rfl rfl ⟨rfl, rfl⟩ ?_
  intro x1 h1
  refine px_eq rfl q_X11_ways_4 hg rfl trivial (fun c4 => ?_) (fun c4 => ?_)
  · replace h1 := px_bf h1 c4
    refine px_riS rfl q_X11_ways_24 rfl rfl rfl hg rfl trivial ⟨⟨rfl, rfl⟩, ?_⟩
    first | exact ⟨h62c.b.trans h73.1.b, h62d.b.trans h73.2.b⟩ | exact ⟨bXI.rfl', bXL.rfl'⟩
  · replace h1 := px_bt h1 c4
    refine px_cSP rfl q_X11_ways_7 hg rfl trivial lk_11_218 nm_X11_isHeading (c_isHeading hg _) rfl rfl rfl ⟨rfl, rfl⟩ ?_
    intro x8 h8
    refine px_eq rfl q_X11_ways_11 hg rfl trivial (fun c11 => ?_) (fun c11 => ?_)
    · replace h8 := px_bf h8 c11
      refine px_riS rfl q_X11_ways_24 rfl rfl rfl hg rfl trivial ⟨⟨rfl, rfl⟩, ?_⟩
      first | exact ⟨h62c.b.trans h73.1.b, h62d.b.trans h73.2.b⟩ | exact ⟨bXI.rfl', bXL.rfl'⟩
    · replace h8 := px_bt h8 c11
      refine px_cSP rfl q_X11_ways_14 hg rfl trivial lk_11_85 nm_X11_within (c_within hg _ _ _) rfl rfl rfl ⟨rfl, rfl⟩ ?_
      intro x18 h18
      refine px_ne rfl q_X11_ways_21 hg rfl trivial (fun c21 => ?_) (fun c21 => ?_)
      · replace h18 := px_bt h18 c21
        refine px_cVP (ci := 7) rfl q_X11_ways_26 hg rfl trivial lk_11_103 nm_X7_has (c_has hg _) rfl rfl (px_lit hg rfl) rfl rfl rfl ⟨rfl, rfl⟩ ?_
        intro x31 h31
        refine px_eq rfl q_X11_ways_34 hg rfl trivial (fun c34 => ?_) (fun c34 => ?_)
        · replace h31 := px_bf h31 c34
          refine px_riS rfl q_X11_ways_49 rfl rfl rfl hg rfl trivial ⟨⟨rfl, rfl⟩, ?_⟩
          first | exact ⟨h62c.b.trans h73.1.b, h62d.b.trans h73.2.b⟩ | exact ⟨bXI.rfl', bXL.rfl'⟩
        · replace h31 := px_bt h31 c34
          refine px_cVP (ci := 7) rfl q_X11_ways_37 hg rfl trivial lk_11_103 nm_X7_has (c_has hg _) rfl rfl (px_lit hg rfl) rfl rfl rfl ⟨rfl, rfl⟩ ?_
          intro x43 h43
          refine px_ne rfl q_X11_ways_46 hg rfl trivial (fun c46 => ?_) (fun c46 => ?_)
          · replace h43 := px_bt h43 c46
            refine px_cVW (ci := 3) rfl q_X11_ways_51 hg rfl trivial lk_11_231 nm_X3_look (c_look hg _ _ _ hs1 hn1) rfl rfl (px_lit hg rfl) rfl rfl rfl ⟨rfl, rfl⟩ ?_
            intro I62 L62 h62
            obtain ⟨h62c, h62d⟩ := h62
            refine px_cVS (ci := 3) rfl q_X11_ways_65 hg rfl trivial lk_11_244 nm_X3_pairs (c_pairs hg _ _ _ (h62c.b.told hT)) rfl rfl (px_lit hg rfl) rfl rfl rfl ⟨rfl, rfl⟩ ?_
            intro x73 I73 L73 h73
            refine px_riS rfl q_X11_ways_76 rfl rfl rfl hg rfl trivial ⟨⟨rfl, rfl⟩, ?_⟩
            first | exact ⟨h62c.b.trans h73.1.b, h62d.b.trans h73.2.b⟩ | exact ⟨bXI.rfl', bXL.rfl'⟩
          · replace h43 := px_bf h43 c46
            refine px_riS rfl q_X11_ways_49 rfl rfl rfl hg rfl trivial ⟨⟨rfl, rfl⟩, ?_⟩
            first | exact ⟨h62c.b.trans h73.1.b, h62d.b.trans h73.2.b⟩ | exact ⟨bXI.rfl', bXL.rfl'⟩
      · replace h18 := px_bf h18 c21
        refine px_riS rfl q_X11_ways_24 rfl rfl rfl hg rfl trivial ⟨⟨rfl, rfl⟩, ?_⟩
        first | exact ⟨h62c.b.trans h73.1.b, h62d.b.trans h73.2.b⟩ | exact ⟨bXI.rfl', bXL.rfl'⟩

theorem q_X11_seek_0 : px_bk 11 7 cX11_seek 0 [(.iload_n 1, (0, 0, 0, 0, 0), 0, 0), (.iconst 0, (0, 0, 0, 0, 0), 0, 0), (.bipush 9, (0, 0, 0, 0, 0), 9, 0)] = some 4 ∧ px_tS cX11_seek 4 85 = true := by decide +kernel
theorem q_X11_seek_7 : px_bk 11 7 cX11_seek 7 [] = some 7 ∧ px_t1 cX11_seek 7 .eq 30 = true := by decide +kernel
theorem q_X11_seek_30 : px_bk 11 7 cX11_seek 30 [(.iconst 0, (0, 0, 0, 0, 0), 0, 0)] = some 31 ∧ px_tr cX11_seek 31 .ireturn = true := by decide +kernel
theorem q_X11_seek_10 : px_bk 11 7 cX11_seek 10 [(.iload_n 2, (0, 0, 0, 0, 0), 0, 0), (.iconst 0, (0, 0, 0, 0, 0), 0, 0), (.bipush 9, (0, 0, 0, 0, 0), 9, 0)] = some 14 ∧ px_tS cX11_seek 14 85 = true := by decide +kernel
theorem q_X11_seek_17 : px_bk 11 7 cX11_seek 17 [] = some 17 ∧ px_t1 cX11_seek 17 .eq 30 = true := by decide +kernel
theorem q_X11_seek_20 : px_bk 11 7 cX11_seek 20 [(.iload_n 3, (0, 0, 0, 0, 0), 0, 0), (.iconst 0, (0, 0, 0, 0, 0), 0, 0), (.bipush 9, (0, 0, 0, 0, 0), 9, 0)] = some 24 ∧ px_tS cX11_seek 24 85 = true := by decide +kernel
theorem q_X11_seek_27 : px_bk 11 7 cX11_seek 27 [] = some 27 ∧ px_t1 cX11_seek 27 .ne 32 = true := by decide +kernel
theorem q_X11_seek_32 : px_bk 11 7 cX11_seek 32 [(.iload_n 1, (0, 0, 0, 0, 0), 0, 0), (.iload_n 2, (0, 0, 0, 0, 0), 0, 0), (.iadd, (0, 0, 0, 0, 0), 0, 0), (.iload_n 3, (0, 0, 0, 0, 0), 0, 0), (.iadd, (0, 0, 0, 0, 0), 0, 0)] = some 37 ∧ px_t1 cX11_seek 37 .eq 51 = true := by decide +kernel
theorem q_X11_seek_51 : px_bk 11 7 cX11_seek 51 [(.iconst 0, (0, 0, 0, 0, 0), 0, 0)] = some 52 ∧ px_tr cX11_seek 52 .ireturn = true := by decide +kernel
theorem q_X11_seek_40 : px_bk 11 7 cX11_seek 40 [(.iload 4, (0, 0, 0, 0, 0), 0, 0), (.iconst 0, (0, 0, 0, 0, 0), 0, 0), (.bipush 40, (0, 0, 0, 0, 0), 40, 0)] = some 45 ∧ px_tS cX11_seek 45 85 = true := by decide +kernel
theorem q_X11_seek_48 : px_bk 11 7 cX11_seek 48 [] = some 48 ∧ px_t1 cX11_seek 48 .ne 53 = true := by decide +kernel
theorem q_X11_seek_53 : px_bk 11 7 cX11_seek 53 [(.iload 5, (0, 0, 0, 0, 0), 0, 0), (.iconst 0, (0, 0, 0, 0, 0), 0, 0), (.iconst 3, (0, 0, 0, 0, 0), 3, 0)] = some 57 ∧ px_tS cX11_seek 57 85 = true := by decide +kernel
theorem q_X11_seek_60 : px_bk 11 7 cX11_seek 60 [] = some 60 ∧ px_t1 cX11_seek 60 .eq 74 = true := by decide +kernel
theorem q_X11_seek_74 : px_bk 11 7 cX11_seek 74 [(.iconst 0, (0, 0, 0, 0, 0), 0, 0)] = some 75 ∧ px_tr cX11_seek 75 .ireturn = true := by decide +kernel
theorem q_X11_seek_63 : px_bk 11 7 cX11_seek 63 [(.iload 6, (0, 0, 0, 0, 0), 0, 0), (.iconst 0, (0, 0, 0, 0, 0), 0, 0), (.bipush 20, (0, 0, 0, 0, 0), 20, 0)] = some 68 ∧ px_tS cX11_seek 68 85 = true := by decide +kernel
theorem q_X11_seek_71 : px_bk 11 7 cX11_seek 71 [] = some 71 ∧ px_t1 cX11_seek 71 .ne 76 = true := by decide +kernel
theorem q_X11_seek_76 : px_bk 11 7 cX11_seek 76 [(.aload_n 0, (0, 0, 0, 0, 0), 0, 0), (.getfield 68, (11, 8, 3, 97, 0), 0, 0), (.iload_n 1, (0, 0, 0, 0, 0), 0, 0), (.iload_n 2, (0, 0, 0, 0, 0), 0, 0), (.iload_n 3, (0, 0, 0, 0, 0), 0, 0)] = some 83 ∧ px_tv cX11_seek 83 247 = true := by decide +kernel
theorem q_X11_seek_86 : px_bk 11 7 cX11_seek 86 [(.aload_n 0, (0, 0, 0, 0, 0), 0, 0), (.getfield 68, (11, 8, 3, 97, 0), 0, 0), (.iload 4, (0, 0, 0, 0, 0), 0, 0), (.iload 5, (0, 0, 0, 0, 0), 0, 0), (.iload 6, (0, 0, 0, 0, 0), 0, 0)] = some 96 ∧ px_tv cX11_seek 96 250 = true := by decide +kernel
theorem q_X11_seek_99 : px_bk 11 7 cX11_seek 99 [(.iconst 1, (0, 0, 0, 0, 0), 1, 0)] = some 100 ∧ px_tr cX11_seek 100 .ireturn = true := by decide +kernel
set_option maxRecDepth 100000 in
theorem b_seek {n : Nat} {I : px_I} {L : px_L} {R : px_R} (hg : px_G n R) (a b c d e f : Int32) : px_KS M_X11_seek [.ref 32, .int a, .int b, .int c, .int d, .int e, .int f] n I L R (fun r I2 L2 => L2 = L ∧ ((((0 ≤ a ∧ a ≤ 9) ∧ (0 ≤ b ∧ b ≤ 9) ∧ (0 ≤ c ∧ c ≤ 9) ∧ a + b + c ≠ 0 ∧ (0 ≤ d ∧ d ≤ 40) ∧ (0 ≤ e ∧ e ≤ 3) ∧ (0 ≤ f ∧ f ≤ 20)) ∧ r = 1 ∧ I2 = px_u (px_u (px_u (px_u (px_u (px_u I 98 0 a) 98 1 b) 98 2 c) 97 3 d) 97 4 e) 97 5 f) ∨ (¬ ((0 ≤ a ∧ a ≤ 9) ∧ (0 ≤ b ∧ b ≤ 9) ∧ (0 ≤ c ∧ c ≤ 9) ∧ a + b + c ≠ 0 ∧ (0 ≤ d ∧ d ≤ 40) ∧ (0 ≤ e ∧ e ≤ 3) ∧ (0 ≤ f ∧ f ≤ 20)) ∧ r = 0 ∧ I2 = I))) := by
  refine px_of (plainFor_of_name np_RX11) (fun _ _ _ => trivial) rfl ?_
  refine px_cSP rfl q_X11_seek_0 hg rfl trivial lk_11_85 nm_X11_within (c_within hg _ _ _) rfl rfl rfl ⟨rfl, rfl⟩ ?_
  intro x4 h4
  refine px_eq rfl q_X11_seek_7 hg rfl trivial (fun c7 => ?_) (fun c7 => ?_)
  · replace h4 := px_bf h4 c7
    refine px_rzS rfl q_X11_seek_30 rfl rfl rfl hg rfl trivial ⟨⟨rfl, rfl⟩, (by first | exact Or.inl rfl | exact Or.inr rfl | grind), ?_⟩
    first | exact ⟨rfl, Or.inl ⟨⟨by assumption, by assumption, by assumption, by assumption, by assumption, by assumption, by assumption⟩, rfl, rfl⟩⟩ | exact ⟨rfl, Or.inr ⟨fun z => by first | exact absurd z.1 (by assumption) | exact absurd z.2.1 (by assumption) | exact absurd z.2.2.1 (by assumption) | exact absurd (by assumption) z.2.2.2.1 | exact absurd z.2.2.2.2.1 (by assumption) | exact absurd z.2.2.2.2.2.1 (by assumption) | exact absurd z.2.2.2.2.2.2 (by assumption), rfl, rfl⟩⟩
  · replace h4 := px_bt h4 c7
    refine px_cSP rfl q_X11_seek_10 hg rfl trivial lk_11_85 nm_X11_within (c_within hg _ _ _) rfl rfl rfl ⟨rfl, rfl⟩ ?_
    intro x14 h14
    refine px_eq rfl q_X11_seek_17 hg rfl trivial (fun c17 => ?_) (fun c17 => ?_)
    · replace h14 := px_bf h14 c17
      refine px_rzS rfl q_X11_seek_30 rfl rfl rfl hg rfl trivial ⟨⟨rfl, rfl⟩, (by first | exact Or.inl rfl | exact Or.inr rfl | grind), ?_⟩
      first | exact ⟨rfl, Or.inl ⟨⟨by assumption, by assumption, by assumption, by assumption, by assumption, by assumption, by assumption⟩, rfl, rfl⟩⟩ | exact ⟨rfl, Or.inr ⟨fun z => by first | exact absurd z.1 (by assumption) | exact absurd z.2.1 (by assumption) | exact absurd z.2.2.1 (by assumption) | exact absurd (by assumption) z.2.2.2.1 | exact absurd z.2.2.2.2.1 (by assumption) | exact absurd z.2.2.2.2.2.1 (by assumption) | exact absurd z.2.2.2.2.2.2 (by assumption), rfl, rfl⟩⟩
    · replace h14 := px_bt h14 c17
      refine px_cSP rfl q_X11_seek_20 hg rfl trivial lk_11_85 nm_X11_within (c_within hg _ _ _) rfl rfl rfl ⟨rfl, rfl⟩ ?_
      intro x24 h24
      refine px_ne rfl q_X11_seek_27 hg rfl trivial (fun c27 => ?_) (fun c27 => ?_)
      · replace h24 := px_bt h24 c27
        refine px_eq rfl q_X11_seek_32 hg rfl trivial (fun c37 => ?_) (fun c37 => ?_)
        · refine px_rzS rfl q_X11_seek_51 rfl rfl rfl hg rfl trivial ⟨⟨rfl, rfl⟩, (by first | exact Or.inl rfl | exact Or.inr rfl | grind), ?_⟩
          first | exact ⟨rfl, Or.inl ⟨⟨by assumption, by assumption, by assumption, by assumption, by assumption, by assumption, by assumption⟩, rfl, rfl⟩⟩ | exact ⟨rfl, Or.inr ⟨fun z => by first | exact absurd z.1 (by assumption) | exact absurd z.2.1 (by assumption) | exact absurd z.2.2.1 (by assumption) | exact absurd (by assumption) z.2.2.2.1 | exact absurd z.2.2.2.2.1 (by assumption) | exact absurd z.2.2.2.2.2.1 (by assumption) | exact absurd z.2.2.2.2.2.2 (by assumption), rfl, rfl⟩⟩
        · refine px_cSP rfl q_X11_seek_40 hg rfl trivial lk_11_85 nm_X11_within (c_within hg _ _ _) rfl rfl rfl ⟨rfl, rfl⟩ ?_
          intro x45 h45
          refine px_ne rfl q_X11_seek_48 hg rfl trivial (fun c48 => ?_) (fun c48 => ?_)
          · replace h45 := px_bt h45 c48
            refine px_cSP rfl q_X11_seek_53 hg rfl trivial lk_11_85 nm_X11_within (c_within hg _ _ _) rfl rfl rfl ⟨rfl, rfl⟩ ?_
            intro x57 h57
            refine px_eq rfl q_X11_seek_60 hg rfl trivial (fun c60 => ?_) (fun c60 => ?_)
            · replace h57 := px_bf h57 c60
              refine px_rzS rfl q_X11_seek_74 rfl rfl rfl hg rfl trivial ⟨⟨rfl, rfl⟩, (by first | exact Or.inl rfl | exact Or.inr rfl | grind), ?_⟩
              first | exact ⟨rfl, Or.inl ⟨⟨by assumption, by assumption, by assumption, by assumption, by assumption, by assumption, by assumption⟩, rfl, rfl⟩⟩ | exact ⟨rfl, Or.inr ⟨fun z => by first | exact absurd z.1 (by assumption) | exact absurd z.2.1 (by assumption) | exact absurd z.2.2.1 (by assumption) | exact absurd (by assumption) z.2.2.2.1 | exact absurd z.2.2.2.2.1 (by assumption) | exact absurd z.2.2.2.2.2.1 (by assumption) | exact absurd z.2.2.2.2.2.2 (by assumption), rfl, rfl⟩⟩
            · replace h57 := px_bt h57 c60
              refine px_cSP rfl q_X11_seek_63 hg rfl trivial lk_11_85 nm_X11_within (c_within hg _ _ _) rfl rfl rfl ⟨rfl, rfl⟩ ?_
              intro x68 h68
              refine px_ne rfl q_X11_seek_71 hg rfl trivial (fun c71 => ?_) (fun c71 => ?_)
              · replace h68 := px_bt h68 c71
                refine px_cVW (ci := 6) rfl q_X11_seek_76 hg rfl trivial lk_11_247 nm_X6_weigh (c_weigh hg _ _ _) rfl rfl (px_lit hg rfl) rfl rfl rfl ⟨rfl, rfl⟩ ?_
                intro I83 L83 h83
                obtain ⟨rfl, rfl⟩ := h83
                refine px_cVW (ci := 6) rfl q_X11_seek_86 hg rfl trivial lk_11_250 nm_X6_hear (c_hear hg _ _ _) rfl rfl (px_lit hg rfl) rfl rfl rfl ⟨rfl, rfl⟩ ?_
                intro I96 L96 h96
                obtain ⟨rfl, rfl⟩ := h96
                refine px_rzS rfl q_X11_seek_99 rfl rfl rfl hg rfl trivial ⟨⟨rfl, rfl⟩, (by first | exact Or.inl rfl | exact Or.inr rfl | grind), ?_⟩
                first | exact ⟨rfl, Or.inl ⟨⟨by assumption, by assumption, by assumption, by assumption, by assumption, by assumption, by assumption⟩, rfl, rfl⟩⟩ | exact ⟨rfl, Or.inr ⟨fun z => by first | exact absurd z.1 (by assumption) | exact absurd z.2.1 (by assumption) | exact absurd z.2.2.1 (by assumption) | exact absurd (by assumption) z.2.2.2.1 | exact absurd z.2.2.2.2.1 (by assumption) | exact absurd z.2.2.2.2.2.1 (by assumption) | exact absurd z.2.2.2.2.2.2 (by assumption), rfl, rfl⟩⟩
              · replace h68 := px_bf h68 c71
                refine px_rzS rfl q_X11_seek_74 rfl rfl rfl hg rfl trivial ⟨⟨rfl, rfl⟩, (by first | exact Or.inl rfl | exact Or.inr rfl | grind), ?_⟩
                first | exact ⟨rfl, Or.inl ⟨⟨by assumption, by assumption, by assumption, by assumption, by assumption, by assumption, by assumption⟩, rfl, rfl⟩⟩ | exact ⟨rfl, Or.inr ⟨fun z => by first | exact absurd z.1 (by assumption) | exact absurd z.2.1 (by assumption) | exact absurd z.2.2.1 (by assumption) | exact absurd (by assumption) z.2.2.2.1 | exact absurd z.2.2.2.2.1 (by assumption) | exact absurd z.2.2.2.2.2.1 (by assumption) | exact absurd z.2.2.2.2.2.2 (by assumption), rfl, rfl⟩⟩
          · replace h45 := px_bf h45 c48
            refine px_rzS rfl q_X11_seek_51 rfl rfl rfl hg rfl trivial ⟨⟨rfl, rfl⟩, (by first | exact Or.inl rfl | exact Or.inr rfl | grind), ?_⟩
            first | exact ⟨rfl, Or.inl ⟨⟨by assumption, by assumption, by assumption, by assumption, by assumption, by assumption, by assumption⟩, rfl, rfl⟩⟩ | exact ⟨rfl, Or.inr ⟨fun z => by first | exact absurd z.1 (by assumption) | exact absurd z.2.1 (by assumption) | exact absurd z.2.2.1 (by assumption) | exact absurd (by assumption) z.2.2.2.1 | exact absurd z.2.2.2.2.1 (by assumption) | exact absurd z.2.2.2.2.2.1 (by assumption) | exact absurd z.2.2.2.2.2.2 (by assumption), rfl, rfl⟩⟩
      · replace h24 := px_bf h24 c27
        refine px_rzS rfl q_X11_seek_30 rfl rfl rfl hg rfl trivial ⟨⟨rfl, rfl⟩, (by first | exact Or.inl rfl | exact Or.inr rfl | grind), ?_⟩
        first | exact ⟨rfl, Or.inl ⟨⟨by assumption, by assumption, by assumption, by assumption, by assumption, by assumption, by assumption⟩, rfl, rfl⟩⟩ | exact ⟨rfl, Or.inr ⟨fun z => by first | exact absurd z.1 (by assumption) | exact absurd z.2.1 (by assumption) | exact absurd z.2.2.1 (by assumption) | exact absurd (by assumption) z.2.2.2.1 | exact absurd z.2.2.2.2.1 (by assumption) | exact absurd z.2.2.2.2.2.1 (by assumption) | exact absurd z.2.2.2.2.2.2 (by assumption), rfl, rfl⟩⟩

theorem q_X11_chance_0 : px_bk 11 4 cX11_chance 0 [(.iload_n 1, (0, 0, 0, 0, 0), 0, 0), (.iconst 1, (0, 0, 0, 0, 0), 1, 0), (.bipush 12, (0, 0, 0, 0, 0), 12, 0)] = some 4 ∧ px_tS cX11_chance 4 85 = true := by decide +kernel
theorem q_X11_chance_7 : px_bk 11 4 cX11_chance 7 [] = some 7 ∧ px_t1 cX11_chance 7 .eq 21 = true := by decide +kernel
theorem q_X11_chance_21 : px_bk 11 4 cX11_chance 21 [(.ldc2_w 253, (0, 0, 0, 0, 0), 0, -1)] = some 24 ∧ px_tr cX11_chance 24 .lreturn = true := by decide +kernel
theorem q_X11_chance_10 : px_bk 11 4 cX11_chance 10 [(.iload_n 2, (0, 0, 0, 0, 0), 0, 0), (.bipush (-20), (0, 0, 0, 0, 0), -20, 0), (.bipush 20, (0, 0, 0, 0, 0), 20, 0)] = some 15 ∧ px_tS cX11_chance 15 85 = true := by decide +kernel
theorem q_X11_chance_18 : px_bk 11 4 cX11_chance 18 [] = some 18 ∧ px_t1 cX11_chance 18 .ne 25 = true := by decide +kernel
theorem q_X11_chance_25 : px_bk 11 4 cX11_chance 25 [(.aload_n 0, (0, 0, 0, 0, 0), 0, 0), (.getfield 68, (11, 8, 3, 97, 0), 0, 0), (.iload_n 1, (0, 0, 0, 0, 0), 0, 0), (.iload_n 2, (0, 0, 0, 0, 0), 0, 0), (.iload_n 3, (0, 0, 0, 0, 0), 0, 0)] = some 32 ∧ px_tv cX11_chance 32 255 = true := by decide +kernel
theorem q_X11_chance_35 : px_bk 11 4 cX11_chance 35 [] = some 35 ∧ px_tr cX11_chance 35 .lreturn = true := by decide +kernel
set_option maxRecDepth 100000 in
theorem b_chanceA {n : Nat} {I : px_I} {L : px_L} {R : px_R} (hg : px_G n (cRA R)) (hg2 : px_G n (cRB R)) (a o h : Int32) : px_K M_X11_chance [.ref 32, .int a, .int o, .int h] n I L (cRA R) (fun r n' I' L' R' => n' = n ∧ I' = I ∧ cSL L L' ∧ (R' = cRA R ∨ R' = cRB R) ∧ ∃ x, r = some (.long x)) := by
  refine px_of (plainFor_of_name np_RX11) (fun _ _ _ => trivial) rfl ?_
  refine px_cSP rfl q_X11_chance_0 hg rfl trivial lk_11_85 nm_X11_within (c_within hg _ _ _) rfl rfl rfl ⟨rfl, rfl⟩ ?_
  intro x4 h4
  refine px_eq rfl q_X11_chance_7 hg rfl trivial (fun c7 => ?_) (fun c7 => ?_)
  · replace h4 := px_bf h4 c7
    refine px_rl rfl q_X11_chance_21 rfl rfl rfl hg rfl trivial ?_
    first | exact ⟨rfl, rfl, cSL.rfl', Or.inl rfl, _, rfl⟩ | exact ⟨rfl, rfl, by assumption, by assumption, _, rfl⟩
  · replace h4 := px_bt h4 c7
    refine px_cSP rfl q_X11_chance_10 hg rfl trivial lk_11_85 nm_X11_within (c_within hg _ _ _) rfl rfl rfl ⟨rfl, rfl⟩ ?_
    intro x15 h15
    refine px_ne rfl q_X11_chance_18 hg rfl trivial (fun c18 => ?_) (fun c18 => ?_)
    · replace h15 := px_bt h15 c18
      refine px_cVG (ci := 6) rfl q_X11_chance_25 hg rfl trivial lk_11_255 nm_X6_share (c_shareA hg hg2 _ _ _ (by grind)) rfl rfl (px_lit hg rfl) rfl rfl rfl ?_
      intro r32 n32 I32 L32 R32 h32
      obtain ⟨rfl, rfl, h32a, h32b, x32, rfl⟩ := h32
      have hg : px_G n32 R32 := by rcases h32b with z | z <;> (rw [z]; assumption)
      refine px_rl rfl q_X11_chance_35 rfl rfl rfl hg rfl trivial ?_
      first | exact ⟨rfl, rfl, cSL.rfl', Or.inl rfl, _, rfl⟩ | exact ⟨rfl, rfl, by assumption, by assumption, _, rfl⟩
    · replace h15 := px_bf h15 c18
      refine px_rl rfl q_X11_chance_21 rfl rfl rfl hg rfl trivial ?_
      first | exact ⟨rfl, rfl, cSL.rfl', Or.inl rfl, _, rfl⟩ | exact ⟨rfl, rfl, by assumption, by assumption, _, rfl⟩

theorem q_X11_detour_0 : px_bk 11 4 cX11_detour 0 [(.iload_n 1, (0, 0, 0, 0, 0), 0, 0), (.iconst 1, (0, 0, 0, 0, 0), 1, 0), (.bipush 40, (0, 0, 0, 0, 0), 40, 0)] = some 4 ∧ px_tS cX11_detour 4 85 = true := by decide +kernel
theorem q_X11_detour_7 : px_bk 11 4 cX11_detour 7 [] = some 7 ∧ px_t1 cX11_detour 7 .eq 21 = true := by decide +kernel
theorem q_X11_detour_21 : px_bk 11 4 cX11_detour 21 [(.iconst (-1), (0, 0, 0, 0, 0), -1, 0)] = some 22 ∧ px_tr cX11_detour 22 .ireturn = true := by decide +kernel
theorem q_X11_detour_10 : px_bk 11 4 cX11_detour 10 [(.iload_n 2, (0, 0, 0, 0, 0), 0, 0), (.bipush (-20), (0, 0, 0, 0, 0), -20, 0), (.bipush 20, (0, 0, 0, 0, 0), 20, 0)] = some 15 ∧ px_tS cX11_detour 15 85 = true := by decide +kernel
theorem q_X11_detour_18 : px_bk 11 4 cX11_detour 18 [] = some 18 ∧ px_t1 cX11_detour 18 .ne 23 = true := by decide +kernel
theorem q_X11_detour_23 : px_bk 11 4 cX11_detour 23 [(.aload_n 0, (0, 0, 0, 0, 0), 0, 0), (.getfield 68, (11, 8, 3, 97, 0), 0, 0), (.iload_n 1, (0, 0, 0, 0, 0), 0, 0), (.iload_n 2, (0, 0, 0, 0, 0), 0, 0), (.iload_n 3, (0, 0, 0, 0, 0), 0, 0)] = some 30 ∧ px_tv cX11_detour 30 259 = true := by decide +kernel
theorem q_X11_detour_33 : px_bk 11 4 cX11_detour 33 [] = some 33 ∧ px_tr cX11_detour 33 .ireturn = true := by decide +kernel
set_option maxRecDepth 100000 in
theorem b_detourA {n : Nat} {I : px_I} {L : px_L} {R : px_R} (hg : px_G n (cRA R)) (hg2 : px_G n (cRB R)) (a o h : Int32) : px_K M_X11_detour [.ref 32, .int a, .int o, .int h] n I L (cRA R) (fun r n' I' L' R' => n' = n ∧ I' = I ∧ cSL L L' ∧ (R' = cRA R ∨ R' = cRB R) ∧ ∃ x, r = some (.int x)) := by
  refine px_of (plainFor_of_name np_RX11) (fun _ _ _ => trivial) rfl ?_
  refine px_cSP rfl q_X11_detour_0 hg rfl trivial lk_11_85 nm_X11_within (c_within hg _ _ _) rfl rfl rfl ⟨rfl, rfl⟩ ?_
  intro x4 h4
  refine px_eq rfl q_X11_detour_7 hg rfl trivial (fun c7 => ?_) (fun c7 => ?_)
  · replace h4 := px_bf h4 c7
    refine px_ri rfl q_X11_detour_21 rfl rfl rfl hg rfl trivial ?_
    first | exact ⟨rfl, rfl, cSL.rfl', Or.inl rfl, _, rfl⟩ | exact ⟨rfl, rfl, by assumption, by assumption, _, rfl⟩
  · replace h4 := px_bt h4 c7
    refine px_cSP rfl q_X11_detour_10 hg rfl trivial lk_11_85 nm_X11_within (c_within hg _ _ _) rfl rfl rfl ⟨rfl, rfl⟩ ?_
    intro x15 h15
    refine px_ne rfl q_X11_detour_18 hg rfl trivial (fun c18 => ?_) (fun c18 => ?_)
    · replace h15 := px_bt h15 c18
      refine px_cVG (ci := 6) rfl q_X11_detour_23 hg rfl trivial lk_11_259 nm_X6_roundabout (c_roundA hg hg2 _ _ _ (by grind)) rfl rfl (px_lit hg rfl) rfl rfl rfl ?_
      intro r30 n30 I30 L30 R30 h30
      obtain ⟨rfl, rfl, h30a, h30b, x30, rfl⟩ := h30
      have hg : px_G n30 R30 := by rcases h30b with z | z <;> (rw [z]; assumption)
      refine px_ri rfl q_X11_detour_33 rfl rfl rfl hg rfl trivial ?_
      first | exact ⟨rfl, rfl, cSL.rfl', Or.inl rfl, _, rfl⟩ | exact ⟨rfl, rfl, by assumption, by assumption, _, rfl⟩
    · replace h15 := px_bf h15 c18
      refine px_ri rfl q_X11_detour_21 rfl rfl rfl hg rfl trivial ?_
      first | exact ⟨rfl, rfl, cSL.rfl', Or.inl rfl, _, rfl⟩ | exact ⟨rfl, rfl, by assumption, by assumption, _, rfl⟩

set_option maxRecDepth 100000 in
theorem b_chanceB {n : Nat} {I : px_I} {L : px_L} {R : px_R} (hg : px_G n (cRB R)) (hg2 : px_G n (cRA R)) (a o h : Int32) : px_K M_X11_chance [.ref 32, .int a, .int o, .int h] n I L (cRB R) (fun r n' I' L' R' => n' = n ∧ I' = I ∧ cSL L L' ∧ (R' = cRA R ∨ R' = cRB R) ∧ ∃ x, r = some (.long x)) := by
  refine px_of (plainFor_of_name np_RX11) (fun _ _ _ => trivial) rfl ?_
  refine px_cSP rfl q_X11_chance_0 hg rfl trivial lk_11_85 nm_X11_within (c_within hg _ _ _) rfl rfl rfl ⟨rfl, rfl⟩ ?_
  intro x4 h4
  refine px_eq rfl q_X11_chance_7 hg rfl trivial (fun c7 => ?_) (fun c7 => ?_)
  · replace h4 := px_bf h4 c7
    refine px_rl rfl q_X11_chance_21 rfl rfl rfl hg rfl trivial ?_
    first | exact ⟨rfl, rfl, cSL.rfl', Or.inr rfl, _, rfl⟩ | exact ⟨rfl, rfl, by assumption, by assumption, _, rfl⟩
  · replace h4 := px_bt h4 c7
    refine px_cSP rfl q_X11_chance_10 hg rfl trivial lk_11_85 nm_X11_within (c_within hg _ _ _) rfl rfl rfl ⟨rfl, rfl⟩ ?_
    intro x15 h15
    refine px_ne rfl q_X11_chance_18 hg rfl trivial (fun c18 => ?_) (fun c18 => ?_)
    · replace h15 := px_bt h15 c18
      refine px_cVG (ci := 6) rfl q_X11_chance_25 hg rfl trivial lk_11_255 nm_X6_share (c_shareB hg hg2 _ _ _ (by grind)) rfl rfl (px_lit hg rfl) rfl rfl rfl ?_
      intro r32 n32 I32 L32 R32 h32
      obtain ⟨rfl, rfl, h32a, h32b, x32, rfl⟩ := h32
      have hg : px_G n32 R32 := by rcases h32b with z | z <;> (rw [z]; assumption)
      refine px_rl rfl q_X11_chance_35 rfl rfl rfl hg rfl trivial ?_
      first | exact ⟨rfl, rfl, cSL.rfl', Or.inr rfl, _, rfl⟩ | exact ⟨rfl, rfl, by assumption, by assumption, _, rfl⟩
    · replace h15 := px_bf h15 c18
      refine px_rl rfl q_X11_chance_21 rfl rfl rfl hg rfl trivial ?_
      first | exact ⟨rfl, rfl, cSL.rfl', Or.inr rfl, _, rfl⟩ | exact ⟨rfl, rfl, by assumption, by assumption, _, rfl⟩

set_option maxRecDepth 100000 in
theorem b_detourB {n : Nat} {I : px_I} {L : px_L} {R : px_R} (hg : px_G n (cRB R)) (hg2 : px_G n (cRA R)) (a o h : Int32) : px_K M_X11_detour [.ref 32, .int a, .int o, .int h] n I L (cRB R) (fun r n' I' L' R' => n' = n ∧ I' = I ∧ cSL L L' ∧ (R' = cRA R ∨ R' = cRB R) ∧ ∃ x, r = some (.int x)) := by
  refine px_of (plainFor_of_name np_RX11) (fun _ _ _ => trivial) rfl ?_
  refine px_cSP rfl q_X11_detour_0 hg rfl trivial lk_11_85 nm_X11_within (c_within hg _ _ _) rfl rfl rfl ⟨rfl, rfl⟩ ?_
  intro x4 h4
  refine px_eq rfl q_X11_detour_7 hg rfl trivial (fun c7 => ?_) (fun c7 => ?_)
  · replace h4 := px_bf h4 c7
    refine px_ri rfl q_X11_detour_21 rfl rfl rfl hg rfl trivial ?_
    first | exact ⟨rfl, rfl, cSL.rfl', Or.inr rfl, _, rfl⟩ | exact ⟨rfl, rfl, by assumption, by assumption, _, rfl⟩
  · replace h4 := px_bt h4 c7
    refine px_cSP rfl q_X11_detour_10 hg rfl trivial lk_11_85 nm_X11_within (c_within hg _ _ _) rfl rfl rfl ⟨rfl, rfl⟩ ?_
    intro x15 h15
    refine px_ne rfl q_X11_detour_18 hg rfl trivial (fun c18 => ?_) (fun c18 => ?_)
    · replace h15 := px_bt h15 c18
      refine px_cVG (ci := 6) rfl q_X11_detour_23 hg rfl trivial lk_11_259 nm_X6_roundabout (c_roundB hg hg2 _ _ _ (by grind)) rfl rfl (px_lit hg rfl) rfl rfl rfl ?_
      intro r30 n30 I30 L30 R30 h30
      obtain ⟨rfl, rfl, h30a, h30b, x30, rfl⟩ := h30
      have hg : px_G n30 R30 := by rcases h30b with z | z <;> (rw [z]; assumption)
      refine px_ri rfl q_X11_detour_33 rfl rfl rfl hg rfl trivial ?_
      first | exact ⟨rfl, rfl, cSL.rfl', Or.inr rfl, _, rfl⟩ | exact ⟨rfl, rfl, by assumption, by assumption, _, rfl⟩
    · replace h15 := px_bf h15 c18
      refine px_ri rfl q_X11_detour_21 rfl rfl rfl hg rfl trivial ?_
      first | exact ⟨rfl, rfl, cSL.rfl', Or.inr rfl, _, rfl⟩ | exact ⟨rfl, rfl, by assumption, by assumption, _, rfl⟩

theorem q_X11_table_0 : px_bk 11 3 cX11_table 0 [(.aload_n 0, (0, 0, 0, 0, 0), 0, 0), (.getfield 77, (11, 9, 3, 101, 0), 0, 0), (.iload_n 1, (0, 0, 0, 0, 0), 0, 0), (.iload_n 2, (0, 0, 0, 0, 0), 0, 0)] = some 6 ∧ px_tv cX11_table 6 262 = true := by decide +kernel
theorem q_X11_table_9 : px_bk 11 3 cX11_table 9 [] = some 9 ∧ px_tr cX11_table 9 .ireturn = true := by decide +kernel
set_option maxRecDepth 100000 in
theorem b_table {n : Nat} {I : px_I} {L : px_L} {R : px_R} (hg : px_G n R) (c v : Int32) : px_KS M_X11_table [.ref 32, .int c, .int v] n I L R (fun r I2 L2 => L2 = L ∧ ((((0 ≤ c ∧ c ≤ 9) ∧ (0 ≤ v ∧ v ≤ 1000)) ∧ r = 1 ∧ I2 = px_u I 102 c.toNatClampNeg v) ∨ (¬ ((0 ≤ c ∧ c ≤ 9) ∧ (0 ≤ v ∧ v ≤ 1000)) ∧ r = 0 ∧ I2 = I))) := by
  refine px_of (plainFor_of_name np_RX11) (fun _ _ _ => trivial) rfl ?_
  refine px_cVS (ci := 0) rfl q_X11_table_0 hg rfl trivial lk_11_262 nm_X0_setRow (c_setRow hg _ _) rfl rfl (px_lit hg rfl) rfl rfl rfl ⟨rfl, rfl⟩ ?_
  intro x6 I6 L6 h6
  refine px_rzS rfl q_X11_table_9 rfl rfl rfl hg rfl trivial ⟨⟨rfl, rfl⟩, (by first | exact Or.inl rfl | exact Or.inr rfl | grind), ?_⟩
  first | assumption | (exact h6)

theorem q_X11_repair_0 : px_bk 11 5 cX11_repair 0 [(.aload_n 0, (0, 0, 0, 0, 0), 0, 0), (.iload_n 1, (0, 0, 0, 0, 0), 0, 0)] = some 2 ∧ px_tv cX11_repair 2 128 = true := by decide +kernel
theorem q_X11_repair_5 : px_bk 11 5 cX11_repair 5 [(.astore 4, (0, 0, 0, 0, 0), 0, 0), (.aload 4, (0, 0, 0, 0, 0), 0, 0)] = some 9 ∧ px_t3 cX11_repair 9 35 = true := by decide +kernel
theorem q_X11_repair_12 : px_bk 11 5 cX11_repair 12 [(.aload_n 0, (0, 0, 0, 0, 0), 0, 0)] = some 13 ∧ px_tv cX11_repair 13 266 = true := by decide +kernel
theorem q_X11_repair_16 : px_bk 11 5 cX11_repair 16 [(.bipush 30, (0, 0, 0, 0, 0), 30, 0)] = some 18 ∧ px_t2 cX11_repair 18 .ge 35 = true := by decide +kernel
theorem q_X11_repair_35 : px_bk 11 5 cX11_repair 35 [(.iconst (-1), (0, 0, 0, 0, 0), -1, 0)] = some 36 ∧ px_tr cX11_repair 36 .ireturn = true := by decide +kernel
theorem q_X11_repair_21 : px_bk 11 5 cX11_repair 21 [(.aload 4, (0, 0, 0, 0, 0), 0, 0), (.iload_n 2, (0, 0, 0, 0, 0), 0, 0), (.iload_n 3, (0, 0, 0, 0, 0), 0, 0), (.aload_n 0, (0, 0, 0, 0, 0), 0, 0), (.getfield 81, (11, 10, 0, 0, 0), 0, 0)] = some 29 ∧ px_tv cX11_repair 29 269 = true := by decide +kernel
theorem q_X11_repair_32 : px_bk 11 5 cX11_repair 32 [] = some 32 ∧ px_t1 cX11_repair 32 .ne 37 = true := by decide +kernel
theorem q_X11_repair_37 : px_bk 11 5 cX11_repair 37 [(.aload_n 0, (0, 0, 0, 0, 0), 0, 0)] = some 38 ∧ px_tv cX11_repair 38 266 = true := by decide +kernel
theorem q_X11_repair_41 : px_bk 11 5 cX11_repair 41 [] = some 41 ∧ px_tr cX11_repair 41 .ireturn = true := by decide +kernel
set_option maxRecDepth 100000 in
theorem b_repair {n : Nat} {I : px_I} {L : px_L} {R : px_R} (hg : px_G n R) (g p y : Int32) (hG : cGal I) : px_KS M_X11_repair [.ref 32, .int g, .int p, .int y] n I L R (fun r I2 L2 => L2 = L ∧ ((∃ G, (bG g G ∧ I 41 15 + I 55 15 < 30 ∧ (1 ≤ p ∧ p < I G 13) ∧ (0 ≤ y ∧ y ≤ 5000) ∧ I G 15 < 30) ∧ r = I 41 15 + I 55 15 + 1 ∧ I2 = cRep G I p y (I 32 10)) ∨ (¬ (∃ G, bG g G ∧ I 41 15 + I 55 15 < 30 ∧ (1 ≤ p ∧ p < I G 13) ∧ (0 ≤ y ∧ y ≤ 5000) ∧ I G 15 < 30) ∧ r = -1 ∧ I2 = I))) := by
  refine px_of (plainFor_of_name np_RX11) (fun _ _ _ => trivial) rfl ?_
  obtain ⟨⟨gA1, gA2⟩, ⟨gB1, gB2⟩⟩ := id hG
  have gA3 := gA1.2
  have gB3 := gB1.2
  have gA4 := gA2.1
  have gB4 := gB2.1
  have gA5 := gA2.2
  have gB5 := gB2.2
  refine px_cVA (ci := 11) rfl q_X11_repair_0 hg rfl trivial lk_11_128 nm_X11_galleryOf (b_galleryOf hg _) rfl rfl (px_lit hg rfl) rfl rfl rfl ⟨rfl, rfl⟩ ?_
  intro o2 h2
  rcases h2 with ⟨rfl, hg0⟩ | ⟨rfl, hg0⟩ | ⟨rfl, hg0, hg1⟩ --N
  · refine px_nulR rfl q_X11_repair_5 hg rfl trivial ?_
    refine px_cVP (ci := 11) rfl q_X11_repair_12 hg rfl trivial lk_11_266 nm_X11_repairs (b_repairs hg) rfl rfl (px_lit hg rfl) rfl rfl rfl ⟨rfl, rfl⟩ ?_
    intro x13 h13
    refine px_ige rfl q_X11_repair_16 hg rfl trivial (fun c18 => ?_) (fun c18 => ?_)
    · refine px_riS rfl q_X11_repair_35 rfl rfl rfl hg rfl trivial ⟨⟨rfl, rfl⟩, ?_⟩
      exact ⟨rfl, Or.inr ⟨fun ⟨G, z1, z2⟩ => by rcases z1 with ⟨e, rfl⟩ | ⟨e, rfl⟩ <;> (first | exact absurd (hg0.symm.trans e) (by decide) | exact absurd e hg0 | exact absurd e hg1 | grind), rfl, rfl⟩⟩
    · refine px_cVS (ci := 1) rfl q_X11_repair_21 hg rfl trivial lk_11_269 nm_X1_addRepair (c_addRepairA hg _ _ _ (by assumption)) rfl rfl (px_lit hg rfl) rfl rfl rfl ⟨rfl, rfl⟩ ?_
      intro x29 I29 L29 h29
      obtain ⟨rfl, h29⟩ := h29
      refine px_ne rfl q_X11_repair_32 hg rfl trivial (fun c32 => ?_) (fun c32 => ?_)
      · refine px_cVP (ci := 11) rfl q_X11_repair_37 hg rfl trivial lk_11_266 nm_X11_repairs (b_repairs hg) rfl rfl (px_lit hg rfl) rfl rfl rfl ⟨rfl, rfl⟩ ?_
        intro x38 h38
        refine px_riS rfl q_X11_repair_41 rfl rfl rfl hg rfl trivial ⟨⟨rfl, rfl⟩, ?_⟩
        obtain ⟨z1, z2, rfl⟩ := h29.resolve_right (fun z => absurd z.2.1 (by assumption))
        refine ⟨rfl, Or.inl ⟨41, ⟨Or.inl ⟨hg0, rfl⟩, by rw [← h13]; grind, z1⟩, ?_, rfl⟩⟩
        rw [h38]
        simp [cRep, px_ur]
        grind
      · refine px_riS rfl q_X11_repair_35 rfl rfl rfl hg rfl trivial ⟨⟨rfl, rfl⟩, ?_⟩
        obtain ⟨z0, -, rfl⟩ := h29.resolve_left (fun z => absurd (z.2.1.symm.trans (by assumption)) (by decide))
        exact ⟨rfl, Or.inr ⟨fun ⟨G, z1, z2, z3⟩ => by rcases z1 with ⟨e, rfl⟩ | ⟨e, rfl⟩ <;> (first | exact absurd (hg0.symm.trans e) (by decide) | exact absurd z3 z0), rfl, rfl⟩⟩
  · refine px_nulR rfl q_X11_repair_5 hg rfl trivial ?_
    refine px_cVP (ci := 11) rfl q_X11_repair_12 hg rfl trivial lk_11_266 nm_X11_repairs (b_repairs hg) rfl rfl (px_lit hg rfl) rfl rfl rfl ⟨rfl, rfl⟩ ?_
    intro x13 h13
    refine px_ige rfl q_X11_repair_16 hg rfl trivial (fun c18 => ?_) (fun c18 => ?_)
    · refine px_riS rfl q_X11_repair_35 rfl rfl rfl hg rfl trivial ⟨⟨rfl, rfl⟩, ?_⟩
      exact ⟨rfl, Or.inr ⟨fun ⟨G, z1, z2⟩ => by rcases z1 with ⟨e, rfl⟩ | ⟨e, rfl⟩ <;> (first | exact absurd (hg0.symm.trans e) (by decide) | exact absurd e hg0 | exact absurd e hg1 | grind), rfl, rfl⟩⟩
    · refine px_cVS (ci := 1) rfl q_X11_repair_21 hg rfl trivial lk_11_269 nm_X1_addRepair (c_addRepairB hg _ _ _ (by assumption)) rfl rfl (px_lit hg rfl) rfl rfl rfl ⟨rfl, rfl⟩ ?_
      intro x29 I29 L29 h29
      obtain ⟨rfl, h29⟩ := h29
      refine px_ne rfl q_X11_repair_32 hg rfl trivial (fun c32 => ?_) (fun c32 => ?_)
      · refine px_cVP (ci := 11) rfl q_X11_repair_37 hg rfl trivial lk_11_266 nm_X11_repairs (b_repairs hg) rfl rfl (px_lit hg rfl) rfl rfl rfl ⟨rfl, rfl⟩ ?_
        intro x38 h38
        refine px_riS rfl q_X11_repair_41 rfl rfl rfl hg rfl trivial ⟨⟨rfl, rfl⟩, ?_⟩
        obtain ⟨z1, z2, rfl⟩ := h29.resolve_right (fun z => absurd z.2.1 (by assumption))
        refine ⟨rfl, Or.inl ⟨55, ⟨Or.inr ⟨hg0, rfl⟩, by rw [← h13]; grind, z1⟩, ?_, rfl⟩⟩
        rw [h38]
        simp [cRep, px_ur]
        grind
      · refine px_riS rfl q_X11_repair_35 rfl rfl rfl hg rfl trivial ⟨⟨rfl, rfl⟩, ?_⟩
        obtain ⟨z0, -, rfl⟩ := h29.resolve_left (fun z => absurd (z.2.1.symm.trans (by assumption)) (by decide))
        exact ⟨rfl, Or.inr ⟨fun ⟨G, z1, z2, z3⟩ => by rcases z1 with ⟨e, rfl⟩ | ⟨e, rfl⟩ <;> (first | exact absurd (hg0.symm.trans e) (by decide) | exact absurd z3 z0), rfl, rfl⟩⟩
  · refine px_nulN rfl q_X11_repair_5 hg rfl trivial ?_
    refine px_riS rfl q_X11_repair_35 rfl rfl rfl hg rfl trivial ⟨⟨rfl, rfl⟩, ?_⟩
    exact ⟨rfl, Or.inr ⟨fun ⟨G, z1, z2⟩ => by rcases z1 with ⟨e, rfl⟩ | ⟨e, rfl⟩ <;> (first | exact absurd (hg0.symm.trans e) (by decide) | exact absurd e hg0 | exact absurd e hg1 | grind), rfl, rfl⟩⟩

theorem q_X11_lime_0 : px_bk 11 2 cX11_lime 0 [(.iload_n 1, (0, 0, 0, 0, 0), 0, 0), (.iconst 0, (0, 0, 0, 0, 0), 0, 0), (.sipush 1000, (0, 0, 0, 0, 0), 1000, 0)] = some 5 ∧ px_tS cX11_lime 5 85 = true := by decide +kernel
theorem q_X11_lime_8 : px_bk 11 2 cX11_lime 8 [] = some 8 ∧ px_t1 cX11_lime 8 .ne 13 = true := by decide +kernel
theorem q_X11_lime_13 : px_bk 11 2 cX11_lime 13 [(.aload_n 0, (0, 0, 0, 0, 0), 0, 0), (.getfield 77, (11, 9, 3, 101, 0), 0, 0), (.iload_n 1, (0, 0, 0, 0, 0), 0, 0), (.putfield 272, (0, 2, 0, 0, 0), 0, 0), (.iconst 1, (0, 0, 0, 0, 0), 1, 0)] = some 22 ∧ px_tr cX11_lime 22 .ireturn = true := by decide +kernel
theorem q_X11_lime_11 : px_bk 11 2 cX11_lime 11 [(.iconst 0, (0, 0, 0, 0, 0), 0, 0)] = some 12 ∧ px_tr cX11_lime 12 .ireturn = true := by decide +kernel
set_option maxRecDepth 100000 in
theorem b_lime {n : Nat} {I : px_I} {L : px_L} {R : px_R} (hg : px_G n R) (v : Int32) : px_KS M_X11_lime [.ref 32, .int v] n I L R (fun r I2 L2 => L2 = L ∧ (((0 ≤ v ∧ v ≤ 1000) ∧ r = 1 ∧ I2 = px_u I 101 2 v) ∨ (¬ (0 ≤ v ∧ v ≤ 1000) ∧ r = 0 ∧ I2 = I))) := by
  refine px_of (plainFor_of_name np_RX11) (fun _ _ _ => trivial) rfl ?_
  refine px_cSP rfl q_X11_lime_0 hg rfl trivial lk_11_85 nm_X11_within (c_within hg _ _ _) rfl rfl rfl ⟨rfl, rfl⟩ ?_
  intro x5 h5
  refine px_ne rfl q_X11_lime_8 hg rfl trivial (fun c8 => ?_) (fun c8 => ?_)
  · replace h5 := px_bt h5 c8
    refine px_rzS rfl q_X11_lime_13 rfl rfl rfl hg rfl trivial ⟨⟨rfl, rfl⟩, (by first | exact Or.inl rfl | exact Or.inr rfl | grind), ?_⟩
    grind
  · replace h5 := px_bf h5 c8
    refine px_rzS rfl q_X11_lime_11 rfl rfl rfl hg rfl trivial ⟨⟨rfl, rfl⟩, (by first | exact Or.inl rfl | exact Or.inr rfl | grind), ?_⟩
    grind

theorem q_X11_flow_0 : px_bk 11 6 cX11_flow 0 [(.aload_n 0, (0, 0, 0, 0, 0), 0, 0), (.iload_n 1, (0, 0, 0, 0, 0), 0, 0)] = some 2 ∧ px_tv cX11_flow 2 128 = true := by decide +kernel
theorem q_X11_flow_5 : px_bk 11 6 cX11_flow 5 [(.astore 5, (0, 0, 0, 0, 0), 0, 0), (.aload 5, (0, 0, 0, 0, 0), 0, 0)] = some 9 ∧ px_t3 cX11_flow 9 30 = true := by decide +kernel
theorem q_X11_flow_12 : px_bk 11 6 cX11_flow 12 [(.iload_n 2, (0, 0, 0, 0, 0), 0, 0), (.iconst 0, (0, 0, 0, 0, 0), 0, 0), (.sipush 5000, (0, 0, 0, 0, 0), 5000, 0)] = some 17 ∧ px_tS cX11_flow 17 85 = true := by decide +kernel
theorem q_X11_flow_20 : px_bk 11 6 cX11_flow 20 [] = some 20 ∧ px_t1 cX11_flow 20 .eq 30 = true := by decide +kernel
theorem q_X11_flow_30 : px_bk 11 6 cX11_flow 30 [(.iconst (-1), (0, 0, 0, 0, 0), -1, 0)] = some 31 ∧ px_tr cX11_flow 31 .ireturn = true := by decide +kernel
theorem q_X11_flow_23 : px_bk 11 6 cX11_flow 23 [(.iload_n 3, (0, 0, 0, 0, 0), 0, 0)] = some 24 ∧ px_tS cX11_flow 24 110 = true := by decide +kernel
theorem q_X11_flow_27 : px_bk 11 6 cX11_flow 27 [] = some 27 ∧ px_t1 cX11_flow 27 .ne 32 = true := by decide +kernel
theorem q_X11_flow_32 : px_bk 11 6 cX11_flow 32 [(.aload_n 0, (0, 0, 0, 0, 0), 0, 0), (.getfield 77, (11, 9, 3, 101, 0), 0, 0), (.aload 5, (0, 0, 0, 0, 0), 0, 0), (.iload_n 2, (0, 0, 0, 0, 0), 0, 0), (.iload_n 3, (0, 0, 0, 0, 0), 0, 0), (.iload 4, (0, 0, 0, 0, 0), 0, 0)] = some 42 ∧ px_tv cX11_flow 42 275 = true := by decide +kernel
theorem q_X11_flow_45 : px_bk 11 6 cX11_flow 45 [(.iconst (-1), (0, 0, 0, 0, 0), -1, 0)] = some 46 ∧ px_t2 cX11_flow 46 .ne 53 = true := by decide +kernel
theorem q_X11_flow_53 : px_bk 11 6 cX11_flow 53 [(.aload_n 0, (0, 0, 0, 0, 0), 0, 0), (.getfield 77, (11, 9, 3, 101, 0), 0, 0), (.getfield 279, (0, 3, 0, 0, 0), 0, 0)] = some 60 ∧ px_tr cX11_flow 60 .ireturn = true := by decide +kernel
theorem q_X11_flow_49 : px_bk 11 6 cX11_flow 49 [(.iconst (-1), (0, 0, 0, 0, 0), -1, 0), (.goto 10, (0, 0, 0, 0, 0), 0, 0)] = some 60 ∧ px_tr cX11_flow 60 .ireturn = true := by decide +kernel
set_option maxRecDepth 100000 in
theorem b_flow {n : Nat} {I : px_I} {L : px_L} {R : px_R} (hg : px_G n R) (g y k h : Int32) (hG : cGal I) (hS : cSt I) : px_KS M_X11_flow [.ref 32, .int g, .int y, .int k, .int h] n I L R (fun r I2 L2 => cLI I I2 ∧ cDL L L2) := by
  refine px_of (plainFor_of_name np_RX11) (fun _ _ _ => trivial) rfl ?_
  obtain ⟨⟨gA1, gA2⟩, ⟨gB1, gB2⟩⟩ := id hG
  have gA3 := gA1.2
  have gB3 := gB1.2
  have gA4 := gA2.1
  have gB4 := gB2.1
  have gA5 := gA2.2
  have gB5 := gB2.2
  have hs1 := hS.2
  have hn1 := hS.1.2
  refine px_cVA (ci := 11) rfl q_X11_flow_0 hg rfl trivial lk_11_128 nm_X11_galleryOf (b_galleryOf hg _) rfl rfl (px_lit hg rfl) rfl rfl rfl ⟨rfl, rfl⟩ ?_
  intro o2 h2
  rcases h2 with ⟨rfl, hg0⟩ | ⟨rfl, hg0⟩ | ⟨rfl, hg0, hg1⟩ --N
  · refine px_nulR rfl q_X11_flow_5 hg rfl trivial ?_
    refine px_cSP rfl q_X11_flow_12 hg rfl trivial lk_11_85 nm_X11_within (c_within hg _ _ _) rfl rfl rfl ⟨rfl, rfl⟩ ?_
    intro x17 h17
    refine px_eq rfl q_X11_flow_20 hg rfl trivial (fun c20 => ?_) (fun c20 => ?_)
    · replace h17 := px_bf h17 c20
      refine px_riS rfl q_X11_flow_30 rfl rfl rfl hg rfl trivial ⟨⟨rfl, rfl⟩, ?_⟩
      first | assumption | exact ⟨fun _ _ _ => rfl, fun _ _ => rfl⟩
    · replace h17 := px_bt h17 c20
      refine px_cSP rfl q_X11_flow_23 hg rfl trivial lk_11_110 nm_X11_isDay (c_isDay hg _) rfl rfl rfl ⟨rfl, rfl⟩ ?_
      intro x24 h24
      refine px_ne rfl q_X11_flow_27 hg rfl trivial (fun c27 => ?_) (fun c27 => ?_)
      · replace h24 := px_bt h24 c27
        refine px_cVS (ci := 0) rfl q_X11_flow_32 hg rfl trivial lk_11_275 nm_X0_tightest (c_tightA hg _ _ _ (by assumption) (by assumption) (by assumption) (by assumption)) rfl rfl (px_lit hg rfl) rfl rfl rfl ⟨rfl, rfl⟩ ?_
        intro x42 I42 L42 h42
        refine px_ine rfl q_X11_flow_45 hg rfl trivial (fun c46 => ?_) (fun c46 => ?_)
        · refine px_riS rfl q_X11_flow_53 rfl rfl rfl hg rfl trivial ⟨⟨rfl, rfl⟩, ?_⟩
          first | assumption | exact ⟨fun _ _ _ => rfl, fun _ _ => rfl⟩
        · refine px_riS rfl q_X11_flow_49 rfl rfl rfl hg rfl trivial ⟨⟨rfl, rfl⟩, ?_⟩
          first | assumption | exact ⟨fun _ _ _ => rfl, fun _ _ => rfl⟩
      · replace h24 := px_bf h24 c27
        refine px_riS rfl q_X11_flow_30 rfl rfl rfl hg rfl trivial ⟨⟨rfl, rfl⟩, ?_⟩
        first | assumption | exact ⟨fun _ _ _ => rfl, fun _ _ => rfl⟩
  · refine px_nulR rfl q_X11_flow_5 hg rfl trivial ?_
    refine px_cSP rfl q_X11_flow_12 hg rfl trivial lk_11_85 nm_X11_within (c_within hg _ _ _) rfl rfl rfl ⟨rfl, rfl⟩ ?_
    intro x17 h17
    refine px_eq rfl q_X11_flow_20 hg rfl trivial (fun c20 => ?_) (fun c20 => ?_)
    · replace h17 := px_bf h17 c20
      refine px_riS rfl q_X11_flow_30 rfl rfl rfl hg rfl trivial ⟨⟨rfl, rfl⟩, ?_⟩
      first | assumption | exact ⟨fun _ _ _ => rfl, fun _ _ => rfl⟩
    · replace h17 := px_bt h17 c20
      refine px_cSP rfl q_X11_flow_23 hg rfl trivial lk_11_110 nm_X11_isDay (c_isDay hg _) rfl rfl rfl ⟨rfl, rfl⟩ ?_
      intro x24 h24
      refine px_ne rfl q_X11_flow_27 hg rfl trivial (fun c27 => ?_) (fun c27 => ?_)
      · replace h24 := px_bt h24 c27
        refine px_cVS (ci := 0) rfl q_X11_flow_32 hg rfl trivial lk_11_275 nm_X0_tightest (c_tightB hg _ _ _ (by assumption) (by assumption) (by assumption) (by assumption)) rfl rfl (px_lit hg rfl) rfl rfl rfl ⟨rfl, rfl⟩ ?_
        intro x42 I42 L42 h42
        refine px_ine rfl q_X11_flow_45 hg rfl trivial (fun c46 => ?_) (fun c46 => ?_)
        · refine px_riS rfl q_X11_flow_53 rfl rfl rfl hg rfl trivial ⟨⟨rfl, rfl⟩, ?_⟩
          first | assumption | exact ⟨fun _ _ _ => rfl, fun _ _ => rfl⟩
        · refine px_riS rfl q_X11_flow_49 rfl rfl rfl hg rfl trivial ⟨⟨rfl, rfl⟩, ?_⟩
          first | assumption | exact ⟨fun _ _ _ => rfl, fun _ _ => rfl⟩
      · replace h24 := px_bf h24 c27
        refine px_riS rfl q_X11_flow_30 rfl rfl rfl hg rfl trivial ⟨⟨rfl, rfl⟩, ?_⟩
        first | assumption | exact ⟨fun _ _ _ => rfl, fun _ _ => rfl⟩
  · refine px_nulN rfl q_X11_flow_5 hg rfl trivial ?_
    refine px_riS rfl q_X11_flow_30 rfl rfl rfl hg rfl trivial ⟨⟨rfl, rfl⟩, ?_⟩
    first | assumption | exact ⟨fun _ _ _ => rfl, fun _ _ => rfl⟩

theorem q_X11_narrow_0 : px_bk 11 5 cX11_narrow 0 [(.aload_n 0, (0, 0, 0, 0, 0), 0, 0), (.iload_n 1, (0, 0, 0, 0, 0), 0, 0)] = some 2 ∧ px_tv cX11_narrow 2 128 = true := by decide +kernel
theorem q_X11_narrow_5 : px_bk 11 5 cX11_narrow 5 [(.astore 4, (0, 0, 0, 0, 0), 0, 0), (.aload 4, (0, 0, 0, 0, 0), 0, 0)] = some 9 ∧ px_t3 cX11_narrow 9 30 = true := by decide +kernel
theorem q_X11_narrow_12 : px_bk 11 5 cX11_narrow 12 [(.iload_n 2, (0, 0, 0, 0, 0), 0, 0), (.iconst 0, (0, 0, 0, 0, 0), 0, 0), (.sipush 5000, (0, 0, 0, 0, 0), 5000, 0)] = some 17 ∧ px_tS cX11_narrow 17 85 = true := by decide +kernel
theorem q_X11_narrow_20 : px_bk 11 5 cX11_narrow 20 [] = some 20 ∧ px_t1 cX11_narrow 20 .eq 30 = true := by decide +kernel
theorem q_X11_narrow_30 : px_bk 11 5 cX11_narrow 30 [(.iconst (-1), (0, 0, 0, 0, 0), -1, 0)] = some 31 ∧ px_tr cX11_narrow 31 .ireturn = true := by decide +kernel
theorem q_X11_narrow_23 : px_bk 11 5 cX11_narrow 23 [(.iload_n 3, (0, 0, 0, 0, 0), 0, 0)] = some 24 ∧ px_tS cX11_narrow 24 110 = true := by decide +kernel
theorem q_X11_narrow_27 : px_bk 11 5 cX11_narrow 27 [] = some 27 ∧ px_t1 cX11_narrow 27 .ne 32 = true := by decide +kernel
theorem q_X11_narrow_32 : px_bk 11 5 cX11_narrow 32 [(.aload_n 0, (0, 0, 0, 0, 0), 0, 0), (.getfield 77, (11, 9, 3, 101, 0), 0, 0), (.aload 4, (0, 0, 0, 0, 0), 0, 0), (.iload_n 2, (0, 0, 0, 0, 0), 0, 0), (.iload_n 3, (0, 0, 0, 0, 0), 0, 0), (.iconst 0, (0, 0, 0, 0, 0), 0, 0)] = some 41 ∧ px_tv cX11_narrow 41 275 = true := by decide +kernel
theorem q_X11_narrow_44 : px_bk 11 5 cX11_narrow 44 [] = some 44 ∧ px_tr cX11_narrow 44 .ireturn = true := by decide +kernel
set_option maxRecDepth 100000 in
theorem b_narrow {n : Nat} {I : px_I} {L : px_L} {R : px_R} (hg : px_G n R) (g y k : Int32) (hG : cGal I) (hS : cSt I) : px_KS M_X11_narrow [.ref 32, .int g, .int y, .int k] n I L R (fun r I2 L2 => cLI I I2 ∧ cDL L L2) := by
  refine px_of (plainFor_of_name np_RX11) (fun _ _ _ => trivial) rfl ?_
  obtain ⟨⟨gA1, gA2⟩, ⟨gB1, gB2⟩⟩ := id hG
  have gA3 := gA1.2
  have gB3 := gB1.2
  have gA4 := gA2.1
  have gB4 := gB2.1
  have gA5 := gA2.2
  have gB5 := gB2.2
  have hs1 := hS.2
  have hn1 := hS.1.2
  refine px_cVA (ci := 11) rfl q_X11_narrow_0 hg rfl trivial lk_11_128 nm_X11_galleryOf (b_galleryOf hg _) rfl rfl (px_lit hg rfl) rfl rfl rfl ⟨rfl, rfl⟩ ?_
  intro o2 h2
  rcases h2 with ⟨rfl, hg0⟩ | ⟨rfl, hg0⟩ | ⟨rfl, hg0, hg1⟩ --N
  · refine px_nulR rfl q_X11_narrow_5 hg rfl trivial ?_
    refine px_cSP rfl q_X11_narrow_12 hg rfl trivial lk_11_85 nm_X11_within (c_within hg _ _ _) rfl rfl rfl ⟨rfl, rfl⟩ ?_
    intro x17 h17
    refine px_eq rfl q_X11_narrow_20 hg rfl trivial (fun c20 => ?_) (fun c20 => ?_)
    · replace h17 := px_bf h17 c20
      refine px_riS rfl q_X11_narrow_30 rfl rfl rfl hg rfl trivial ⟨⟨rfl, rfl⟩, ?_⟩
      first | assumption | exact ⟨fun _ _ _ => rfl, fun _ _ => rfl⟩
    · replace h17 := px_bt h17 c20
      refine px_cSP rfl q_X11_narrow_23 hg rfl trivial lk_11_110 nm_X11_isDay (c_isDay hg _) rfl rfl rfl ⟨rfl, rfl⟩ ?_
      intro x24 h24
      refine px_ne rfl q_X11_narrow_27 hg rfl trivial (fun c27 => ?_) (fun c27 => ?_)
      · replace h24 := px_bt h24 c27
        refine px_cVS (ci := 0) rfl q_X11_narrow_32 hg rfl trivial lk_11_275 nm_X0_tightest (c_tightA hg _ _ _ (by assumption) (by assumption) (by assumption) (by assumption)) rfl rfl (px_lit hg rfl) rfl rfl rfl ⟨rfl, rfl⟩ ?_
        intro x41 I41 L41 h41
        refine px_riS rfl q_X11_narrow_44 rfl rfl rfl hg rfl trivial ⟨⟨rfl, rfl⟩, ?_⟩
        first | assumption | exact ⟨fun _ _ _ => rfl, fun _ _ => rfl⟩
      · replace h24 := px_bf h24 c27
        refine px_riS rfl q_X11_narrow_30 rfl rfl rfl hg rfl trivial ⟨⟨rfl, rfl⟩, ?_⟩
        first | assumption | exact ⟨fun _ _ _ => rfl, fun _ _ => rfl⟩
  · refine px_nulR rfl q_X11_narrow_5 hg rfl trivial ?_
    refine px_cSP rfl q_X11_narrow_12 hg rfl trivial lk_11_85 nm_X11_within (c_within hg _ _ _) rfl rfl rfl ⟨rfl, rfl⟩ ?_
    intro x17 h17
    refine px_eq rfl q_X11_narrow_20 hg rfl trivial (fun c20 => ?_) (fun c20 => ?_)
    · replace h17 := px_bf h17 c20
      refine px_riS rfl q_X11_narrow_30 rfl rfl rfl hg rfl trivial ⟨⟨rfl, rfl⟩, ?_⟩
      first | assumption | exact ⟨fun _ _ _ => rfl, fun _ _ => rfl⟩
    · replace h17 := px_bt h17 c20
      refine px_cSP rfl q_X11_narrow_23 hg rfl trivial lk_11_110 nm_X11_isDay (c_isDay hg _) rfl rfl rfl ⟨rfl, rfl⟩ ?_
      intro x24 h24
      refine px_ne rfl q_X11_narrow_27 hg rfl trivial (fun c27 => ?_) (fun c27 => ?_)
      · replace h24 := px_bt h24 c27
        refine px_cVS (ci := 0) rfl q_X11_narrow_32 hg rfl trivial lk_11_275 nm_X0_tightest (c_tightB hg _ _ _ (by assumption) (by assumption) (by assumption) (by assumption)) rfl rfl (px_lit hg rfl) rfl rfl rfl ⟨rfl, rfl⟩ ?_
        intro x41 I41 L41 h41
        refine px_riS rfl q_X11_narrow_44 rfl rfl rfl hg rfl trivial ⟨⟨rfl, rfl⟩, ?_⟩
        first | assumption | exact ⟨fun _ _ _ => rfl, fun _ _ => rfl⟩
      · replace h24 := px_bf h24 c27
        refine px_riS rfl q_X11_narrow_30 rfl rfl rfl hg rfl trivial ⟨⟨rfl, rfl⟩, ?_⟩
        first | assumption | exact ⟨fun _ _ _ => rfl, fun _ _ => rfl⟩
  · refine px_nulN rfl q_X11_narrow_5 hg rfl trivial ?_
    refine px_riS rfl q_X11_narrow_30 rfl rfl rfl hg rfl trivial ⟨⟨rfl, rfl⟩, ?_⟩
    first | assumption | exact ⟨fun _ _ _ => rfl, fun _ _ => rfl⟩

theorem q_X11_about_0 : px_bk 11 2 cX11_about 0 [(.iload_n 1, (0, 0, 0, 0, 0), 0, 0)] = some 1 := by decide +kernel
theorem q_X11_about_1S : decode cX11_about 1 = .ok (.tableswitch 138 0 10 #[59, 64, 72, 80, 88, 96, 101, 109, 117, 122, 130], 59) := by decide +kernel
theorem q_X11_about_60 : px_bk 11 2 cX11_about 60 [(.aload_n 0, (0, 0, 0, 0, 0), 0, 0), (.getfield 81, (11, 10, 0, 0, 0), 0, 0)] = some 64 ∧ px_tr cX11_about 64 .ireturn = true := by decide +kernel
theorem q_X11_about_65 : px_bk 11 2 cX11_about 65 [(.aload_n 0, (0, 0, 0, 0, 0), 0, 0), (.getfield 10, (11, 0, 3, 33, 0), 0, 0), (.getfield 282, (7, 7, 0, 0, 0), 0, 0)] = some 72 ∧ px_tr cX11_about 72 .ireturn = true := by decide +kernel
theorem q_X11_about_73 : px_bk 11 2 cX11_about 73 [(.aload_n 0, (0, 0, 0, 0, 0), 0, 0), (.getfield 10, (11, 0, 3, 33, 0), 0, 0), (.getfield 285, (7, 8, 0, 0, 0), 0, 0)] = some 80 ∧ px_tr cX11_about 80 .ireturn = true := by decide +kernel
theorem q_X11_about_81 : px_bk 11 2 cX11_about 81 [(.aload_n 0, (0, 0, 0, 0, 0), 0, 0), (.getfield 19, (11, 1, 3, 41, 0), 0, 0), (.getfield 288, (1, 13, 0, 0, 0), 0, 0)] = some 88 ∧ px_tr cX11_about 88 .ireturn = true := by decide +kernel
theorem q_X11_about_89 : px_bk 11 2 cX11_about 89 [(.aload_n 0, (0, 0, 0, 0, 0), 0, 0), (.getfield 23, (11, 2, 3, 55, 0), 0, 0), (.getfield 288, (1, 13, 0, 0, 0), 0, 0)] = some 96 ∧ px_tr cX11_about 96 .ireturn = true := by decide +kernel
theorem q_X11_about_97 : px_bk 11 2 cX11_about 97 [(.aload_n 0, (0, 0, 0, 0, 0), 0, 0)] = some 98 ∧ px_tv cX11_about 98 138 = true := by decide +kernel
theorem q_X11_about_101 : px_bk 11 2 cX11_about 101 [] = some 101 ∧ px_tr cX11_about 101 .ireturn = true := by decide +kernel
theorem q_X11_about_102 : px_bk 11 2 cX11_about 102 [(.aload_n 0, (0, 0, 0, 0, 0), 0, 0), (.getfield 29, (11, 3, 3, 69, 0), 0, 0), (.getfield 162, (2, 0, 0, 0, 0), 0, 0)] = some 109 ∧ px_tr cX11_about 109 .ireturn = true := by decide +kernel
theorem q_X11_about_110 : px_bk 11 2 cX11_about 110 [(.aload_n 0, (0, 0, 0, 0, 0), 0, 0), (.getfield 52, (11, 6, 3, 85, 0), 0, 0)] = some 114 ∧ px_tv cX11_about 114 291 = true := by decide +kernel
theorem q_X11_about_117 : px_bk 11 2 cX11_about 117 [] = some 117 ∧ px_tr cX11_about 117 .ireturn = true := by decide +kernel
theorem q_X11_about_118 : px_bk 11 2 cX11_about 118 [(.aload_n 0, (0, 0, 0, 0, 0), 0, 0)] = some 119 ∧ px_tv cX11_about 119 266 = true := by decide +kernel
theorem q_X11_about_122 : px_bk 11 2 cX11_about 122 [] = some 122 ∧ px_tr cX11_about 122 .ireturn = true := by decide +kernel
theorem q_X11_about_123 : px_bk 11 2 cX11_about 123 [(.aload_n 0, (0, 0, 0, 0, 0), 0, 0), (.getfield 77, (11, 9, 3, 101, 0), 0, 0), (.getfield 272, (0, 2, 0, 0, 0), 0, 0)] = some 130 ∧ px_tr cX11_about 130 .ireturn = true := by decide +kernel
theorem q_X11_about_131 : px_bk 11 2 cX11_about 131 [(.aload_n 0, (0, 0, 0, 0, 0), 0, 0), (.getfield 36, (11, 4, 3, 70, 0), 0, 0), (.getfield 178, (8, 5, 0, 0, 0), 0, 0)] = some 138 ∧ px_tr cX11_about 138 .ireturn = true := by decide +kernel
theorem q_X11_about_139 : px_bk 11 2 cX11_about 139 [(.iload_n 1, (0, 0, 0, 0, 0), 0, 0), (.bipush 20, (0, 0, 0, 0, 0), 20, 0), (.bipush 29, (0, 0, 0, 0, 0), 29, 0)] = some 144 ∧ px_tS cX11_about 144 85 = true := by decide +kernel
theorem q_X11_about_147 : px_bk 11 2 cX11_about 147 [] = some 147 ∧ px_t1 cX11_about 147 .eq 164 = true := by decide +kernel
theorem q_X11_about_164 : px_bk 11 2 cX11_about 164 [(.iconst (-1), (0, 0, 0, 0, 0), -1, 0)] = some 165 ∧ px_tr cX11_about 165 .ireturn = true := by decide +kernel
theorem q_X11_about_150 : px_bk 11 2 cX11_about 150 [(.aload_n 0, (0, 0, 0, 0, 0), 0, 0), (.getfield 77, (11, 9, 3, 101, 0), 0, 0), (.iload_n 1, (0, 0, 0, 0, 0), 0, 0), (.bipush 20, (0, 0, 0, 0, 0), 20, 0), (.isub, (0, 0, 0, 0, 0), 0, 0)] = some 158 ∧ px_tv cX11_about 158 294 = true := by decide +kernel
theorem q_X11_about_161 : px_bk 11 2 cX11_about 161 [(.goto 4, (0, 0, 0, 0, 0), 0, 0)] = some 165 ∧ px_tr cX11_about 165 .ireturn = true := by decide +kernel
set_option maxRecDepth 100000 in
theorem b_about {n : Nat} {I : px_I} {L : px_L} {R : px_R} (hg : px_G n R) (w : Int32) : px_KP M_X11_about [.ref 32, .int w] n I L R (fun r => True) := by
  refine px_of (plainFor_of_name np_RX11) (fun _ _ _ => trivial) rfl ?_
  refine px_b rfl q_X11_about_0 hg rfl trivial ?_
  by_cases s1_0 : w = 0
  · refine px_swI (tgt := 60) (off := 59) q_X11_about_1S s1_0 (by decide) (by decide) (by decide) (by decide) ?_
    refine px_riP rfl q_X11_about_60 rfl rfl rfl hg rfl trivial ⟨⟨rfl, rfl, rfl, rfl⟩, ?_⟩
    trivial
  by_cases s1_1 : w = 1
  · refine px_swI (tgt := 65) (off := 64) q_X11_about_1S s1_1 (by decide) (by decide) (by decide) (by decide) ?_
    refine px_riP rfl q_X11_about_65 rfl rfl rfl hg rfl trivial ⟨⟨rfl, rfl, rfl, rfl⟩, ?_⟩
    trivial
  by_cases s1_2 : w = 2
  · refine px_swI (tgt := 73) (off := 72) q_X11_about_1S s1_2 (by decide) (by decide) (by decide) (by decide) ?_
    refine px_riP rfl q_X11_about_73 rfl rfl rfl hg rfl trivial ⟨⟨rfl, rfl, rfl, rfl⟩, ?_⟩
    trivial
  by_cases s1_3 : w = 3
  · refine px_swI (tgt := 81) (off := 80) q_X11_about_1S s1_3 (by decide) (by decide) (by decide) (by decide) ?_
    refine px_riP rfl q_X11_about_81 rfl rfl rfl hg rfl trivial ⟨⟨rfl, rfl, rfl, rfl⟩, ?_⟩
    trivial
  by_cases s1_4 : w = 4
  · refine px_swI (tgt := 89) (off := 88) q_X11_about_1S s1_4 (by decide) (by decide) (by decide) (by decide) ?_
    refine px_riP rfl q_X11_about_89 rfl rfl rfl hg rfl trivial ⟨⟨rfl, rfl, rfl, rfl⟩, ?_⟩
    trivial
  by_cases s1_5 : w = 5
  · refine px_swI (tgt := 97) (off := 96) q_X11_about_1S s1_5 (by decide) (by decide) (by decide) (by decide) ?_
    refine px_cVP (ci := 11) rfl q_X11_about_97 hg rfl trivial lk_11_138 nm_X11_marks (b_marks hg) rfl rfl (px_lit hg rfl) rfl rfl rfl ⟨rfl, rfl⟩ ?_
    intro x98 h98
    refine px_riP rfl q_X11_about_101 rfl rfl rfl hg rfl trivial ⟨⟨rfl, rfl, rfl, rfl⟩, ?_⟩
    trivial
  by_cases s1_6 : w = 6
  · refine px_swI (tgt := 102) (off := 101) q_X11_about_1S s1_6 (by decide) (by decide) (by decide) (by decide) ?_
    refine px_riP rfl q_X11_about_102 rfl rfl rfl hg rfl trivial ⟨⟨rfl, rfl, rfl, rfl⟩, ?_⟩
    trivial
  by_cases s1_7 : w = 7
  · refine px_swI (tgt := 110) (off := 109) q_X11_about_1S s1_7 (by decide) (by decide) (by decide) (by decide) ?_
    refine px_cVP (ci := 5) rfl q_X11_about_110 hg rfl trivial lk_11_291 nm_X5_toldWays (c_toldWays hg) rfl rfl (px_lit hg rfl) rfl rfl rfl ⟨rfl, rfl⟩ ?_
    intro x114 h114
    refine px_riP rfl q_X11_about_117 rfl rfl rfl hg rfl trivial ⟨⟨rfl, rfl, rfl, rfl⟩, ?_⟩
    trivial
  by_cases s1_8 : w = 8
  · refine px_swI (tgt := 118) (off := 117) q_X11_about_1S s1_8 (by decide) (by decide) (by decide) (by decide) ?_
    refine px_cVP (ci := 11) rfl q_X11_about_118 hg rfl trivial lk_11_266 nm_X11_repairs (b_repairs hg) rfl rfl (px_lit hg rfl) rfl rfl rfl ⟨rfl, rfl⟩ ?_
    intro x119 h119
    refine px_riP rfl q_X11_about_122 rfl rfl rfl hg rfl trivial ⟨⟨rfl, rfl, rfl, rfl⟩, ?_⟩
    trivial
  by_cases s1_9 : w = 9
  · refine px_swI (tgt := 123) (off := 122) q_X11_about_1S s1_9 (by decide) (by decide) (by decide) (by decide) ?_
    refine px_riP rfl q_X11_about_123 rfl rfl rfl hg rfl trivial ⟨⟨rfl, rfl, rfl, rfl⟩, ?_⟩
    trivial
  by_cases s1_10 : w = 10
  · refine px_swI (tgt := 131) (off := 130) q_X11_about_1S s1_10 (by decide) (by decide) (by decide) (by decide) ?_
    refine px_riP rfl q_X11_about_131 rfl rfl rfl hg rfl trivial ⟨⟨rfl, rfl, rfl, rfl⟩, ?_⟩
    trivial
  refine px_swO (tgt := 139) q_X11_about_1S (px_out 0 10 (by decide) (fun k9 h8 h9 => ?_)) (by decide) ?_
  · match k9, h8, h9 with
    | 0, _, _ => exact s1_0
    | 1, _, _ => exact s1_1
    | 2, _, _ => exact s1_2
    | 3, _, _ => exact s1_3
    | 4, _, _ => exact s1_4
    | 5, _, _ => exact s1_5
    | 6, _, _ => exact s1_6
    | 7, _, _ => exact s1_7
    | 8, _, _ => exact s1_8
    | 9, _, _ => exact s1_9
    | 10, _, _ => exact s1_10
    | k9 + 11, _, h9 => exact absurd h9 (by omega)
  refine px_cSP rfl q_X11_about_139 hg rfl trivial lk_11_85 nm_X11_within (c_within hg _ _ _) rfl rfl rfl ⟨rfl, rfl⟩ ?_
  intro x144 h144
  refine px_eq rfl q_X11_about_147 hg rfl trivial (fun c147 => ?_) (fun c147 => ?_)
  · replace h144 := px_bf h144 c147
    refine px_riP rfl q_X11_about_164 rfl rfl rfl hg rfl trivial ⟨⟨rfl, rfl, rfl, rfl⟩, ?_⟩
    trivial
  · replace h144 := px_bt h144 c147
    refine px_cVP (ci := 0) rfl q_X11_about_150 hg rfl trivial lk_11_294 nm_X0_rowOf (c_rowOf hg _) rfl rfl (px_lit hg rfl) rfl rfl rfl ⟨rfl, rfl⟩ ?_
    intro x158 h158
    refine px_riP rfl q_X11_about_161 rfl rfl rfl hg rfl trivial ⟨⟨rfl, rfl, rfl, rfl⟩, ?_⟩
    trivial
