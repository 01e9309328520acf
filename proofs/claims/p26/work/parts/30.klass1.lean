/-! the class: small tests, stations and sights, counts -/
def cDL (L L2 : px_L) : Prop := ∀ b, b ≠ 40 → L2 b = L b
theorem cDL.u {L L1 : px_L} (h : cDL L L1) (k : Nat) (v : Int64) : cDL L (px_u L1 40 k v) := fun b h3 => by rw [px_u_ne h3]; exact h b h3
theorem cDL.trans {L L1 L2 : px_L} (h : cDL L L1) (h2 : cDL L1 L2) : cDL L L2 := fun b h3 => (h2 b h3).trans (h b h3)
def cSh (L : px_L) (f s m : Int32) : Prop := (0 ≤ f ∧ f < 24) ∧ (0 ≤ s ∧ s < 24) ∧ L 40 f.toNatClampNeg ≠ 1000000000000 ∧ L 40 f.toNatClampNeg + m.toInt64 < L 40 s.toNatClampNeg

theorem q_X11_within_0 : px_bk 11 3 cX11_within 0 [(.iload_n 0, (0, 0, 0, 0, 0), 0, 0), (.iload_n 1, (0, 0, 0, 0, 0), 0, 0)] = some 2 ∧ px_t2 cX11_within 2 .lt 14 = true := by decide +kernel
theorem q_X11_within_14 : px_bk 11 3 cX11_within 14 [(.iconst 0, (0, 0, 0, 0, 0), 0, 0)] = some 15 ∧ px_tr cX11_within 15 .ireturn = true := by decide +kernel
theorem q_X11_within_5 : px_bk 11 3 cX11_within 5 [(.iload_n 0, (0, 0, 0, 0, 0), 0, 0), (.iload_n 2, (0, 0, 0, 0, 0), 0, 0)] = some 7 ∧ px_t2 cX11_within 7 .gt 14 = true := by decide +kernel
theorem q_X11_within_10 : px_bk 11 3 cX11_within 10 [(.iconst 1, (0, 0, 0, 0, 0), 1, 0), (.goto 4, (0, 0, 0, 0, 0), 0, 0)] = some 15 ∧ px_tr cX11_within 15 .ireturn = true := by decide +kernel
set_option maxRecDepth 100000 in
theorem c_within {n : Nat} {I : px_I} {L : px_L} {R : px_R} (hg : px_G n R) (x a b : Int32) : px_KP M_X11_within [.int x, .int a, .int b] n I L R (fun r => (r = 1 ∧ (a ≤ x ∧ x ≤ b)) ∨ (r = 0 ∧ ¬ (a ≤ x ∧ x ≤ b))) := by
  refine px_of (plainFor_of_name np_RX11) (fun _ _ _ => trivial) rfl ?_
  refine px_ilt rfl q_X11_within_0 hg rfl trivial (fun c2 => ?_) (fun c2 => ?_)
  · refine px_rzP rfl q_X11_within_14 rfl rfl rfl hg rfl trivial ⟨⟨rfl, rfl, rfl, rfl⟩, (by first | exact Or.inl rfl | exact Or.inr rfl | grind), ?_⟩
    grind
  · refine px_igt rfl q_X11_within_5 hg rfl trivial (fun c7 => ?_) (fun c7 => ?_)
    · refine px_rzP rfl q_X11_within_14 rfl rfl rfl hg rfl trivial ⟨⟨rfl, rfl, rfl, rfl⟩, (by first | exact Or.inl rfl | exact Or.inr rfl | grind), ?_⟩
      grind
    · refine px_rzP rfl q_X11_within_10 rfl rfl rfl hg rfl trivial ⟨⟨rfl, rfl, rfl, rfl⟩, (by first | exact Or.inl rfl | exact Or.inr rfl | grind), ?_⟩
      grind

theorem q_X11_ordered_0 : px_bk 11 4 cX11_ordered 0 [(.iload_n 0, (0, 0, 0, 0, 0), 0, 0), (.iload_n 2, (0, 0, 0, 0, 0), 0, 0)] = some 2 ∧ px_t2 cX11_ordered 2 .lt 19 = true := by decide +kernel
theorem q_X11_ordered_19 : px_bk 11 4 cX11_ordered 19 [(.iconst 0, (0, 0, 0, 0, 0), 0, 0)] = some 20 ∧ px_tr cX11_ordered 20 .ireturn = true := by decide +kernel
theorem q_X11_ordered_5 : px_bk 11 4 cX11_ordered 5 [(.iload_n 0, (0, 0, 0, 0, 0), 0, 0), (.iload_n 1, (0, 0, 0, 0, 0), 0, 0)] = some 7 ∧ px_t2 cX11_ordered 7 .gt 19 = true := by decide +kernel
theorem q_X11_ordered_10 : px_bk 11 4 cX11_ordered 10 [(.iload_n 1, (0, 0, 0, 0, 0), 0, 0), (.iload_n 3, (0, 0, 0, 0, 0), 0, 0)] = some 12 ∧ px_t2 cX11_ordered 12 .gt 19 = true := by decide +kernel
theorem q_X11_ordered_15 : px_bk 11 4 cX11_ordered 15 [(.iconst 1, (0, 0, 0, 0, 0), 1, 0), (.goto 4, (0, 0, 0, 0, 0), 0, 0)] = some 20 ∧ px_tr cX11_ordered 20 .ireturn = true := by decide +kernel
set_option maxRecDepth 100000 in
theorem c_ordered {n : Nat} {I : px_I} {L : px_L} {R : px_R} (hg : px_G n R) (lo hi a b : Int32) : px_KP M_X11_ordered [.int lo, .int hi, .int a, .int b] n I L R (fun r => (r = 1 ∧ (a ≤ lo ∧ lo ≤ hi ∧ hi ≤ b)) ∨ (r = 0 ∧ ¬ (a ≤ lo ∧ lo ≤ hi ∧ hi ≤ b))) := by
  refine px_of (plainFor_of_name np_RX11) (fun _ _ _ => trivial) rfl ?_
  refine px_ilt rfl q_X11_ordered_0 hg rfl trivial (fun c2 => ?_) (fun c2 => ?_)
  · refine px_rzP rfl q_X11_ordered_19 rfl rfl rfl hg rfl trivial ⟨⟨rfl, rfl, rfl, rfl⟩, (by first | exact Or.inl rfl | exact Or.inr rfl | grind), ?_⟩
    grind
  · refine px_igt rfl q_X11_ordered_5 hg rfl trivial (fun c7 => ?_) (fun c7 => ?_)
    · refine px_rzP rfl q_X11_ordered_19 rfl rfl rfl hg rfl trivial ⟨⟨rfl, rfl, rfl, rfl⟩, (by first | exact Or.inl rfl | exact Or.inr rfl | grind), ?_⟩
      grind
    · refine px_igt rfl q_X11_ordered_10 hg rfl trivial (fun c12 => ?_) (fun c12 => ?_)
      · refine px_rzP rfl q_X11_ordered_19 rfl rfl rfl hg rfl trivial ⟨⟨rfl, rfl, rfl, rfl⟩, (by first | exact Or.inl rfl | exact Or.inr rfl | grind), ?_⟩
        grind
      · refine px_rzP rfl q_X11_ordered_15 rfl rfl rfl hg rfl trivial ⟨⟨rfl, rfl, rfl, rfl⟩, (by first | exact Or.inl rfl | exact Or.inr rfl | grind), ?_⟩
        grind

theorem q_X11_isAxis_0 : px_bk 11 1 cX11_isAxis 0 [(.iload_n 0, (0, 0, 0, 0, 0), 0, 0), (.iconst 0, (0, 0, 0, 0, 0), 0, 0), (.iconst 2, (0, 0, 0, 0, 0), 2, 0)] = some 3 ∧ px_tS cX11_isAxis 3 85 = true := by decide +kernel
theorem q_X11_isAxis_6 : px_bk 11 1 cX11_isAxis 6 [] = some 6 ∧ px_tr cX11_isAxis 6 .ireturn = true := by decide +kernel
set_option maxRecDepth 100000 in
theorem c_isAxis {n : Nat} {I : px_I} {L : px_L} {R : px_R} (hg : px_G n R) (x : Int32) : px_KP M_X11_isAxis [.int x] n I L R (fun r => (r = 1 ∧ (0 ≤ x ∧ x ≤ 2)) ∨ (r = 0 ∧ ¬ (0 ≤ x ∧ x ≤ 2))) := by
  refine px_of (plainFor_of_name np_RX11) (fun _ _ _ => trivial) rfl ?_
  refine px_cSP rfl q_X11_isAxis_0 hg rfl trivial lk_11_85 nm_X11_within (c_within hg _ _ _) rfl rfl rfl ⟨rfl, rfl⟩ ?_
  intro x3 h3
  refine px_rzP rfl q_X11_isAxis_6 rfl rfl rfl hg rfl trivial ⟨⟨rfl, rfl, rfl, rfl⟩, (by first | exact Or.inl rfl | exact Or.inr rfl | grind), ?_⟩
  grind

theorem q_X11_isDay_0 : px_bk 11 1 cX11_isDay 0 [(.iload_n 0, (0, 0, 0, 0, 0), 0, 0), (.iconst 0, (0, 0, 0, 0, 0), 0, 0), (.sipush 9999, (0, 0, 0, 0, 0), 9999, 0)] = some 5 ∧ px_tS cX11_isDay 5 85 = true := by decide +kernel
theorem q_X11_isDay_8 : px_bk 11 1 cX11_isDay 8 [] = some 8 ∧ px_tr cX11_isDay 8 .ireturn = true := by decide +kernel
set_option maxRecDepth 100000 in
theorem c_isDay {n : Nat} {I : px_I} {L : px_L} {R : px_R} (hg : px_G n R) (x : Int32) : px_KP M_X11_isDay [.int x] n I L R (fun r => (r = 1 ∧ (0 ≤ x ∧ x ≤ 9999)) ∨ (r = 0 ∧ ¬ (0 ≤ x ∧ x ≤ 9999))) := by
  refine px_of (plainFor_of_name np_RX11) (fun _ _ _ => trivial) rfl ?_
  refine px_cSP rfl q_X11_isDay_0 hg rfl trivial lk_11_85 nm_X11_within (c_within hg _ _ _) rfl rfl rfl ⟨rfl, rfl⟩ ?_
  intro x5 h5
  refine px_rzP rfl q_X11_isDay_8 rfl rfl rfl hg rfl trivial ⟨⟨rfl, rfl, rfl, rfl⟩, (by first | exact Or.inl rfl | exact Or.inr rfl | grind), ?_⟩
  grind

theorem q_X11_isHeading_0 : px_bk 11 1 cX11_isHeading 0 [(.iload_n 0, (0, 0, 0, 0, 0), 0, 0), (.iconst 0, (0, 0, 0, 0, 0), 0, 0), (.bipush 15, (0, 0, 0, 0, 0), 15, 0)] = some 4 ∧ px_tS cX11_isHeading 4 85 = true := by decide +kernel
theorem q_X11_isHeading_7 : px_bk 11 1 cX11_isHeading 7 [] = some 7 ∧ px_tr cX11_isHeading 7 .ireturn = true := by decide +kernel
set_option maxRecDepth 100000 in
theorem c_isHeading {n : Nat} {I : px_I} {L : px_L} {R : px_R} (hg : px_G n R) (x : Int32) : px_KP M_X11_isHeading [.int x] n I L R (fun r => (r = 1 ∧ (0 ≤ x ∧ x ≤ 15)) ∨ (r = 0 ∧ ¬ (0 ≤ x ∧ x ≤ 15))) := by
  refine px_of (plainFor_of_name np_RX11) (fun _ _ _ => trivial) rfl ?_
  refine px_cSP rfl q_X11_isHeading_0 hg rfl trivial lk_11_85 nm_X11_within (c_within hg _ _ _) rfl rfl rfl ⟨rfl, rfl⟩ ?_
  intro x4 h4
  refine px_rzP rfl q_X11_isHeading_7 rfl rfl rfl hg rfl trivial ⟨⟨rfl, rfl, rfl, rfl⟩, (by first | exact Or.inl rfl | exact Or.inr rfl | grind), ?_⟩
  grind

theorem q_X7_addStation_0 : px_bk 7 1 cX7_addStation 0 [(.aload_n 0, (0, 0, 0, 0, 0), 0, 0), (.getfield 34, (7, 7, 0, 0, 0), 0, 0), (.bipush 24, (0, 0, 0, 0, 0), 24, 0)] = some 6 ∧ px_t2 cX7_addStation 6 .lt 11 = true := by decide +kernel
theorem q_X7_addStation_11 : px_bk 7 1 cX7_addStation 11 [(.aload_n 0, (0, 0, 0, 0, 0), 0, 0), (.dup, (0, 0, 0, 0, 0), 0, 0), (.getfield 34, (7, 7, 0, 0, 0), 0, 0), (.iconst 1, (0, 0, 0, 0, 0), 1, 0), (.iadd, (0, 0, 0, 0, 0), 0, 0), (.putfield 34, (7, 7, 0, 0, 0), 0, 0), (.aload_n 0, (0, 0, 0, 0, 0), 0, 0), (.getfield 34, (7, 7, 0, 0, 0), 0, 0), (.iconst 1, (0, 0, 0, 0, 0), 1, 0), (.isub, (0, 0, 0, 0, 0), 0, 0)] = some 27 ∧ px_tr cX7_addStation 27 .ireturn = true := by decide +kernel
theorem q_X7_addStation_9 : px_bk 7 1 cX7_addStation 9 [(.iconst (-1), (0, 0, 0, 0, 0), -1, 0)] = some 10 ∧ px_tr cX7_addStation 10 .ireturn = true := by decide +kernel
set_option maxRecDepth 100000 in
theorem c_addStation {n : Nat} {I : px_I} {L : px_L} {R : px_R} (hg : px_G n R)  : px_KS M_X7_addStation [.ref 33] n I L R (fun r I2 L2 => L2 = L ∧ ((I 33 7 < 24 ∧ r = I 33 7 ∧ I2 = px_u I 33 7 (I 33 7 + 1)) ∨ (¬ I 33 7 < 24 ∧ r = -1 ∧ I2 = I))) := by
  refine px_of (plainFor_of_name np_RX7) (fun _ _ _ => trivial) rfl ?_
  refine px_ilt rfl q_X7_addStation_0 hg rfl trivial (fun c6 => ?_) (fun c6 => ?_)
  · refine px_riS rfl q_X7_addStation_11 rfl rfl rfl hg rfl trivial ⟨⟨rfl, rfl⟩, ?_⟩
    grind [px_u_at]
  · refine px_riS rfl q_X7_addStation_9 rfl rfl rfl hg rfl trivial ⟨⟨rfl, rfl⟩, ?_⟩
    grind [px_u_at]

theorem q_X7_has_0 : px_bk 7 2 cX7_has 0 [(.iload_n 1, (0, 0, 0, 0, 0), 0, 0)] = some 1 ∧ px_t1 cX7_has 1 .lt 16 = true := by decide +kernel
theorem q_X7_has_16 : px_bk 7 2 cX7_has 16 [(.iconst 0, (0, 0, 0, 0, 0), 0, 0)] = some 17 ∧ px_tr cX7_has 17 .ireturn = true := by decide +kernel
theorem q_X7_has_4 : px_bk 7 2 cX7_has 4 [(.iload_n 1, (0, 0, 0, 0, 0), 0, 0), (.aload_n 0, (0, 0, 0, 0, 0), 0, 0), (.getfield 34, (7, 7, 0, 0, 0), 0, 0)] = some 9 ∧ px_t2 cX7_has 9 .ge 16 = true := by decide +kernel
theorem q_X7_has_12 : px_bk 7 2 cX7_has 12 [(.iconst 1, (0, 0, 0, 0, 0), 1, 0), (.goto 4, (0, 0, 0, 0, 0), 0, 0)] = some 17 ∧ px_tr cX7_has 17 .ireturn = true := by decide +kernel
set_option maxRecDepth 100000 in
theorem c_has {n : Nat} {I : px_I} {L : px_L} {R : px_R} (hg : px_G n R) (x : Int32) : px_KP M_X7_has [.ref 33, .int x] n I L R (fun r => (r = 1 ∧ (0 ≤ x ∧ x < I 33 7)) ∨ (r = 0 ∧ ¬ (0 ≤ x ∧ x < I 33 7))) := by
  refine px_of (plainFor_of_name np_RX7) (fun _ _ _ => trivial) rfl ?_
  refine px_lt rfl q_X7_has_0 hg rfl trivial (fun c1 => ?_) (fun c1 => ?_)
  · refine px_rzP rfl q_X7_has_16 rfl rfl rfl hg rfl trivial ⟨⟨rfl, rfl, rfl, rfl⟩, (by first | exact Or.inl rfl | exact Or.inr rfl | grind), ?_⟩
    grind
  · refine px_ige rfl q_X7_has_4 hg rfl trivial (fun c9 => ?_) (fun c9 => ?_)
    · refine px_rzP rfl q_X7_has_16 rfl rfl rfl hg rfl trivial ⟨⟨rfl, rfl, rfl, rfl⟩, (by first | exact Or.inl rfl | exact Or.inr rfl | grind), ?_⟩
      grind
    · refine px_rzP rfl q_X7_has_12 rfl rfl rfl hg rfl trivial ⟨⟨rfl, rfl, rfl, rfl⟩, (by first | exact Or.inl rfl | exact Or.inr rfl | grind), ?_⟩
      grind

theorem q_X7_addSight_0 : px_bk 7 7 cX7_addSight 0 [(.aload_n 0, (0, 0, 0, 0, 0), 0, 0), (.getfield 38, (7, 8, 0, 0, 0), 0, 0), (.bipush 80, (0, 0, 0, 0, 0), 80, 0)] = some 6 ∧ px_t2 cX7_addSight 6 .lt 11 = true := by decide +kernel
theorem q_X7_addSight_11 : px_bk 7 7 cX7_addSight 11 [(.aload_n 0, (0, 0, 0, 0, 0), 0, 0), (.getfield 11, (7, 0, 3, 34, 0), 0, 0), (.aload_n 0, (0, 0, 0, 0, 0), 0, 0), (.getfield 38, (7, 8, 0, 0, 0), 0, 0), (.iload_n 1, (0, 0, 0, 0, 0), 0, 0), (.iastore, (0, 0, 0, 0, 0), 0, 0), (.aload_n 0, (0, 0, 0, 0, 0), 0, 0), (.getfield 15, (7, 1, 3, 35, 0), 0, 0), (.aload_n 0, (0, 0, 0, 0, 0), 0, 0), (.getfield 38, (7, 8, 0, 0, 0), 0, 0), (.iload_n 2, (0, 0, 0, 0, 0), 0, 0), (.iastore, (0, 0, 0, 0, 0), 0, 0), (.aload_n 0, (0, 0, 0, 0, 0), 0, 0), (.getfield 18, (7, 2, 3, 36, 0), 0, 0), (.aload_n 0, (0, 0, 0, 0, 0), 0, 0), (.getfield 38, (7, 8, 0, 0, 0), 0, 0), (.iload_n 3, (0, 0, 0, 0, 0), 0, 0), (.iastore, (0, 0, 0, 0, 0), 0, 0), (.aload_n 0, (0, 0, 0, 0, 0), 0, 0), (.getfield 21, (7, 3, 3, 37, 0), 0, 0), (.aload_n 0, (0, 0, 0, 0, 0), 0, 0), (.getfield 38, (7, 8, 0, 0, 0), 0, 0), (.iload 4, (0, 0, 0, 0, 0), 0, 0), (.iastore, (0, 0, 0, 0, 0), 0, 0), (.aload_n 0, (0, 0, 0, 0, 0), 0, 0), (.getfield 24, (7, 4, 3, 38, 0), 0, 0), (.aload_n 0, (0, 0, 0, 0, 0), 0, 0), (.getfield 38, (7, 8, 0, 0, 0), 0, 0), (.iload 5, (0, 0, 0, 0, 0), 0, 0), (.iastore, (0, 0, 0, 0, 0), 0, 0), (.aload_n 0, (0, 0, 0, 0, 0), 0, 0), (.getfield 27, (7, 5, 3, 39, 0), 0, 0), (.aload_n 0, (0, 0, 0, 0, 0), 0, 0), (.getfield 38, (7, 8, 0, 0, 0), 0, 0), (.iload 6, (0, 0, 0, 0, 0), 0, 0), (.iastore, (0, 0, 0, 0, 0), 0, 0), (.aload_n 0, (0, 0, 0, 0, 0), 0, 0), (.dup, (0, 0, 0, 0, 0), 0, 0), (.getfield 38, (7, 8, 0, 0, 0), 0, 0), (.iconst 1, (0, 0, 0, 0, 0), 1, 0), (.iadd, (0, 0, 0, 0, 0), 0, 0), (.putfield 38, (7, 8, 0, 0, 0), 0, 0), (.aload_n 0, (0, 0, 0, 0, 0), 0, 0), (.getfield 38, (7, 8, 0, 0, 0), 0, 0), (.iconst 1, (0, 0, 0, 0, 0), 1, 0), (.isub, (0, 0, 0, 0, 0), 0, 0)] = some 90 ∧ px_tr cX7_addSight 90 .ireturn = true := by decide +kernel
theorem q_X7_addSight_9 : px_bk 7 7 cX7_addSight 9 [(.iconst (-1), (0, 0, 0, 0, 0), -1, 0)] = some 10 ∧ px_tr cX7_addSight 10 .ireturn = true := by decide +kernel
set_option maxRecDepth 100000 in
theorem c_addSight {n : Nat} {I : px_I} {L : px_L} {R : px_R} (hg : px_G n R) (a f t lo hi d : Int32) (hs : 0 ≤ I 33 8) : px_KS M_X7_addSight [.ref 33, .int a, .int f, .int t, .int lo, .int hi, .int d] n I L R (fun r I2 L2 => L2 = L ∧ ((I 33 8 < 80 ∧ r = I 33 8 ∧ I2 = px_u (px_u (px_u (px_u (px_u (px_u (px_u I 34 (I 33 8).toNatClampNeg a) 35 (I 33 8).toNatClampNeg f) 36 (I 33 8).toNatClampNeg t) 37 (I 33 8).toNatClampNeg lo) 38 (I 33 8).toNatClampNeg hi) 39 (I 33 8).toNatClampNeg d) 33 8 (I 33 8 + 1)) ∨ (¬ I 33 8 < 80 ∧ r = -1 ∧ I2 = I))) := by
  refine px_of (plainFor_of_name np_RX7) (fun _ _ _ => trivial) rfl ?_
  refine px_ilt rfl q_X7_addSight_0 hg rfl trivial (fun c6 => ?_) (fun c6 => ?_)
  · refine px_riS rfl q_X7_addSight_11 rfl rfl rfl hg rfl ⟨⟨⟨⟨⟨⟨trivial, (by first | decide | (refine ⟨?_, ?_⟩ <;> grind) | grind)⟩, (by first | decide | (refine ⟨?_, ?_⟩ <;> grind) | grind)⟩, (by first | decide | (refine ⟨?_, ?_⟩ <;> grind) | grind)⟩, (by first | decide | (refine ⟨?_, ?_⟩ <;> grind) | grind)⟩, (by first | decide | (refine ⟨?_, ?_⟩ <;> grind) | grind)⟩, (by first | decide | (refine ⟨?_, ?_⟩ <;> grind) | grind)⟩ ⟨⟨rfl, rfl⟩, ?_⟩
    grind
  · refine px_riS rfl q_X7_addSight_9 rfl rfl rfl hg rfl trivial ⟨⟨rfl, rfl⟩, ?_⟩
    grind

theorem q_X7_counts_0 : px_bk 7 4 cX7_counts 0 [(.aload_n 0, (0, 0, 0, 0, 0), 0, 0), (.getfield 11, (7, 0, 3, 34, 0), 0, 0), (.iload_n 1, (0, 0, 0, 0, 0), 0, 0), (.iaload, (0, 0, 0, 0, 0), 0, 0), (.iload_n 2, (0, 0, 0, 0, 0), 0, 0)] = some 7 ∧ px_t2 cX7_counts 7 .ne 24 = true := by decide +kernel
theorem q_X7_counts_24 : px_bk 7 4 cX7_counts 24 [(.iconst 0, (0, 0, 0, 0, 0), 0, 0)] = some 25 ∧ px_tr cX7_counts 25 .ireturn = true := by decide +kernel
theorem q_X7_counts_10 : px_bk 7 4 cX7_counts 10 [(.aload_n 0, (0, 0, 0, 0, 0), 0, 0), (.getfield 27, (7, 5, 3, 39, 0), 0, 0), (.iload_n 1, (0, 0, 0, 0, 0), 0, 0), (.iaload, (0, 0, 0, 0, 0), 0, 0), (.iload_n 3, (0, 0, 0, 0, 0), 0, 0)] = some 17 ∧ px_t2 cX7_counts 17 .gt 24 = true := by decide +kernel
theorem q_X7_counts_20 : px_bk 7 4 cX7_counts 20 [(.iconst 1, (0, 0, 0, 0, 0), 1, 0), (.goto 4, (0, 0, 0, 0, 0), 0, 0)] = some 25 ∧ px_tr cX7_counts 25 .ireturn = true := by decide +kernel
set_option maxRecDepth 100000 in
theorem c_counts {n : Nat} {I : px_I} {L : px_L} {R : px_R} (hg : px_G n R) (s a k : Int32) (hs : 0 ≤ s ∧ s < 80) : px_KP M_X7_counts [.ref 33, .int s, .int a, .int k] n I L R (fun r => (r = 1 ∧ (I 34 s.toNatClampNeg = a ∧ I 39 s.toNatClampNeg ≤ k)) ∨ (r = 0 ∧ ¬ (I 34 s.toNatClampNeg = a ∧ I 39 s.toNatClampNeg ≤ k))) := by
  refine px_of (plainFor_of_name np_RX7) (fun _ _ _ => trivial) rfl ?_
  refine px_ine rfl q_X7_counts_0 hg rfl ⟨trivial, (by first | decide | (refine ⟨?_, ?_⟩ <;> grind) | grind)⟩ (fun c7 => ?_) (fun c7 => ?_)
  · refine px_rzP rfl q_X7_counts_24 rfl rfl rfl hg rfl trivial ⟨⟨rfl, rfl, rfl, rfl⟩, (by first | exact Or.inl rfl | exact Or.inr rfl | grind), ?_⟩
    grind
  · refine px_igt rfl q_X7_counts_10 hg rfl ⟨trivial, (by first | decide | (refine ⟨?_, ?_⟩ <;> grind) | grind)⟩ (fun c17 => ?_) (fun c17 => ?_)
    · refine px_rzP rfl q_X7_counts_24 rfl rfl rfl hg rfl trivial ⟨⟨rfl, rfl, rfl, rfl⟩, (by first | exact Or.inl rfl | exact Or.inr rfl | grind), ?_⟩
      grind
    · refine px_rzP rfl q_X7_counts_20 rfl rfl rfl hg rfl trivial ⟨⟨rfl, rfl, rfl, rfl⟩, (by first | exact Or.inl rfl | exact Or.inr rfl | grind), ?_⟩
      grind

theorem q_X7_shorten_0 : px_bk 7 4 cX7_shorten 0 [(.iload_n 1, (0, 0, 0, 0, 0), 0, 0)] = some 1 ∧ px_t1 cX7_shorten 1 .lt 20 = true := by decide +kernel
theorem q_X7_shorten_20 : px_bk 7 4 cX7_shorten 20 [(.iconst 0, (0, 0, 0, 0, 0), 0, 0)] = some 21 ∧ px_tr cX7_shorten 21 .ireturn = true := by decide +kernel
theorem q_X7_shorten_4 : px_bk 7 4 cX7_shorten 4 [(.iload_n 1, (0, 0, 0, 0, 0), 0, 0), (.bipush 24, (0, 0, 0, 0, 0), 24, 0)] = some 7 ∧ px_t2 cX7_shorten 7 .ge 20 = true := by decide +kernel
theorem q_X7_shorten_10 : px_bk 7 4 cX7_shorten 10 [(.iload_n 2, (0, 0, 0, 0, 0), 0, 0)] = some 11 ∧ px_t1 cX7_shorten 11 .lt 20 = true := by decide +kernel
theorem q_X7_shorten_14 : px_bk 7 4 cX7_shorten 14 [(.iload_n 2, (0, 0, 0, 0, 0), 0, 0), (.bipush 24, (0, 0, 0, 0, 0), 24, 0)] = some 17 ∧ px_t2 cX7_shorten 17 .lt 22 = true := by decide +kernel
theorem q_X7_shorten_22 : px_bk 7 4 cX7_shorten 22 [(.aload_n 0, (0, 0, 0, 0, 0), 0, 0), (.getfield 30, (7, 6, 3, 40, 0), 0, 0), (.iload_n 1, (0, 0, 0, 0, 0), 0, 0), (.laload, (0, 0, 0, 0, 0), 0, 0), (.ldc2_w 50, (0, 0, 0, 0, 0), 0, 1000000000000), (.lcmp, (0, 0, 0, 0, 0), 0, 0)] = some 32 ∧ px_t1 cX7_shorten 32 .eq 54 = true := by decide +kernel
theorem q_X7_shorten_54 : px_bk 7 4 cX7_shorten 54 [(.iconst 0, (0, 0, 0, 0, 0), 0, 0)] = some 55 ∧ px_tr cX7_shorten 55 .ireturn = true := by decide +kernel
theorem q_X7_shorten_35 : px_bk 7 4 cX7_shorten 35 [(.aload_n 0, (0, 0, 0, 0, 0), 0, 0), (.getfield 30, (7, 6, 3, 40, 0), 0, 0), (.iload_n 2, (0, 0, 0, 0, 0), 0, 0), (.laload, (0, 0, 0, 0, 0), 0, 0), (.aload_n 0, (0, 0, 0, 0, 0), 0, 0), (.getfield 30, (7, 6, 3, 40, 0), 0, 0), (.iload_n 1, (0, 0, 0, 0, 0), 0, 0), (.laload, (0, 0, 0, 0, 0), 0, 0), (.iload_n 3, (0, 0, 0, 0, 0), 0, 0), (.i2l, (0, 0, 0, 0, 0), 0, 0), (.ladd, (0, 0, 0, 0, 0), 0, 0), (.lcmp, (0, 0, 0, 0, 0), 0, 0)] = some 51 ∧ px_t1 cX7_shorten 51 .gt 56 = true := by decide +kernel
theorem q_X7_shorten_56 : px_bk 7 4 cX7_shorten 56 [(.aload_n 0, (0, 0, 0, 0, 0), 0, 0), (.getfield 30, (7, 6, 3, 40, 0), 0, 0), (.iload_n 2, (0, 0, 0, 0, 0), 0, 0), (.aload_n 0, (0, 0, 0, 0, 0), 0, 0), (.getfield 30, (7, 6, 3, 40, 0), 0, 0), (.iload_n 1, (0, 0, 0, 0, 0), 0, 0), (.laload, (0, 0, 0, 0, 0), 0, 0), (.iload_n 3, (0, 0, 0, 0, 0), 0, 0), (.i2l, (0, 0, 0, 0, 0), 0, 0), (.ladd, (0, 0, 0, 0, 0), 0, 0), (.lastore, (0, 0, 0, 0, 0), 0, 0), (.iconst 1, (0, 0, 0, 0, 0), 1, 0)] = some 72 ∧ px_tr cX7_shorten 72 .ireturn = true := by decide +kernel
set_option maxRecDepth 100000 in
theorem c_shorten {n : Nat} {I : px_I} {L : px_L} {R : px_R} (hg : px_G n R) (f s m : Int32) : px_KS M_X7_shorten [.ref 33, .int f, .int s, .int m] n I L R (fun r I2 L2 => I2 = I ∧ ((cSh L f s m ∧ r = 1 ∧ L2 = px_u L 40 s.toNatClampNeg (L 40 f.toNatClampNeg + m.toInt64)) ∨ (¬ cSh L f s m ∧ r = 0 ∧ L2 = L))) := by
  refine px_of (plainFor_of_name np_RX7) (fun _ _ _ => trivial) rfl ?_
  refine px_lt rfl q_X7_shorten_0 hg rfl trivial (fun c1 => ?_) (fun c1 => ?_)
  · refine px_rzS rfl q_X7_shorten_20 rfl rfl rfl hg rfl trivial ⟨⟨rfl, rfl⟩, (by first | exact Or.inl rfl | exact Or.inr rfl | grind), ?_⟩
    first | exact ⟨rfl, Or.inr ⟨by unfold cSh; grind, rfl, rfl⟩⟩ | exact ⟨rfl, Or.inl ⟨by unfold cSh; grind, rfl, rfl⟩⟩
  · refine px_ige rfl q_X7_shorten_4 hg rfl trivial (fun c7 => ?_) (fun c7 => ?_)
    · refine px_rzS rfl q_X7_shorten_20 rfl rfl rfl hg rfl trivial ⟨⟨rfl, rfl⟩, (by first | exact Or.inl rfl | exact Or.inr rfl | grind), ?_⟩
      first | exact ⟨rfl, Or.inr ⟨by unfold cSh; grind, rfl, rfl⟩⟩ | exact ⟨rfl, Or.inl ⟨by unfold cSh; grind, rfl, rfl⟩⟩
    · refine px_lt rfl q_X7_shorten_10 hg rfl trivial (fun c11 => ?_) (fun c11 => ?_)
      · refine px_rzS rfl q_X7_shorten_20 rfl rfl rfl hg rfl trivial ⟨⟨rfl, rfl⟩, (by first | exact Or.inl rfl | exact Or.inr rfl | grind), ?_⟩
        first | exact ⟨rfl, Or.inr ⟨by unfold cSh; grind, rfl, rfl⟩⟩ | exact ⟨rfl, Or.inl ⟨by unfold cSh; grind, rfl, rfl⟩⟩
      · refine px_ilt rfl q_X7_shorten_14 hg rfl trivial (fun c17 => ?_) (fun c17 => ?_)
        · refine px_leq rfl q_X7_shorten_22 hg rfl ⟨trivial, (by first | decide | (refine ⟨?_, ?_⟩ <;> grind) | grind)⟩ (fun c32 => ?_) (fun c32 => ?_)
          · refine px_rzS rfl q_X7_shorten_54 rfl rfl rfl hg rfl trivial ⟨⟨rfl, rfl⟩, (by first | exact Or.inl rfl | exact Or.inr rfl | grind), ?_⟩
            first | exact ⟨rfl, Or.inr ⟨by unfold cSh; grind, rfl, rfl⟩⟩ | exact ⟨rfl, Or.inl ⟨by unfold cSh; grind, rfl, rfl⟩⟩
          · refine px_lgt rfl q_X7_shorten_35 hg rfl ⟨⟨trivial, (by first | decide | (refine ⟨?_, ?_⟩ <;> grind) | grind)⟩, (by first | decide | (refine ⟨?_, ?_⟩ <;> grind) | grind)⟩ (fun c51 => ?_) (fun c51 => ?_)
            · refine px_rzS rfl q_X7_shorten_56 rfl rfl rfl hg rfl ⟨⟨trivial, (by first | decide | (refine ⟨?_, ?_⟩ <;> grind) | grind)⟩, (by first | decide | (refine ⟨?_, ?_⟩ <;> grind) | grind)⟩ ⟨⟨rfl, rfl⟩, (by first | exact Or.inl rfl | exact Or.inr rfl | grind), ?_⟩
              first | exact ⟨rfl, Or.inr ⟨by unfold cSh; grind, rfl, rfl⟩⟩ | exact ⟨rfl, Or.inl ⟨by unfold cSh; grind, rfl, rfl⟩⟩
            · refine px_rzS rfl q_X7_shorten_54 rfl rfl rfl hg rfl trivial ⟨⟨rfl, rfl⟩, (by first | exact Or.inl rfl | exact Or.inr rfl | grind), ?_⟩
              first | exact ⟨rfl, Or.inr ⟨by unfold cSh; grind, rfl, rfl⟩⟩ | exact ⟨rfl, Or.inl ⟨by unfold cSh; grind, rfl, rfl⟩⟩
        · refine px_rzS rfl q_X7_shorten_20 rfl rfl rfl hg rfl trivial ⟨⟨rfl, rfl⟩, (by first | exact Or.inl rfl | exact Or.inr rfl | grind), ?_⟩
          first | exact ⟨rfl, Or.inr ⟨by unfold cSh; grind, rfl, rfl⟩⟩ | exact ⟨rfl, Or.inl ⟨by unfold cSh; grind, rfl, rfl⟩⟩

theorem cShD {L L2 : px_L} {r : Int32} {f s m : Int32} (h : (cSh L f s m ∧ r = 1 ∧ L2 = px_u L 40 s.toNatClampNeg (L 40 f.toNatClampNeg + m.toInt64)) ∨ (¬ cSh L f s m ∧ r = 0 ∧ L2 = L)) : cDL L L2 := by
  rcases h with ⟨-, -, rfl⟩ | ⟨-, -, rfl⟩
  · exact cDL.u (fun _ _ => rfl) _ _
  · exact fun _ _ => rfl

theorem q_X7_shortenAll_6 : px_bk 7 8 cX7_shortenAll 6 [(.iload 5, (0, 0, 0, 0, 0), 0, 0), (.aload_n 0, (0, 0, 0, 0, 0), 0, 0), (.getfield 38, (7, 8, 0, 0, 0), 0, 0)] = some 12 ∧ px_t2 cX7_shortenAll 12 .ge 115 = true := by decide +kernel
theorem q_X7_shortenAll_115 : px_bk 7 8 cX7_shortenAll 115 [(.iload 4, (0, 0, 0, 0, 0), 0, 0)] = some 117 ∧ px_tr cX7_shortenAll 117 .ireturn = true := by decide +kernel
theorem q_X7_shortenAll_15 : px_bk 7 8 cX7_shortenAll 15 [(.iload 5, (0, 0, 0, 0, 0), 0, 0), (.iload_n 3, (0, 0, 0, 0, 0), 0, 0)] = some 18 ∧ px_t2 cX7_shortenAll 18 .eq 109 = true := by decide +kernel
theorem q_X7_shortenAll_109 : px_bk 7 8 cX7_shortenAll 109 [(.iinc 5 1, (0, 0, 0, 0, 0), 1, 0), (.goto (-106), (0, 0, 0, 0, 0), 0, 0)] = some 6 := by decide +kernel
theorem q_X7_shortenAll_21 : px_bk 7 8 cX7_shortenAll 21 [(.aload_n 0, (0, 0, 0, 0, 0), 0, 0), (.iload 5, (0, 0, 0, 0, 0), 0, 0), (.iload_n 1, (0, 0, 0, 0, 0), 0, 0), (.iload_n 2, (0, 0, 0, 0, 0), 0, 0)] = some 26 ∧ px_tv cX7_shortenAll 26 52 = true := by decide +kernel
theorem q_X7_shortenAll_29 : px_bk 7 8 cX7_shortenAll 29 [] = some 29 ∧ px_t1 cX7_shortenAll 29 .eq 109 = true := by decide +kernel
theorem q_X7_shortenAll_32 : px_bk 7 8 cX7_shortenAll 32 [(.aload_n 0, (0, 0, 0, 0, 0), 0, 0), (.aload_n 0, (0, 0, 0, 0, 0), 0, 0), (.getfield 15, (7, 1, 3, 35, 0), 0, 0), (.iload 5, (0, 0, 0, 0, 0), 0, 0), (.iaload, (0, 0, 0, 0, 0), 0, 0), (.aload_n 0, (0, 0, 0, 0, 0), 0, 0), (.getfield 18, (7, 2, 3, 36, 0), 0, 0), (.iload 5, (0, 0, 0, 0, 0), 0, 0), (.iaload, (0, 0, 0, 0, 0), 0, 0), (.aload_n 0, (0, 0, 0, 0, 0), 0, 0), (.getfield 24, (7, 4, 3, 38, 0), 0, 0), (.iload 5, (0, 0, 0, 0, 0), 0, 0), (.iaload, (0, 0, 0, 0, 0), 0, 0)] = some 54 ∧ px_tv cX7_shortenAll 54 59 = true := by decide +kernel
theorem q_X7_shortenAll_57 : px_bk 7 8 cX7_shortenAll 57 [(.istore 6, (0, 0, 0, 0, 0), 0, 0), (.aload_n 0, (0, 0, 0, 0, 0), 0, 0), (.aload_n 0, (0, 0, 0, 0, 0), 0, 0), (.getfield 18, (7, 2, 3, 36, 0), 0, 0), (.iload 5, (0, 0, 0, 0, 0), 0, 0), (.iaload, (0, 0, 0, 0, 0), 0, 0), (.aload_n 0, (0, 0, 0, 0, 0), 0, 0), (.getfield 15, (7, 1, 3, 35, 0), 0, 0), (.iload 5, (0, 0, 0, 0, 0), 0, 0), (.iaload, (0, 0, 0, 0, 0), 0, 0), (.aload_n 0, (0, 0, 0, 0, 0), 0, 0), (.getfield 21, (7, 3, 3, 37, 0), 0, 0), (.iload 5, (0, 0, 0, 0, 0), 0, 0), (.iaload, (0, 0, 0, 0, 0), 0, 0), (.ineg, (0, 0, 0, 0, 0), 0, 0)] = some 82 ∧ px_tv cX7_shortenAll 82 59 = true := by decide +kernel
theorem q_X7_shortenAll_85 : px_bk 7 8 cX7_shortenAll 85 [(.istore 7, (0, 0, 0, 0, 0), 0, 0), (.iload 4, (0, 0, 0, 0, 0), 0, 0)] = some 89 ∧ px_t1 cX7_shortenAll 89 .ne 102 = true := by decide +kernel
theorem q_X7_shortenAll_102 : px_bk 7 8 cX7_shortenAll 102 [(.iconst 1, (0, 0, 0, 0, 0), 1, 0), (.goto 4, (0, 0, 0, 0, 0), 0, 0), (.istore 4, (0, 0, 0, 0, 0), 0, 0), (.iinc 5 1, (0, 0, 0, 0, 0), 1, 0), (.goto (-106), (0, 0, 0, 0, 0), 0, 0)] = some 6 := by decide +kernel
theorem q_X7_shortenAll_92 : px_bk 7 8 cX7_shortenAll 92 [(.iload 6, (0, 0, 0, 0, 0), 0, 0)] = some 94 ∧ px_t1 cX7_shortenAll 94 .ne 102 = true := by decide +kernel
theorem q_X7_shortenAll_97 : px_bk 7 8 cX7_shortenAll 97 [(.iload 7, (0, 0, 0, 0, 0), 0, 0)] = some 99 ∧ px_t1 cX7_shortenAll 99 .eq 106 = true := by decide +kernel
theorem q_X7_shortenAll_106 : px_bk 7 8 cX7_shortenAll 106 [(.iconst 0, (0, 0, 0, 0, 0), 0, 0), (.istore 4, (0, 0, 0, 0, 0), 0, 0), (.iinc 5 1, (0, 0, 0, 0, 0), 1, 0), (.goto (-106), (0, 0, 0, 0, 0), 0, 0)] = some 6 := by decide +kernel
set_option maxRecDepth 100000 in
theorem l_shortenAll {n : Nat} {R : px_R} (hg : px_G n R) {Q : px_Q} (a k w : Int32) {I : px_I} (L : px_L) (hs : 0 ≤ I 33 8 ∧ I 33 8 ≤ 80) (hq : ∀ r L2, (r = 0 ∨ r = 1) → cDL L L2 → Q (some (.int r)) n I L2 R) : ∀ i : Int32, i ≤ I 33 8 → 0 ≤ i → ∀ (b : Int32) (L1 : px_L), (b = 0 ∨ b = 1) → cDL L L1 → px M_X7_shortenAll 0 0 6 [(0, .ref 33), (1, .int a), (2, .int k), (3, .int w), (4, .int b), (5, .int i)] [] n I L1 R Q := by
  refine px_up _ (fun i ih hk => ?_)
  intro h0 b L1 hb h1
  refine px_ige rfl q_X7_shortenAll_6 hg rfl trivial (fun c12 => ?_) (fun c12 => ?_)
  · refine px_rz rfl q_X7_shortenAll_115 rfl rfl rfl hg rfl trivial (by first | exact Or.inl rfl | exact Or.inr rfl | grind) ?_
    exact hq _ _ hb h1
  · refine px_ieq rfl q_X7_shortenAll_15 hg rfl trivial (fun c18 => ?_) (fun c18 => ?_)
    · refine px_b rfl q_X7_shortenAll_109 hg rfl trivial ?_
      exact px_go (ih (i + 1) (by grind) (by grind) (by grind) _ _ (by first | assumption | exact Or.inl rfl | exact Or.inr rfl) (by first | exact h1 | exact (h1.trans (cShD h54)).trans (cShD h82))) ⟨rfl, rfl, rfl, rfl, rfl, rfl, trivial⟩
    · refine px_cVP (ci := 7) rfl q_X7_shortenAll_21 hg rfl trivial lk_7_52 nm_X7_counts (c_counts hg _ _ _ (by grind)) rfl rfl (px_lit hg rfl) rfl rfl rfl ⟨rfl, rfl⟩ ?_
      intro x26 h26
      refine px_eq rfl q_X7_shortenAll_29 hg rfl trivial (fun c29 => ?_) (fun c29 => ?_)
      · replace h26 := px_bf h26 c29
        refine px_b rfl q_X7_shortenAll_109 hg rfl trivial ?_
        exact px_go (ih (i + 1) (by grind) (by grind) (by grind) _ _ (by first | assumption | exact Or.inl rfl | exact Or.inr rfl) (by first | exact h1 | exact (h1.trans (cShD h54)).trans (cShD h82))) ⟨rfl, rfl, rfl, rfl, rfl, rfl, trivial⟩
      · replace h26 := px_bt h26 c29
        refine px_cVS (ci := 7) rfl q_X7_shortenAll_32 hg rfl ⟨⟨⟨trivial, (by first | decide | (refine ⟨?_, ?_⟩ <;> grind) | grind)⟩, (by first | decide | (refine ⟨?_, ?_⟩ <;> grind) | grind)⟩, (by first | decide | (refine ⟨?_, ?_⟩ <;> grind) | grind)⟩ lk_7_59 nm_X7_shorten (c_shorten hg _ _ _) rfl rfl (px_lit hg rfl) rfl rfl rfl ⟨rfl, rfl⟩ ?_
        intro x54 I54 L54 h54
        obtain ⟨rfl, h54⟩ := h54
        refine px_cVS (ci := 7) rfl q_X7_shortenAll_57 hg rfl ⟨⟨⟨trivial, (by first | decide | (refine ⟨?_, ?_⟩ <;> grind) | grind)⟩, (by first | decide | (refine ⟨?_, ?_⟩ <;> grind) | grind)⟩, (by first | decide | (refine ⟨?_, ?_⟩ <;> grind) | grind)⟩ lk_7_59 nm_X7_shorten (c_shorten hg _ _ _) rfl rfl (px_lit hg rfl) rfl rfl rfl ⟨rfl, rfl⟩ ?_
        intro x82 I82 L82 h82
        obtain ⟨rfl, h82⟩ := h82
        refine px_ne rfl q_X7_shortenAll_85 hg rfl trivial (fun c89 => ?_) (fun c89 => ?_)
        · refine px_b rfl q_X7_shortenAll_102 hg rfl trivial ?_
          exact px_go (ih (i + 1) (by grind) (by grind) (by grind) _ _ (by first | assumption | exact Or.inl rfl | exact Or.inr rfl) (by first | exact h1 | exact (h1.trans (cShD h54)).trans (cShD h82))) ⟨rfl, rfl, rfl, rfl, rfl, rfl, trivial⟩
        · refine px_ne rfl q_X7_shortenAll_92 hg rfl trivial (fun c94 => ?_) (fun c94 => ?_)
          · refine px_b rfl q_X7_shortenAll_102 hg rfl trivial ?_
            exact px_go (ih (i + 1) (by grind) (by grind) (by grind) _ _ (by first | assumption | exact Or.inl rfl | exact Or.inr rfl) (by first | exact h1 | exact (h1.trans (cShD h54)).trans (cShD h82))) ⟨rfl, rfl, rfl, rfl, rfl, rfl, trivial⟩
          · refine px_eq rfl q_X7_shortenAll_97 hg rfl trivial (fun c99 => ?_) (fun c99 => ?_)
            · refine px_b rfl q_X7_shortenAll_106 hg rfl trivial ?_
              exact px_go (ih (i + 1) (by grind) (by grind) (by grind) _ _ (by first | assumption | exact Or.inl rfl | exact Or.inr rfl) (by first | exact h1 | exact (h1.trans (cShD h54)).trans (cShD h82))) ⟨rfl, rfl, rfl, rfl, rfl, rfl, trivial⟩
            · refine px_b rfl q_X7_shortenAll_102 hg rfl trivial ?_
              exact px_go (ih (i + 1) (by grind) (by grind) (by grind) _ _ (by first | assumption | exact Or.inl rfl | exact Or.inr rfl) (by first | exact h1 | exact (h1.trans (cShD h54)).trans (cShD h82))) ⟨rfl, rfl, rfl, rfl, rfl, rfl, trivial⟩

theorem q_X7_shortenAll_0 : px_bk 7 8 cX7_shortenAll 0 [(.iconst 0, (0, 0, 0, 0, 0), 0, 0), (.istore 4, (0, 0, 0, 0, 0), 0, 0), (.iconst 0, (0, 0, 0, 0, 0), 0, 0), (.istore 5, (0, 0, 0, 0, 0), 0, 0)] = some 6 := by decide +kernel
set_option maxRecDepth 100000 in
theorem c_shortenAll {n : Nat} {I : px_I} {L : px_L} {R : px_R} (hg : px_G n R) (a k w : Int32) (hs : 0 ≤ I 33 8 ∧ I 33 8 ≤ 80) : px_KS M_X7_shortenAll [.ref 33, .int a, .int k, .int w] n I L R (fun r I2 L2 => (r = 0 ∨ r = 1) ∧ I2 = I ∧ cDL L L2) := by
  refine px_of (plainFor_of_name np_RX7) (fun _ _ _ => trivial) rfl ?_
  refine px_b rfl q_X7_shortenAll_0 hg rfl trivial ?_
  exact px_go (l_shortenAll hg a k w L hs (fun r L2 hr h => ⟨rfl, rfl, r, rfl, hr, rfl, h⟩) 0 hs.1 (by decide) 0 L (Or.inl rfl) (fun _ _ => rfl)) ⟨rfl, rfl, rfl, rfl, rfl, rfl, trivial⟩

theorem q_X7_settle_44 : px_bk 7 6 cX7_settle 44 [(.iload 5, (0, 0, 0, 0, 0), 0, 0), (.aload_n 0, (0, 0, 0, 0, 0), 0, 0), (.getfield 34, (7, 7, 0, 0, 0), 0, 0)] = some 50 ∧ px_t2 cX7_settle 50 .gt 72 = true := by decide +kernel
theorem q_X7_settle_72 : px_bk 7 6 cX7_settle 72 [(.iconst 0, (0, 0, 0, 0, 0), 0, 0)] = some 73 ∧ px_tr cX7_settle 73 .ireturn = true := by decide +kernel
theorem q_X7_settle_53 : px_bk 7 6 cX7_settle 53 [(.aload_n 0, (0, 0, 0, 0, 0), 0, 0), (.iload_n 1, (0, 0, 0, 0, 0), 0, 0), (.iload_n 2, (0, 0, 0, 0, 0), 0, 0), (.iload 4, (0, 0, 0, 0, 0), 0, 0)] = some 58 ∧ px_tv cX7_settle 58 56 = true := by decide +kernel
theorem q_X7_settle_61 : px_bk 7 6 cX7_settle 61 [] = some 61 ∧ px_t1 cX7_settle 61 .ne 66 = true := by decide +kernel
theorem q_X7_settle_66 : px_bk 7 6 cX7_settle 66 [(.iinc 5 1, (0, 0, 0, 0, 0), 1, 0), (.goto (-25), (0, 0, 0, 0, 0), 0, 0)] = some 44 := by decide +kernel
theorem q_X7_settle_64 : px_bk 7 6 cX7_settle 64 [(.iconst 1, (0, 0, 0, 0, 0), 1, 0)] = some 65 ∧ px_tr cX7_settle 65 .ireturn = true := by decide +kernel
set_option maxRecDepth 100000 in
theorem l_settle44 {n : Nat} {R : px_R} (hg : px_G n R) {Q : px_Q} (a k s w : Int32) {I : px_I} (L : px_L) (hs : 0 ≤ I 33 8 ∧ I 33 8 ≤ 80) (hn : I 33 7 ≤ 24) (hq : ∀ r L2, (r = 0 ∨ r = 1) → cDL L L2 → Q (some (.int r)) n I L2 R) : ∀ i : Int32, i ≤ 25 → 0 ≤ i → ∀ (L1 : px_L), cDL L L1 → px M_X7_settle 0 0 44 [(0, .ref 33), (1, .int a), (2, .int k), (3, .int s), (4, .int w), (5, .int i)] [] n I L1 R Q := by
  refine px_up _ (fun i ih hk => ?_)
  intro h0 L1 h1
  refine px_igt rfl q_X7_settle_44 hg rfl trivial (fun c50 => ?_) (fun c50 => ?_)
  · refine px_rz rfl q_X7_settle_72 rfl rfl rfl hg rfl trivial (by first | exact Or.inl rfl | exact Or.inr rfl | grind) ?_
    first | exact hq _ _ (Or.inr rfl) h58 | exact hq _ _ (Or.inl rfl) h1
  · refine px_cVS (ci := 7) rfl q_X7_settle_53 hg rfl trivial lk_7_56 nm_X7_shortenAll (c_shortenAll hg _ _ _ (by assumption)) rfl rfl (px_lit hg rfl) rfl rfl rfl ⟨rfl, rfl⟩ ?_
    intro x58 I58 L58 h58
    obtain ⟨hr, rfl, h58⟩ := h58
    replace h58 := h1.trans h58
    refine px_ne rfl q_X7_settle_61 hg rfl trivial (fun c61 => ?_) (fun c61 => ?_)
    · refine px_b rfl q_X7_settle_66 hg rfl trivial ?_
      exact px_go (ih (i + 1) (by grind) (by grind) (by grind) _ (by assumption)) ⟨rfl, rfl, rfl, rfl, rfl, rfl, trivial⟩
    · refine px_rz rfl q_X7_settle_64 rfl rfl rfl hg rfl trivial (by first | exact Or.inl rfl | exact Or.inr rfl | grind) ?_
      first | exact hq _ _ (Or.inr rfl) h58 | exact hq _ _ (Or.inl rfl) h1

theorem q_X7_settle_3 : px_bk 7 6 cX7_settle 3 [(.iload 5, (0, 0, 0, 0, 0), 0, 0), (.bipush 24, (0, 0, 0, 0, 0), 24, 0)] = some 7 ∧ px_t2 cX7_settle 7 .ge 41 = true := by decide +kernel
theorem q_X7_settle_41 : px_bk 7 6 cX7_settle 41 [(.iconst 0, (0, 0, 0, 0, 0), 0, 0), (.istore 5, (0, 0, 0, 0, 0), 0, 0)] = some 44 := by decide +kernel
theorem q_X7_settle_10 : px_bk 7 6 cX7_settle 10 [(.aload_n 0, (0, 0, 0, 0, 0), 0, 0), (.getfield 30, (7, 6, 3, 40, 0), 0, 0), (.iload 5, (0, 0, 0, 0, 0), 0, 0), (.iload_n 3, (0, 0, 0, 0, 0), 0, 0), (.iconst (-1), (0, 0, 0, 0, 0), -1, 0)] = some 18 ∧ px_t2 cX7_settle 18 .eq 27 = true := by decide +kernel
theorem q_X7_settle_27 : px_bk 7 6 cX7_settle 27 [(.lconst 0, (0, 0, 0, 0, 0), 0, 0), (.goto 6, (0, 0, 0, 0, 0), 0, 0), (.lastore, (0, 0, 0, 0, 0), 0, 0), (.iinc 5 1, (0, 0, 0, 0, 0), 1, 0), (.goto (-35), (0, 0, 0, 0, 0), 0, 0)] = some 3 := by decide +kernel
theorem q_X7_settle_21 : px_bk 7 6 cX7_settle 21 [(.iload 5, (0, 0, 0, 0, 0), 0, 0), (.iload_n 3, (0, 0, 0, 0, 0), 0, 0)] = some 24 ∧ px_t2 cX7_settle 24 .ne 31 = true := by decide +kernel
theorem q_X7_settle_31 : px_bk 7 6 cX7_settle 31 [(.ldc2_w 50, (0, 0, 0, 0, 0), 0, 1000000000000), (.lastore, (0, 0, 0, 0, 0), 0, 0), (.iinc 5 1, (0, 0, 0, 0, 0), 1, 0), (.goto (-35), (0, 0, 0, 0, 0), 0, 0)] = some 3 := by decide +kernel
set_option maxRecDepth 100000 in
theorem l_settle3 {n : Nat} {R : px_R} (hg : px_G n R) {Q : px_Q} (a k s w : Int32) {I : px_I} (L : px_L) (hs : 0 ≤ I 33 8 ∧ I 33 8 ≤ 80) (hn : I 33 7 ≤ 24) (hq : ∀ r L2, (r = 0 ∨ r = 1) → cDL L L2 → Q (some (.int r)) n I L2 R) : ∀ i : Int32, i ≤ 24 → 0 ≤ i → ∀ (L1 : px_L), cDL L L1 → px M_X7_settle 0 0 3 [(0, .ref 33), (1, .int a), (2, .int k), (3, .int s), (4, .int w), (5, .int i)] [] n I L1 R Q := by
  refine px_up _ (fun i ih hk => ?_)
  intro h0 L1 h1
  refine px_ige rfl q_X7_settle_3 hg rfl trivial (fun c7 => ?_) (fun c7 => ?_)
  · refine px_b rfl q_X7_settle_41 hg rfl trivial ?_
    exact px_go (l_settle44 hg a k s w L hs hn hq 0 (by decide) (by decide) L1 h1) ⟨rfl, rfl, rfl, rfl, rfl, rfl, trivial⟩
  · refine px_ieq rfl q_X7_settle_10 hg rfl trivial (fun c18 => ?_) (fun c18 => ?_)
    · refine px_b rfl q_X7_settle_27 hg rfl ⟨trivial, (by first | decide | (refine ⟨?_, ?_⟩ <;> grind) | grind)⟩ ?_
      exact px_go (ih (i + 1) (by grind) (by grind) (by grind) _ (h1.u _ _)) ⟨rfl, rfl, rfl, rfl, rfl, rfl, trivial⟩
    · refine px_ine rfl q_X7_settle_21 hg rfl trivial (fun c24 => ?_) (fun c24 => ?_)
      · refine px_b rfl q_X7_settle_31 hg rfl ⟨trivial, (by first | decide | (refine ⟨?_, ?_⟩ <;> grind) | grind)⟩ ?_
        exact px_go (ih (i + 1) (by grind) (by grind) (by grind) _ (h1.u _ _)) ⟨rfl, rfl, rfl, rfl, rfl, rfl, trivial⟩
      · refine px_b rfl q_X7_settle_27 hg rfl ⟨trivial, (by first | decide | (refine ⟨?_, ?_⟩ <;> grind) | grind)⟩ ?_
        exact px_go (ih (i + 1) (by grind) (by grind) (by grind) _ (h1.u _ _)) ⟨rfl, rfl, rfl, rfl, rfl, rfl, trivial⟩

theorem q_X7_settle_0 : px_bk 7 6 cX7_settle 0 [(.iconst 0, (0, 0, 0, 0, 0), 0, 0), (.istore 5, (0, 0, 0, 0, 0), 0, 0)] = some 3 := by decide +kernel
set_option maxRecDepth 100000 in
theorem c_settle {n : Nat} {I : px_I} {L : px_L} {R : px_R} (hg : px_G n R) (a k s w : Int32) (hs : 0 ≤ I 33 8 ∧ I 33 8 ≤ 80) (hn : I 33 7 ≤ 24) : px_KS M_X7_settle [.ref 33, .int a, .int k, .int s, .int w] n I L R (fun r I2 L2 => (r = 0 ∨ r = 1) ∧ I2 = I ∧ cDL L L2) := by
  refine px_of (plainFor_of_name np_RX7) (fun _ _ _ => trivial) rfl ?_
  refine px_b rfl q_X7_settle_0 hg rfl trivial ?_
  exact px_go (l_settle3 hg a k s w L hs hn (fun r L2 hr h => ⟨rfl, rfl, r, rfl, hr, rfl, h⟩) 0 (by decide) (by decide) L (fun _ _ => rfl)) ⟨rfl, rfl, rfl, rfl, rfl, rfl, trivial⟩

theorem q_X7_bound_0 : px_bk 7 8 cX7_bound 0 [(.aload_n 0, (0, 0, 0, 0, 0), 0, 0), (.iload_n 1, (0, 0, 0, 0, 0), 0, 0), (.iload 4, (0, 0, 0, 0, 0), 0, 0), (.iconst (-1), (0, 0, 0, 0, 0), -1, 0), (.iconst (-1), (0, 0, 0, 0, 0), -1, 0)] = some 6 ∧ px_tv cX7_bound 6 41 = true := by decide +kernel
theorem q_X7_bound_9 : px_bk 7 8 cX7_bound 9 [] = some 9 ∧ px_t1 cX7_bound 9 .ne 15 = true := by decide +kernel
theorem q_X7_bound_15 : px_bk 7 8 cX7_bound 15 [(.iload 5, (0, 0, 0, 0, 0), 0, 0)] = some 17 ∧ px_t1 cX7_bound 17 .eq 24 = true := by decide +kernel
theorem q_X7_bound_24 : px_bk 7 8 cX7_bound 24 [(.iload_n 3, (0, 0, 0, 0, 0), 0, 0), (.istore 6, (0, 0, 0, 0, 0), 0, 0), (.iload 5, (0, 0, 0, 0, 0), 0, 0)] = some 29 ∧ px_t1 cX7_bound 29 .eq 36 = true := by decide +kernel
theorem q_X7_bound_36 : px_bk 7 8 cX7_bound 36 [(.iload_n 2, (0, 0, 0, 0, 0), 0, 0), (.istore 7, (0, 0, 0, 0, 0), 0, 0), (.aload_n 0, (0, 0, 0, 0, 0), 0, 0), (.iload_n 1, (0, 0, 0, 0, 0), 0, 0), (.iload 4, (0, 0, 0, 0, 0), 0, 0), (.iload 6, (0, 0, 0, 0, 0), 0, 0), (.iconst (-1), (0, 0, 0, 0, 0), -1, 0)] = some 46 ∧ px_tv cX7_bound 46 41 = true := by decide +kernel
theorem q_X7_bound_49 : px_bk 7 8 cX7_bound 49 [(.pop, (0, 0, 0, 0, 0), 0, 0), (.aload_n 0, (0, 0, 0, 0, 0), 0, 0), (.iload 7, (0, 0, 0, 0, 0), 0, 0)] = some 53 ∧ px_tv cX7_bound 53 46 = true := by decide +kernel
theorem q_X7_bound_56 : px_bk 7 8 cX7_bound 56 [] = some 56 ∧ px_t1 cX7_bound 56 .eq 73 = true := by decide +kernel
theorem q_X7_bound_73 : px_bk 7 8 cX7_bound 73 [(.ldc 45, (0, 0, 0, 0, 0), -2000000000, 0)] = some 75 ∧ px_tr cX7_bound 75 .ireturn = true := by decide +kernel
theorem q_X7_bound_59 : px_bk 7 8 cX7_bound 59 [(.aload_n 0, (0, 0, 0, 0, 0), 0, 0), (.getfield 30, (7, 6, 3, 40, 0), 0, 0), (.iload 7, (0, 0, 0, 0, 0), 0, 0), (.laload, (0, 0, 0, 0, 0), 0, 0), (.ldc2_w 50, (0, 0, 0, 0, 0), 0, 1000000000000), (.lcmp, (0, 0, 0, 0, 0), 0, 0)] = some 70 ∧ px_t1 cX7_bound 70 .ne 76 = true := by decide +kernel
theorem q_X7_bound_76 : px_bk 7 8 cX7_bound 76 [(.iload 5, (0, 0, 0, 0, 0), 0, 0)] = some 78 ∧ px_t1 cX7_bound 78 .eq 91 = true := by decide +kernel
theorem q_X7_bound_91 : px_bk 7 8 cX7_bound 91 [(.aload_n 0, (0, 0, 0, 0, 0), 0, 0), (.getfield 30, (7, 6, 3, 40, 0), 0, 0), (.iload 7, (0, 0, 0, 0, 0), 0, 0), (.laload, (0, 0, 0, 0, 0), 0, 0), (.lneg, (0, 0, 0, 0, 0), 0, 0), (.l2i, (0, 0, 0, 0, 0), 0, 0)] = some 100 ∧ px_tr cX7_bound 100 .ireturn = true := by decide +kernel
theorem q_X7_bound_81 : px_bk 7 8 cX7_bound 81 [(.aload_n 0, (0, 0, 0, 0, 0), 0, 0), (.getfield 30, (7, 6, 3, 40, 0), 0, 0), (.iload 7, (0, 0, 0, 0, 0), 0, 0), (.laload, (0, 0, 0, 0, 0), 0, 0), (.goto 11, (0, 0, 0, 0, 0), 0, 0), (.l2i, (0, 0, 0, 0, 0), 0, 0)] = some 100 ∧ px_tr cX7_bound 100 .ireturn = true := by decide +kernel
theorem q_X7_bound_32 : px_bk 7 8 cX7_bound 32 [(.iload_n 3, (0, 0, 0, 0, 0), 0, 0), (.goto 4, (0, 0, 0, 0, 0), 0, 0), (.istore 7, (0, 0, 0, 0, 0), 0, 0), (.aload_n 0, (0, 0, 0, 0, 0), 0, 0), (.iload_n 1, (0, 0, 0, 0, 0), 0, 0), (.iload 4, (0, 0, 0, 0, 0), 0, 0), (.iload 6, (0, 0, 0, 0, 0), 0, 0), (.iconst (-1), (0, 0, 0, 0, 0), -1, 0)] = some 46 ∧ px_tv cX7_bound 46 41 = true := by decide +kernel
theorem q_X7_bound_20 : px_bk 7 8 cX7_bound 20 [(.iload_n 2, (0, 0, 0, 0, 0), 0, 0), (.goto 4, (0, 0, 0, 0, 0), 0, 0), (.istore 6, (0, 0, 0, 0, 0), 0, 0), (.iload 5, (0, 0, 0, 0, 0), 0, 0)] = some 29 ∧ px_t1 cX7_bound 29 .eq 36 = true := by decide +kernel
theorem q_X7_bound_12 : px_bk 7 8 cX7_bound 12 [(.ldc 45, (0, 0, 0, 0, 0), -2000000000, 0)] = some 14 ∧ px_tr cX7_bound 14 .ireturn = true := by decide +kernel
set_option maxRecDepth 100000 in
theorem c_bound {n : Nat} {I : px_I} {L : px_L} {R : px_R} (hg : px_G n R) (a f t k h : Int32) (hs : 0 ≤ I 33 8 ∧ I 33 8 ≤ 80) (hn : I 33 7 ≤ 24) : px_KS M_X7_bound [.ref 33, .int a, .int f, .int t, .int k, .int h] n I L R (fun r I2 L2 => I2 = I ∧ cDL L L2) := by
  refine px_of (plainFor_of_name np_RX7) (fun _ _ _ => trivial) rfl ?_
  refine px_cVS (ci := 7) rfl q_X7_bound_0 hg rfl trivial lk_7_41 nm_X7_settle (c_settle hg _ _ _ _ (by assumption) (by assumption)) rfl rfl (px_lit hg rfl) rfl rfl rfl ⟨rfl, rfl⟩ ?_
  intro x6 I6 L6 h6
  obtain ⟨hr6, rfl, h6⟩ := h6
  refine px_ne rfl q_X7_bound_9 hg rfl trivial (fun c9 => ?_) (fun c9 => ?_)
  · refine px_eq rfl q_X7_bound_15 hg rfl trivial (fun c17 => ?_) (fun c17 => ?_)
    · refine px_eq rfl q_X7_bound_24 hg rfl trivial (fun c29 => ?_) (fun c29 => ?_)
      · refine px_cVS (ci := 7) rfl q_X7_bound_36 hg rfl trivial lk_7_41 nm_X7_settle (c_settle hg _ _ _ _ (by assumption) (by assumption)) rfl rfl (px_lit hg rfl) rfl rfl rfl ⟨rfl, rfl⟩ ?_
        intro x46 I46 L46 h46
        obtain ⟨hr46, rfl, h46⟩ := h46
        refine px_cVP (ci := 7) rfl q_X7_bound_49 hg rfl trivial lk_7_46 nm_X7_has (c_has hg _) rfl rfl (px_lit hg rfl) rfl rfl rfl ⟨rfl, rfl⟩ ?_
        intro x53 h53
        refine px_eq rfl q_X7_bound_56 hg rfl trivial (fun c56 => ?_) (fun c56 => ?_)
        · replace h53 := px_bf h53 c56
          refine px_riS rfl q_X7_bound_73 rfl rfl rfl hg rfl trivial ⟨⟨rfl, rfl⟩, ?_⟩
          first | exact ⟨rfl, h6⟩ | exact ⟨rfl, h6.trans h46⟩
        · replace h53 := px_bt h53 c56
          refine px_lne rfl q_X7_bound_59 hg rfl ⟨trivial, (by first | decide | (refine ⟨?_, ?_⟩ <;> grind) | grind)⟩ (fun c70 => ?_) (fun c70 => ?_)
          · refine px_eq rfl q_X7_bound_76 hg rfl trivial (fun c78 => ?_) (fun c78 => ?_)
            · refine px_riS rfl q_X7_bound_91 rfl rfl rfl hg rfl ⟨trivial, (by first | decide | (refine ⟨?_, ?_⟩ <;> grind) | grind)⟩ ⟨⟨rfl, rfl⟩, ?_⟩
              first | exact ⟨rfl, h6⟩ | exact ⟨rfl, h6.trans h46⟩
            · refine px_riS rfl q_X7_bound_81 rfl rfl rfl hg rfl ⟨trivial, (by first | decide | (refine ⟨?_, ?_⟩ <;> grind) | grind)⟩ ⟨⟨rfl, rfl⟩, ?_⟩
              first | exact ⟨rfl, h6⟩ | exact ⟨rfl, h6.trans h46⟩
          · refine px_riS rfl q_X7_bound_73 rfl rfl rfl hg rfl trivial ⟨⟨rfl, rfl⟩, ?_⟩
            first | exact ⟨rfl, h6⟩ | exact ⟨rfl, h6.trans h46⟩
      · refine px_cVS (ci := 7) rfl q_X7_bound_32 hg rfl trivial lk_7_41 nm_X7_settle (c_settle hg _ _ _ _ (by assumption) (by assumption)) rfl rfl (px_lit hg rfl) rfl rfl rfl ⟨rfl, rfl⟩ ?_
        intro x46 I46 L46 h46
        obtain ⟨hr46, rfl, h46⟩ := h46
        refine px_cVP (ci := 7) rfl q_X7_bound_49 hg rfl trivial lk_7_46 nm_X7_has (c_has hg _) rfl rfl (px_lit hg rfl) rfl rfl rfl ⟨rfl, rfl⟩ ?_
        intro x53 h53
        refine px_eq rfl q_X7_bound_56 hg rfl trivial (fun c56 => ?_) (fun c56 => ?_)
        · replace h53 := px_bf h53 c56
          refine px_riS rfl q_X7_bound_73 rfl rfl rfl hg rfl trivial ⟨⟨rfl, rfl⟩, ?_⟩
          first | exact ⟨rfl, h6⟩ | exact ⟨rfl, h6.trans h46⟩
        · replace h53 := px_bt h53 c56
          refine px_lne rfl q_X7_bound_59 hg rfl ⟨trivial, (by first | decide | (refine ⟨?_, ?_⟩ <;> grind) | grind)⟩ (fun c70 => ?_) (fun c70 => ?_)
          · refine px_eq rfl q_X7_bound_76 hg rfl trivial (fun c78 => ?_) (fun c78 => ?_)
            · refine px_riS rfl q_X7_bound_91 rfl rfl rfl hg rfl ⟨trivial, (by first | decide | (refine ⟨?_, ?_⟩ <;> grind) | grind)⟩ ⟨⟨rfl, rfl⟩, ?_⟩
              first | exact ⟨rfl, h6⟩ | exact ⟨rfl, h6.trans h46⟩
            · refine px_riS rfl q_X7_bound_81 rfl rfl rfl hg rfl ⟨trivial, (by first | decide | (refine ⟨?_, ?_⟩ <;> grind) | grind)⟩ ⟨⟨rfl, rfl⟩, ?_⟩
              first | exact ⟨rfl, h6⟩ | exact ⟨rfl, h6.trans h46⟩
          · refine px_riS rfl q_X7_bound_73 rfl rfl rfl hg rfl trivial ⟨⟨rfl, rfl⟩, ?_⟩
            first | exact ⟨rfl, h6⟩ | exact ⟨rfl, h6.trans h46⟩
    · refine px_eq rfl q_X7_bound_20 hg rfl trivial (fun c29 => ?_) (fun c29 => ?_)
      · refine px_cVS (ci := 7) rfl q_X7_bound_36 hg rfl trivial lk_7_41 nm_X7_settle (c_settle hg _ _ _ _ (by assumption) (by assumption)) rfl rfl (px_lit hg rfl) rfl rfl rfl ⟨rfl, rfl⟩ ?_
        intro x46 I46 L46 h46
        obtain ⟨hr46, rfl, h46⟩ := h46
        refine px_cVP (ci := 7) rfl q_X7_bound_49 hg rfl trivial lk_7_46 nm_X7_has (c_has hg _) rfl rfl (px_lit hg rfl) rfl rfl rfl ⟨rfl, rfl⟩ ?_
        intro x53 h53
        refine px_eq rfl q_X7_bound_56 hg rfl trivial (fun c56 => ?_) (fun c56 => ?_)
        · replace h53 := px_bf h53 c56
          refine px_riS rfl q_X7_bound_73 rfl rfl rfl hg rfl trivial ⟨⟨rfl, rfl⟩, ?_⟩
          first | exact ⟨rfl, h6⟩ | exact ⟨rfl, h6.trans h46⟩
        · replace h53 := px_bt h53 c56
          refine px_lne rfl q_X7_bound_59 hg rfl ⟨trivial, (by first | decide | (refine ⟨?_, ?_⟩ <;> grind) | grind)⟩ (fun c70 => ?_) (fun c70 => ?_)
          · refine px_eq rfl q_X7_bound_76 hg rfl trivial (fun c78 => ?_) (fun c78 => ?_)
            · refine px_riS rfl q_X7_bound_91 rfl rfl rfl hg rfl ⟨trivial, (by first | decide | (refine ⟨?_, ?_⟩ <;> grind) | grind)⟩ ⟨⟨rfl, rfl⟩, ?_⟩
              first | exact ⟨rfl, h6⟩ | exact ⟨rfl, h6.trans h46⟩
            · refine px_riS rfl q_X7_bound_81 rfl rfl rfl hg rfl ⟨trivial, (by first | decide | (refine ⟨?_, ?_⟩ <;> grind) | grind)⟩ ⟨⟨rfl, rfl⟩, ?_⟩
              first | exact ⟨rfl, h6⟩ | exact ⟨rfl, h6.trans h46⟩
          · refine px_riS rfl q_X7_bound_73 rfl rfl rfl hg rfl trivial ⟨⟨rfl, rfl⟩, ?_⟩
            first | exact ⟨rfl, h6⟩ | exact ⟨rfl, h6.trans h46⟩
      · refine px_cVS (ci := 7) rfl q_X7_bound_32 hg rfl trivial lk_7_41 nm_X7_settle (c_settle hg _ _ _ _ (by assumption) (by assumption)) rfl rfl (px_lit hg rfl) rfl rfl rfl ⟨rfl, rfl⟩ ?_
        intro x46 I46 L46 h46
        obtain ⟨hr46, rfl, h46⟩ := h46
        refine px_cVP (ci := 7) rfl q_X7_bound_49 hg rfl trivial lk_7_46 nm_X7_has (c_has hg _) rfl rfl (px_lit hg rfl) rfl rfl rfl ⟨rfl, rfl⟩ ?_
        intro x53 h53
        refine px_eq rfl q_X7_bound_56 hg rfl trivial (fun c56 => ?_) (fun c56 => ?_)
        · replace h53 := px_bf h53 c56
          refine px_riS rfl q_X7_bound_73 rfl rfl rfl hg rfl trivial ⟨⟨rfl, rfl⟩, ?_⟩
          first | exact ⟨rfl, h6⟩ | exact ⟨rfl, h6.trans h46⟩
        · replace h53 := px_bt h53 c56
          refine px_lne rfl q_X7_bound_59 hg rfl ⟨trivial, (by first | decide | (refine ⟨?_, ?_⟩ <;> grind) | grind)⟩ (fun c70 => ?_) (fun c70 => ?_)
          · refine px_eq rfl q_X7_bound_76 hg rfl trivial (fun c78 => ?_) (fun c78 => ?_)
            · refine px_riS rfl q_X7_bound_91 rfl rfl rfl hg rfl ⟨trivial, (by first | decide | (refine ⟨?_, ?_⟩ <;> grind) | grind)⟩ ⟨⟨rfl, rfl⟩, ?_⟩
              first | exact ⟨rfl, h6⟩ | exact ⟨rfl, h6.trans h46⟩
            · refine px_riS rfl q_X7_bound_81 rfl rfl rfl hg rfl ⟨trivial, (by first | decide | (refine ⟨?_, ?_⟩ <;> grind) | grind)⟩ ⟨⟨rfl, rfl⟩, ?_⟩
              first | exact ⟨rfl, h6⟩ | exact ⟨rfl, h6.trans h46⟩
          · refine px_riS rfl q_X7_bound_73 rfl rfl rfl hg rfl trivial ⟨⟨rfl, rfl⟩, ?_⟩
            first | exact ⟨rfl, h6⟩ | exact ⟨rfl, h6.trans h46⟩
  · refine px_riS rfl q_X7_bound_12 rfl rfl rfl hg rfl trivial ⟨⟨rfl, rfl⟩, ?_⟩
    first | exact ⟨rfl, h6⟩ | exact ⟨rfl, h6.trans h46⟩

theorem q_X7_culprit_19 : px_bk 7 6 cX7_culprit 19 [(.iload 5, (0, 0, 0, 0, 0), 0, 0), (.aload_n 0, (0, 0, 0, 0, 0), 0, 0), (.getfield 38, (7, 8, 0, 0, 0), 0, 0)] = some 25 ∧ px_t2 cX7_culprit 25 .ge 68 = true := by decide +kernel
theorem q_X7_culprit_68 : px_bk 7 6 cX7_culprit 68 [(.iconst (-1), (0, 0, 0, 0, 0), -1, 0)] = some 69 ∧ px_tr cX7_culprit 69 .ireturn = true := by decide +kernel
theorem q_X7_culprit_28 : px_bk 7 6 cX7_culprit 28 [(.aload_n 0, (0, 0, 0, 0, 0), 0, 0), (.iload 5, (0, 0, 0, 0, 0), 0, 0), (.iload_n 1, (0, 0, 0, 0, 0), 0, 0), (.iload_n 2, (0, 0, 0, 0, 0), 0, 0)] = some 33 ∧ px_tv cX7_culprit 33 52 = true := by decide +kernel
theorem q_X7_culprit_36 : px_bk 7 6 cX7_culprit 36 [] = some 36 ∧ px_t1 cX7_culprit 36 .eq 62 = true := by decide +kernel
theorem q_X7_culprit_62 : px_bk 7 6 cX7_culprit 62 [(.iinc 5 1, (0, 0, 0, 0, 0), 1, 0), (.goto (-46), (0, 0, 0, 0, 0), 0, 0)] = some 19 := by decide +kernel
theorem q_X7_culprit_39 : px_bk 7 6 cX7_culprit 39 [(.aload_n 0, (0, 0, 0, 0, 0), 0, 0), (.iload_n 1, (0, 0, 0, 0, 0), 0, 0), (.iload_n 2, (0, 0, 0, 0, 0), 0, 0), (.iconst (-1), (0, 0, 0, 0, 0), -1, 0), (.iload 5, (0, 0, 0, 0, 0), 0, 0)] = some 45 ∧ px_tv cX7_culprit 45 41 = true := by decide +kernel
theorem q_X7_culprit_48 : px_bk 7 6 cX7_culprit 48 [] = some 48 ∧ px_t1 cX7_culprit 48 .eq 62 = true := by decide +kernel
theorem q_X7_culprit_51 : px_bk 7 6 cX7_culprit 51 [(.iload 4, (0, 0, 0, 0, 0), 0, 0)] = some 53 ∧ px_t1 cX7_culprit 53 .ne 59 = true := by decide +kernel
theorem q_X7_culprit_59 : px_bk 7 6 cX7_culprit 59 [(.iinc 4 (-1), (0, 0, 0, 0, 0), -1, 0), (.iinc 5 1, (0, 0, 0, 0, 0), 1, 0), (.goto (-46), (0, 0, 0, 0, 0), 0, 0)] = some 19 := by decide +kernel
theorem q_X7_culprit_56 : px_bk 7 6 cX7_culprit 56 [(.iload 5, (0, 0, 0, 0, 0), 0, 0)] = some 58 ∧ px_tr cX7_culprit 58 .ireturn = true := by decide +kernel
set_option maxRecDepth 100000 in
theorem l_culprit {n : Nat} {R : px_R} (hg : px_G n R) {Q : px_Q} (a k i0 : Int32) {I : px_I} (L : px_L) (hs : 0 ≤ I 33 8 ∧ I 33 8 ≤ 80) (hn : I 33 7 ≤ 24) (hq : ∀ r L2, cDL L L2 → Q (some (.int r)) n I L2 R) : ∀ i : Int32, i ≤ I 33 8 → 0 ≤ i → ∀ (j : Int32) (L1 : px_L), cDL L L1 → px M_X7_culprit 0 0 19 [(0, .ref 33), (1, .int a), (2, .int k), (3, .int i0), (4, .int j), (5, .int i)] [] n I L1 R Q := by
  refine px_up _ (fun i ih hk => ?_)
  intro h0 j L1 h1
  refine px_ige rfl q_X7_culprit_19 hg rfl trivial (fun c25 => ?_) (fun c25 => ?_)
  · refine px_ri rfl q_X7_culprit_68 rfl rfl rfl hg rfl trivial ?_
    first | exact hq _ _ h1 | exact hq _ _ (h1.trans h45)
  · refine px_cVP (ci := 7) rfl q_X7_culprit_28 hg rfl trivial lk_7_52 nm_X7_counts (c_counts hg _ _ _ (by grind)) rfl rfl (px_lit hg rfl) rfl rfl rfl ⟨rfl, rfl⟩ ?_
    intro x33 h33
    refine px_eq rfl q_X7_culprit_36 hg rfl trivial (fun c36 => ?_) (fun c36 => ?_)
    · replace h33 := px_bf h33 c36
      refine px_b rfl q_X7_culprit_62 hg rfl trivial ?_
      first | exact px_go (ih (i + 1) (by grind) (by grind) (by grind) _ _ h1) ⟨rfl, rfl, rfl, rfl, rfl, rfl, trivial⟩ | exact px_go (ih (i + 1) (by grind) (by grind) (by grind) _ _ (h1.trans h45)) ⟨rfl, rfl, rfl, rfl, rfl, rfl, trivial⟩
    · replace h33 := px_bt h33 c36
      refine px_cVS (ci := 7) rfl q_X7_culprit_39 hg rfl trivial lk_7_41 nm_X7_settle (c_settle hg _ _ _ _ (by assumption) (by assumption)) rfl rfl (px_lit hg rfl) rfl rfl rfl ⟨rfl, rfl⟩ ?_
      intro x45 I45 L45 h45
      obtain ⟨hr45, rfl, h45⟩ := h45
      refine px_eq rfl q_X7_culprit_48 hg rfl trivial (fun c48 => ?_) (fun c48 => ?_)
      · refine px_b rfl q_X7_culprit_62 hg rfl trivial ?_
        first | exact px_go (ih (i + 1) (by grind) (by grind) (by grind) _ _ h1) ⟨rfl, rfl, rfl, rfl, rfl, rfl, trivial⟩ | exact px_go (ih (i + 1) (by grind) (by grind) (by grind) _ _ (h1.trans h45)) ⟨rfl, rfl, rfl, rfl, rfl, rfl, trivial⟩
      · refine px_ne rfl q_X7_culprit_51 hg rfl trivial (fun c53 => ?_) (fun c53 => ?_)
        · refine px_b rfl q_X7_culprit_59 hg rfl trivial ?_
          first | exact px_go (ih (i + 1) (by grind) (by grind) (by grind) _ _ h1) ⟨rfl, rfl, rfl, rfl, rfl, rfl, trivial⟩ | exact px_go (ih (i + 1) (by grind) (by grind) (by grind) _ _ (h1.trans h45)) ⟨rfl, rfl, rfl, rfl, rfl, rfl, trivial⟩
        · refine px_ri rfl q_X7_culprit_56 rfl rfl rfl hg rfl trivial ?_
          first | exact hq _ _ h1 | exact hq _ _ (h1.trans h45)

theorem q_X7_culprit_0 : px_bk 7 6 cX7_culprit 0 [(.aload_n 0, (0, 0, 0, 0, 0), 0, 0), (.iload_n 1, (0, 0, 0, 0, 0), 0, 0), (.iload_n 2, (0, 0, 0, 0, 0), 0, 0), (.iconst (-1), (0, 0, 0, 0, 0), -1, 0), (.iconst (-1), (0, 0, 0, 0, 0), -1, 0)] = some 5 ∧ px_tv cX7_culprit 5 41 = true := by decide +kernel
theorem q_X7_culprit_8 : px_bk 7 6 cX7_culprit 8 [] = some 8 ∧ px_t1 cX7_culprit 8 .eq 13 = true := by decide +kernel
theorem q_X7_culprit_13 : px_bk 7 6 cX7_culprit 13 [(.iload_n 3, (0, 0, 0, 0, 0), 0, 0), (.istore 4, (0, 0, 0, 0, 0), 0, 0), (.iconst 0, (0, 0, 0, 0, 0), 0, 0), (.istore 5, (0, 0, 0, 0, 0), 0, 0)] = some 19 := by decide +kernel
theorem q_X7_culprit_11 : px_bk 7 6 cX7_culprit 11 [(.iconst (-1), (0, 0, 0, 0, 0), -1, 0)] = some 12 ∧ px_tr cX7_culprit 12 .ireturn = true := by decide +kernel
set_option maxRecDepth 100000 in
theorem c_culprit {n : Nat} {I : px_I} {L : px_L} {R : px_R} (hg : px_G n R) (a k i : Int32) (hs : 0 ≤ I 33 8 ∧ I 33 8 ≤ 80) (hn : I 33 7 ≤ 24) : px_KS M_X7_culprit [.ref 33, .int a, .int k, .int i] n I L R (fun r I2 L2 => I2 = I ∧ cDL L L2) := by
  refine px_of (plainFor_of_name np_RX7) (fun _ _ _ => trivial) rfl ?_
  refine px_cVS (ci := 7) rfl q_X7_culprit_0 hg rfl trivial lk_7_41 nm_X7_settle (c_settle hg _ _ _ _ (by assumption) (by assumption)) rfl rfl (px_lit hg rfl) rfl rfl rfl ⟨rfl, rfl⟩ ?_
  intro x5 I5 L5 h5
  obtain ⟨hr5, rfl, h5⟩ := h5
  refine px_eq rfl q_X7_culprit_8 hg rfl trivial (fun c8 => ?_) (fun c8 => ?_)
  · refine px_b rfl q_X7_culprit_13 hg rfl trivial ?_
    exact px_go (l_culprit hg a k i L hs hn (fun r L2 h => ⟨rfl, rfl, r, rfl, rfl, h⟩) 0 hs.1 (by decide) i _ h5) ⟨rfl, rfl, rfl, rfl, rfl, rfl, trivial⟩
  · refine px_riS rfl q_X7_culprit_11 rfl rfl rfl hg rfl trivial ⟨⟨rfl, rfl⟩, ?_⟩
    exact ⟨rfl, h5⟩

theorem q_J9_max_7cf53_0 : px_bk 14 2 cJ9_max_7cf53 0 [(.iload_n 0, (0, 0, 0, 0, 0), 0, 0), (.iload_n 1, (0, 0, 0, 0, 0), 0, 0)] = some 2 ∧ px_t2 cJ9_max_7cf53 2 .lt 9 = true := by decide +kernel
theorem q_J9_max_7cf53_9 : px_bk 14 2 cJ9_max_7cf53 9 [(.iload_n 1, (0, 0, 0, 0, 0), 0, 0)] = some 10 ∧ px_tr cJ9_max_7cf53 10 .ireturn = true := by decide +kernel
theorem q_J9_max_7cf53_5 : px_bk 14 2 cJ9_max_7cf53 5 [(.iload_n 0, (0, 0, 0, 0, 0), 0, 0), (.goto 4, (0, 0, 0, 0, 0), 0, 0)] = some 10 ∧ px_tr cJ9_max_7cf53 10 .ireturn = true := by decide +kernel
set_option maxRecDepth 100000 in
theorem j_max {n : Nat} {I : px_I} {L : px_L} {R : px_R} (hg : px_G n R) (a b : Int32) : px_KP M_J9_max_7cf53 [.int a, .int b] n I L R (fun r => r = if a < b then b else a) := by
  refine px_of (pl_J9_max_7cf53) (fun _ _ _ => trivial) rfl ?_
  refine px_ilt rfl q_J9_max_7cf53_0 hg rfl trivial (fun c2 => ?_) (fun c2 => ?_)
  · refine px_riP rfl q_J9_max_7cf53_9 rfl rfl rfl hg rfl trivial ⟨⟨rfl, rfl, rfl, rfl⟩, ?_⟩
    grind
  · refine px_riP rfl q_J9_max_7cf53_5 rfl rfl rfl hg rfl trivial ⟨⟨rfl, rfl, rfl, rfl⟩, ?_⟩
    grind

theorem q_J9_min_7cf53_0 : px_bk 14 2 cJ9_min_7cf53 0 [(.iload_n 0, (0, 0, 0, 0, 0), 0, 0), (.iload_n 1, (0, 0, 0, 0, 0), 0, 0)] = some 2 ∧ px_t2 cJ9_min_7cf53 2 .gt 9 = true := by decide +kernel
theorem q_J9_min_7cf53_9 : px_bk 14 2 cJ9_min_7cf53 9 [(.iload_n 1, (0, 0, 0, 0, 0), 0, 0)] = some 10 ∧ px_tr cJ9_min_7cf53 10 .ireturn = true := by decide +kernel
theorem q_J9_min_7cf53_5 : px_bk 14 2 cJ9_min_7cf53 5 [(.iload_n 0, (0, 0, 0, 0, 0), 0, 0), (.goto 4, (0, 0, 0, 0, 0), 0, 0)] = some 10 ∧ px_tr cJ9_min_7cf53 10 .ireturn = true := by decide +kernel
set_option maxRecDepth 100000 in
theorem j_min {n : Nat} {I : px_I} {L : px_L} {R : px_R} (hg : px_G n R) (a b : Int32) : px_KP M_J9_min_7cf53 [.int a, .int b] n I L R (fun r => r = if b < a then b else a) := by
  refine px_of (pl_J9_min_7cf53) (fun _ _ _ => trivial) rfl ?_
  refine px_igt rfl q_J9_min_7cf53_0 hg rfl trivial (fun c2 => ?_) (fun c2 => ?_)
  · refine px_riP rfl q_J9_min_7cf53_9 rfl rfl rfl hg rfl trivial ⟨⟨rfl, rfl, rfl, rfl⟩, ?_⟩
    grind
  · refine px_riP rfl q_J9_min_7cf53_5 rfl rfl rfl hg rfl trivial ⟨⟨rfl, rfl, rfl, rfl⟩, ?_⟩
    grind

theorem q_J9_max_f86c9_0 : px_bk 14 4 cJ9_max_f86c9 0 [(.lload_n 0, (0, 0, 0, 0, 0), 0, 0), (.lload_n 2, (0, 0, 0, 0, 0), 0, 0), (.lcmp, (0, 0, 0, 0, 0), 0, 0)] = some 3 ∧ px_t1 cJ9_max_f86c9 3 .lt 10 = true := by decide +kernel
theorem q_J9_max_f86c9_10 : px_bk 14 4 cJ9_max_f86c9 10 [(.lload_n 2, (0, 0, 0, 0, 0), 0, 0)] = some 11 ∧ px_tr cJ9_max_f86c9 11 .lreturn = true := by decide +kernel
theorem q_J9_max_f86c9_6 : px_bk 14 4 cJ9_max_f86c9 6 [(.lload_n 0, (0, 0, 0, 0, 0), 0, 0), (.goto 4, (0, 0, 0, 0, 0), 0, 0)] = some 11 ∧ px_tr cJ9_max_f86c9 11 .lreturn = true := by decide +kernel
set_option maxRecDepth 100000 in
theorem j_maxL {n : Nat} {I : px_I} {L : px_L} {R : px_R} (hg : px_G n R) (a b : Int64) : px_KQ M_J9_max_f86c9 [.long a, .long b] n I L R (fun r => r = if a < b then b else a) := by
  refine px_of (pl_J9_max_f86c9) (fun _ _ _ => trivial) rfl ?_
  refine px_llt rfl q_J9_max_f86c9_0 hg rfl trivial (fun c3 => ?_) (fun c3 => ?_)
  · refine px_rlQ rfl q_J9_max_f86c9_10 rfl rfl rfl hg rfl trivial ⟨⟨rfl, rfl, rfl, rfl⟩, ?_⟩
    grind
  · refine px_rlQ rfl q_J9_max_f86c9_6 rfl rfl rfl hg rfl trivial ⟨⟨rfl, rfl, rfl, rfl⟩, ?_⟩
    grind

theorem q_J9_min_f86c9_0 : px_bk 14 4 cJ9_min_f86c9 0 [(.lload_n 0, (0, 0, 0, 0, 0), 0, 0), (.lload_n 2, (0, 0, 0, 0, 0), 0, 0), (.lcmp, (0, 0, 0, 0, 0), 0, 0)] = some 3 ∧ px_t1 cJ9_min_f86c9 3 .gt 10 = true := by decide +kernel
theorem q_J9_min_f86c9_10 : px_bk 14 4 cJ9_min_f86c9 10 [(.lload_n 2, (0, 0, 0, 0, 0), 0, 0)] = some 11 ∧ px_tr cJ9_min_f86c9 11 .lreturn = true := by decide +kernel
theorem q_J9_min_f86c9_6 : px_bk 14 4 cJ9_min_f86c9 6 [(.lload_n 0, (0, 0, 0, 0, 0), 0, 0), (.goto 4, (0, 0, 0, 0, 0), 0, 0)] = some 11 ∧ px_tr cJ9_min_f86c9 11 .lreturn = true := by decide +kernel
set_option maxRecDepth 100000 in
theorem j_minL {n : Nat} {I : px_I} {L : px_L} {R : px_R} (hg : px_G n R) (a b : Int64) : px_KQ M_J9_min_f86c9 [.long a, .long b] n I L R (fun r => r = if b < a then b else a) := by
  refine px_of (pl_J9_min_f86c9) (fun _ _ _ => trivial) rfl ?_
  refine px_lgt rfl q_J9_min_f86c9_0 hg rfl trivial (fun c3 => ?_) (fun c3 => ?_)
  · refine px_rlQ rfl q_J9_min_f86c9_10 rfl rfl rfl hg rfl trivial ⟨⟨rfl, rfl, rfl, rfl⟩, ?_⟩
    grind
  · refine px_rlQ rfl q_J9_min_f86c9_6 rfl rfl rfl hg rfl trivial ⟨⟨rfl, rfl, rfl, rfl⟩, ?_⟩
    grind

theorem q_J9_abs_0f7a4_0 : px_bk 14 1 cJ9_abs_0f7a4 0 [(.iload_n 0, (0, 0, 0, 0, 0), 0, 0)] = some 1 ∧ px_t1 cJ9_abs_0f7a4 1 .ge 9 = true := by decide +kernel
theorem q_J9_abs_0f7a4_9 : px_bk 14 1 cJ9_abs_0f7a4 9 [(.iload_n 0, (0, 0, 0, 0, 0), 0, 0)] = some 10 ∧ px_tr cJ9_abs_0f7a4 10 .ireturn = true := by decide +kernel
theorem q_J9_abs_0f7a4_4 : px_bk 14 1 cJ9_abs_0f7a4 4 [(.iload_n 0, (0, 0, 0, 0, 0), 0, 0), (.ineg, (0, 0, 0, 0, 0), 0, 0), (.goto 4, (0, 0, 0, 0, 0), 0, 0)] = some 10 ∧ px_tr cJ9_abs_0f7a4 10 .ireturn = true := by decide +kernel
set_option maxRecDepth 100000 in
theorem j_abs {n : Nat} {I : px_I} {L : px_L} {R : px_R} (hg : px_G n R) (a : Int32) : px_KP M_J9_abs_0f7a4 [.int a] n I L R (fun r => r = if a < 0 then 0 - a else a) := by
  refine px_of (pl_J9_abs_0f7a4) (fun _ _ _ => trivial) rfl ?_
  refine px_ge rfl q_J9_abs_0f7a4_0 hg rfl trivial (fun c1 => ?_) (fun c1 => ?_)
  · refine px_riP rfl q_J9_abs_0f7a4_9 rfl rfl rfl hg rfl trivial ⟨⟨rfl, rfl, rfl, rfl⟩, ?_⟩
    grind
  · refine px_riP rfl q_J9_abs_0f7a4_4 rfl rfl rfl hg rfl trivial ⟨⟨rfl, rfl, rfl, rfl⟩, ?_⟩
    grind

theorem q_J9_abs_067f4_0 : px_bk 14 2 cJ9_abs_067f4 0 [(.lload_n 0, (0, 0, 0, 0, 0), 0, 0), (.lconst 0, (0, 0, 0, 0, 0), 0, 0), (.lcmp, (0, 0, 0, 0, 0), 0, 0)] = some 3 ∧ px_t1 cJ9_abs_067f4 3 .ge 11 = true := by decide +kernel
theorem q_J9_abs_067f4_11 : px_bk 14 2 cJ9_abs_067f4 11 [(.lload_n 0, (0, 0, 0, 0, 0), 0, 0)] = some 12 ∧ px_tr cJ9_abs_067f4 12 .lreturn = true := by decide +kernel
theorem q_J9_abs_067f4_6 : px_bk 14 2 cJ9_abs_067f4 6 [(.lload_n 0, (0, 0, 0, 0, 0), 0, 0), (.lneg, (0, 0, 0, 0, 0), 0, 0), (.goto 4, (0, 0, 0, 0, 0), 0, 0)] = some 12 ∧ px_tr cJ9_abs_067f4 12 .lreturn = true := by decide +kernel
set_option maxRecDepth 100000 in
theorem j_absL {n : Nat} {I : px_I} {L : px_L} {R : px_R} (hg : px_G n R) (a : Int64) : px_KQ M_J9_abs_067f4 [.long a] n I L R (fun r => r = if a < 0 then -a else a) := by
  refine px_of (pl_J9_abs_067f4) (fun _ _ _ => trivial) rfl ?_
  refine px_lge rfl q_J9_abs_067f4_0 hg rfl trivial (fun c3 => ?_) (fun c3 => ?_)
  · refine px_rlQ rfl q_J9_abs_067f4_11 rfl rfl rfl hg rfl trivial ⟨⟨rfl, rfl, rfl, rfl⟩, ?_⟩
    grind
  · refine px_rlQ rfl q_J9_abs_067f4_6 rfl rfl rfl hg rfl trivial ⟨⟨rfl, rfl, rfl, rfl⟩, ?_⟩
    grind

theorem q_J9_floorDiv_f86c9_0 : px_bk 14 6 cJ9_floorDiv_f86c9 0 [(.lload_n 0, (0, 0, 0, 0, 0), 0, 0), (.lload_n 2, (0, 0, 0, 0, 0), 0, 0), (.ldiv, (0, 0, 0, 0, 0), 0, 0), (.lstore 4, (0, 0, 0, 0, 0), 0, 0), (.lload_n 0, (0, 0, 0, 0, 0), 0, 0), (.lload_n 2, (0, 0, 0, 0, 0), 0, 0), (.lxor, (0, 0, 0, 0, 0), 0, 0), (.lconst 0, (0, 0, 0, 0, 0), 0, 0), (.lcmp, (0, 0, 0, 0, 0), 0, 0)] = some 10 ∧ px_t1 cJ9_floorDiv_f86c9 10 .ge 27 = true := by decide +kernel
theorem q_J9_floorDiv_f86c9_27 : px_bk 14 6 cJ9_floorDiv_f86c9 27 [(.lload 4, (0, 0, 0, 0, 0), 0, 0)] = some 29 ∧ px_tr cJ9_floorDiv_f86c9 29 .lreturn = true := by decide +kernel
theorem q_J9_floorDiv_f86c9_13 : px_bk 14 6 cJ9_floorDiv_f86c9 13 [(.lload 4, (0, 0, 0, 0, 0), 0, 0), (.lload_n 2, (0, 0, 0, 0, 0), 0, 0), (.lmul, (0, 0, 0, 0, 0), 0, 0), (.lload_n 0, (0, 0, 0, 0, 0), 0, 0), (.lcmp, (0, 0, 0, 0, 0), 0, 0)] = some 19 ∧ px_t1 cJ9_floorDiv_f86c9 19 .eq 27 = true := by decide +kernel
theorem q_J9_floorDiv_f86c9_22 : px_bk 14 6 cJ9_floorDiv_f86c9 22 [(.lload 4, (0, 0, 0, 0, 0), 0, 0), (.lconst 1, (0, 0, 0, 0, 0), 0, 1), (.lsub, (0, 0, 0, 0, 0), 0, 0)] = some 26 ∧ px_tr cJ9_floorDiv_f86c9 26 .lreturn = true := by decide +kernel
set_option maxRecDepth 100000 in
theorem j_floorDiv {n : Nat} {I : px_I} {L : px_L} {R : px_R} (hg : px_G n R) (a b : Int64) (hb : ¬ b = 0) : px_KQ M_J9_floorDiv_f86c9 [.long a, .long b] n I L R (fun r => True) := by
  refine px_of (pl_J9_floorDiv_f86c9) (fun _ _ _ => trivial) rfl ?_
  refine px_lge rfl q_J9_floorDiv_f86c9_0 hg rfl ⟨trivial, (by assumption)⟩ (fun c10 => ?_) (fun c10 => ?_)
  · refine px_rlQ rfl q_J9_floorDiv_f86c9_27 rfl rfl rfl hg rfl trivial ⟨⟨rfl, rfl, rfl, rfl⟩, ?_⟩
    trivial
  · refine px_leq rfl q_J9_floorDiv_f86c9_13 hg rfl trivial (fun c19 => ?_) (fun c19 => ?_)
    · refine px_rlQ rfl q_J9_floorDiv_f86c9_27 rfl rfl rfl hg rfl trivial ⟨⟨rfl, rfl, rfl, rfl⟩, ?_⟩
      trivial
    · refine px_rlQ rfl q_J9_floorDiv_f86c9_22 rfl rfl rfl hg rfl trivial ⟨⟨rfl, rfl, rfl, rfl⟩, ?_⟩
      trivial

def cCf (I : px_I) (u lo : Int32) : Int32 := if I 69 1 < (1000 * lo + u - 1) / u then (1000 * lo + u - 1) / u else I 69 1
def cCt (I : px_I) (u hi : Int32) : Int32 := if 1000 * hi / u < I 69 2 then 1000 * hi / u else I 69 2
def cCount (I : px_I) (u lo hi : Int32) : Prop := (I 69 0 < 30 ∧ (1 ≤ u ∧ u ≤ 9999) ∧ (1 ≤ lo ∧ lo ≤ hi ∧ hi ≤ 2000000)) ∧ cCf I u lo ≤ cCt I u hi

theorem q_X2_addCount_0 : px_bk 2 6 cX2_addCount 0 [(.aload_n 0, (0, 0, 0, 0, 0), 0, 0), (.getfield 9, (2, 0, 0, 0, 0), 0, 0), (.bipush 30, (0, 0, 0, 0, 0), 30, 0)] = some 6 ∧ px_t2 cX2_addCount 6 .ge 31 = true := by decide +kernel
theorem q_X2_addCount_31 : px_bk 2 6 cX2_addCount 31 [(.iconst (-1), (0, 0, 0, 0, 0), -1, 0)] = some 32 ∧ px_tr cX2_addCount 32 .ireturn = true := by decide +kernel
theorem q_X2_addCount_9 : px_bk 2 6 cX2_addCount 9 [(.iload_n 1, (0, 0, 0, 0, 0), 0, 0), (.iconst 1, (0, 0, 0, 0, 0), 1, 0), (.sipush 9999, (0, 0, 0, 0, 0), 9999, 0)] = some 14 ∧ px_tS cX2_addCount 14 22 = true := by decide +kernel
theorem q_X2_addCount_17 : px_bk 2 6 cX2_addCount 17 [] = some 17 ∧ px_t1 cX2_addCount 17 .eq 31 = true := by decide +kernel
theorem q_X2_addCount_20 : px_bk 2 6 cX2_addCount 20 [(.iload_n 2, (0, 0, 0, 0, 0), 0, 0), (.iload_n 3, (0, 0, 0, 0, 0), 0, 0), (.iconst 1, (0, 0, 0, 0, 0), 1, 0), (.ldc 26, (0, 0, 0, 0, 0), 2000000, 0)] = some 25 ∧ px_tS cX2_addCount 25 27 = true := by decide +kernel
theorem q_X2_addCount_28 : px_bk 2 6 cX2_addCount 28 [] = some 28 ∧ px_t1 cX2_addCount 28 .ne 33 = true := by decide +kernel
theorem q_X2_addCount_33 : px_bk 2 6 cX2_addCount 33 [(.aload_n 0, (0, 0, 0, 0, 0), 0, 0), (.getfield 15, (2, 1, 0, 0, 0), 0, 0), (.sipush 1000, (0, 0, 0, 0, 0), 1000, 0), (.iload_n 2, (0, 0, 0, 0, 0), 0, 0), (.imul, (0, 0, 0, 0, 0), 0, 0), (.iload_n 1, (0, 0, 0, 0, 0), 0, 0), (.iadd, (0, 0, 0, 0, 0), 0, 0), (.iconst 1, (0, 0, 0, 0, 0), 1, 0), (.isub, (0, 0, 0, 0, 0), 0, 0), (.iload_n 1, (0, 0, 0, 0, 0), 0, 0), (.idiv, (0, 0, 0, 0, 0), 0, 0)] = some 48 ∧ px_tS cX2_addCount 48 31 = true := by decide +kernel
theorem q_X2_addCount_51 : px_bk 2 6 cX2_addCount 51 [(.istore 4, (0, 0, 0, 0, 0), 0, 0), (.aload_n 0, (0, 0, 0, 0, 0), 0, 0), (.getfield 19, (2, 2, 0, 0, 0), 0, 0), (.sipush 1000, (0, 0, 0, 0, 0), 1000, 0), (.iload_n 3, (0, 0, 0, 0, 0), 0, 0), (.imul, (0, 0, 0, 0, 0), 0, 0), (.iload_n 1, (0, 0, 0, 0, 0), 0, 0), (.idiv, (0, 0, 0, 0, 0), 0, 0)] = some 64 ∧ px_tS cX2_addCount 64 37 = true := by decide +kernel
theorem q_X2_addCount_67 : px_bk 2 6 cX2_addCount 67 [(.istore 5, (0, 0, 0, 0, 0), 0, 0), (.iload 4, (0, 0, 0, 0, 0), 0, 0), (.iload 5, (0, 0, 0, 0, 0), 0, 0)] = some 73 ∧ px_t2 cX2_addCount 73 .le 78 = true := by decide +kernel
theorem q_X2_addCount_78 : px_bk 2 6 cX2_addCount 78 [(.aload_n 0, (0, 0, 0, 0, 0), 0, 0), (.iload 4, (0, 0, 0, 0, 0), 0, 0), (.putfield 15, (2, 1, 0, 0, 0), 0, 0), (.aload_n 0, (0, 0, 0, 0, 0), 0, 0), (.iload 5, (0, 0, 0, 0, 0), 0, 0), (.putfield 19, (2, 2, 0, 0, 0), 0, 0), (.aload_n 0, (0, 0, 0, 0, 0), 0, 0), (.dup, (0, 0, 0, 0, 0), 0, 0), (.getfield 9, (2, 0, 0, 0, 0), 0, 0), (.iconst 1, (0, 0, 0, 0, 0), 1, 0), (.iadd, (0, 0, 0, 0, 0), 0, 0), (.putfield 9, (2, 0, 0, 0, 0), 0, 0), (.aload_n 0, (0, 0, 0, 0, 0), 0, 0), (.getfield 9, (2, 0, 0, 0, 0), 0, 0)] = some 104 ∧ px_tr cX2_addCount 104 .ireturn = true := by decide +kernel
theorem q_X2_addCount_76 : px_bk 2 6 cX2_addCount 76 [(.iconst (-1), (0, 0, 0, 0, 0), -1, 0)] = some 77 ∧ px_tr cX2_addCount 77 .ireturn = true := by decide +kernel
set_option maxRecDepth 100000 in
theorem c_addCount {n : Nat} {I : px_I} {L : px_L} {R : px_R} (hg : px_G n R) (u lo hi : Int32) : px_KS M_X2_addCount [.ref 69, .int u, .int lo, .int hi] n I L R (fun r I2 L2 => L2 = L ∧ ((cCount I u lo hi ∧ r = I 69 0 + 1 ∧ I2 = px_u (px_u (px_u I 69 1 (cCf I u lo)) 69 2 (cCt I u hi)) 69 0 (I 69 0 + 1)) ∨ (¬ cCount I u lo hi ∧ r = -1 ∧ I2 = I))) := by
  refine px_of (plainFor_of_name np_RX2) (fun _ _ _ => trivial) rfl ?_
  refine px_ige rfl q_X2_addCount_0 hg rfl trivial (fun c6 => ?_) (fun c6 => ?_)
  · refine px_riS rfl q_X2_addCount_31 rfl rfl rfl hg rfl trivial ⟨⟨rfl, rfl⟩, ?_⟩
    first
    | exact ⟨rfl, Or.inr ⟨fun hc => by unfold cCount at hc; grind, rfl, rfl⟩⟩
    | exact ⟨rfl, Or.inr ⟨fun hc => by unfold cCount cCf cCt at hc; grind, rfl, rfl⟩⟩
    | exact ⟨rfl, Or.inl ⟨by unfold cCount cCf cCt; grind, rfl, by unfold cCf cCt; grind⟩⟩
  · refine px_cSNP rfl q_X2_addCount_9 hg rfl trivial lk_2_22 nm_X11_within (c_within hg _ _ _) rfl rfl rfl ⟨rfl, rfl⟩ ?_
    intro x14 h14
    refine px_eq rfl q_X2_addCount_17 hg rfl trivial (fun c17 => ?_) (fun c17 => ?_)
    · replace h14 := px_bf h14 c17
      refine px_riS rfl q_X2_addCount_31 rfl rfl rfl hg rfl trivial ⟨⟨rfl, rfl⟩, ?_⟩
      first
      | exact ⟨rfl, Or.inr ⟨fun hc => by unfold cCount at hc; grind, rfl, rfl⟩⟩
      | exact ⟨rfl, Or.inr ⟨fun hc => by unfold cCount cCf cCt at hc; grind, rfl, rfl⟩⟩
      | exact ⟨rfl, Or.inl ⟨by unfold cCount cCf cCt; grind, rfl, by unfold cCf cCt; grind⟩⟩
    · replace h14 := px_bt h14 c17
      refine px_cSNP rfl q_X2_addCount_20 hg rfl trivial lk_2_27 nm_X11_ordered (c_ordered hg _ _ _ _) rfl rfl rfl ⟨rfl, rfl⟩ ?_
      intro x25 h25
      refine px_ne rfl q_X2_addCount_28 hg rfl trivial (fun c28 => ?_) (fun c28 => ?_)
      · replace h25 := px_bt h25 c28
        refine px_cSP rfl q_X2_addCount_33 hg rfl ⟨trivial, (by grind)⟩ lk_2_31 nm_J9_max_7cf53 (j_max hg _ _) rfl rfl rfl ⟨rfl, rfl⟩ ?_
        intro x48 h48
        refine px_cSP rfl q_X2_addCount_51 hg rfl ⟨trivial, (by grind)⟩ lk_2_37 nm_J9_min_7cf53 (j_min hg _ _) rfl rfl rfl ⟨rfl, rfl⟩ ?_
        intro x64 h64
        refine px_ile rfl q_X2_addCount_67 hg rfl trivial (fun c73 => ?_) (fun c73 => ?_)
        · refine px_riS rfl q_X2_addCount_78 rfl rfl rfl hg rfl trivial ⟨⟨rfl, rfl⟩, ?_⟩
          first
          | exact ⟨rfl, Or.inr ⟨fun hc => by unfold cCount at hc; grind, rfl, rfl⟩⟩
          | exact ⟨rfl, Or.inr ⟨fun hc => by unfold cCount cCf cCt at hc; grind, rfl, rfl⟩⟩
          | exact ⟨rfl, Or.inl ⟨by unfold cCount cCf cCt; grind, rfl, by unfold cCf cCt; grind⟩⟩
        · refine px_riS rfl q_X2_addCount_76 rfl rfl rfl hg rfl trivial ⟨⟨rfl, rfl⟩, ?_⟩
          first
          | exact ⟨rfl, Or.inr ⟨fun hc => by unfold cCount at hc; grind, rfl, rfl⟩⟩
          | exact ⟨rfl, Or.inr ⟨fun hc => by unfold cCount cCf cCt at hc; grind, rfl, rfl⟩⟩
          | exact ⟨rfl, Or.inl ⟨by unfold cCount cCf cCt; grind, rfl, by unfold cCf cCt; grind⟩⟩
      · replace h25 := px_bf h25 c28
        refine px_riS rfl q_X2_addCount_31 rfl rfl rfl hg rfl trivial ⟨⟨rfl, rfl⟩, ?_⟩
        first
        | exact ⟨rfl, Or.inr ⟨fun hc => by unfold cCount at hc; grind, rfl, rfl⟩⟩
        | exact ⟨rfl, Or.inr ⟨fun hc => by unfold cCount cCf cCt at hc; grind, rfl, rfl⟩⟩
        | exact ⟨rfl, Or.inl ⟨by unfold cCount cCf cCt; grind, rfl, by unfold cCf cCt; grind⟩⟩
