def pbs_chance (a o h : Int32) (I : px_I) (L : px_L) : Int64 → px_I → px_L → Prop := (fun r I2 L2 => (I2 = I ∧ cSL L L2) ∧ ((((1 ≤ a ∧ a ≤ 12) ∧ (-20 ≤ o ∧ o ≤ 20)) ∧ r = cShr I a o h) ∨ (¬ ((1 ≤ a ∧ a ≤ 12) ∧ (-20 ≤ o ∧ o ≤ 20)) ∧ r = -1)))

def pks_chance (a o lo : Int32) (I : px_I) (L : px_L) : Int64 → px_I → px_L → Prop := (fun r I2 L2 => (I2 = I ∧ mNL L L2) ∧ ((((1 ≤ a ∧ a ≤ 12) ∧ (-20 ≤ o ∧ o ≤ 20)) ∧ r = mSh I a o lo) ∨ (¬ ((1 ≤ a ∧ a ≤ 12) ∧ (-20 ≤ o ∧ o ≤ 20)) ∧ r = -1)))

theorem pbs_chance.old {a o h : Int32} {x : Int64} {I I2 : px_I} {L L2 : px_L} (q : pbs_chance a o h I L x I2 L2) : I2 = I ∧ cSL L L2 := q.1
theorem pks_chance.old {a o lo : Int32} {x : Int64} {I I2 : px_I} {L L2 : px_L} (q : pks_chance a o lo I L x I2 L2) : I2 = I ∧ mNL L L2 := q.1
theorem jbs_chance {n : Nat} {I : px_I} {L : px_L} {R : px_R} (hj : jJ n I R) (hx : cW I) (a o h : Int32) : px_K M_X11_chance [.ref 32, .int a, .int o, .int h] n I L R (fun r n2 I2 L2 R2 => ∃ x, r = some (.long x) ∧ jJ n2 I2 R2 ∧ n ≤ n2 ∧ frB I I2 L L2 ∧ pbs_chance a o h I L x I2 L2) := by
  have key : ∀ {r : Option Value} {n2 : Nat} {I2 : px_I} {L2 : px_L} {R2 : px_R}, n2 = n ∧ I2 = I ∧ cSL L L2 ∧ (R2 = cRA R ∨ R2 = cRB R) ∧ (∃ x, r = some (.long x) ∧ ((((1 ≤ a ∧ a ≤ 12) ∧ (-20 ≤ o ∧ o ≤ 20)) ∧ x = cShr I a o h) ∨ (¬ ((1 ≤ a ∧ a ≤ 12) ∧ (-20 ≤ o ∧ o ≤ 20)) ∧ x = -1))) → ∃ x, r = some (.long x) ∧ jJ n2 I2 R2 ∧ n ≤ n2 ∧ frB I I2 L L2 ∧ pbs_chance a o h I L x I2 L2 := fun {r n2 I2 L2 R2} ⟨h1, h2, h3, h4, x, h5, h6⟩ => by
    subst h1; subst h2
    exact ⟨x, h5, hj.R h4, Nat.le_refl _, ⟨fun _ _ _ => rfl, fun b h1 h2 => h3 b (by omega) (by omega)⟩, ⟨rfl, h3⟩, h6⟩
  have gA := cRA_G hj.g
  have gB := cRB_G hj.g
  rcases hj.2.2.2.1 with p | p
  · have := bs_chanceA (I := I) (L := L) gA gB a o h hx
    rw [cRA_id p] at this
    exact px_K.mono this (fun r n2 I2 L2 R2 q => key (by first | exact q | exact ⟨q.1, q.2.1, q.2.2.1, by rw [cRA_id p]; exact q.2.2.2.1, q.2.2.2.2⟩))
  · have := bs_chanceB (I := I) (L := L) gB gA a o h hx
    rw [cRB_id p] at this
    exact px_K.mono this (fun r n2 I2 L2 R2 q => key (by first | exact q | exact ⟨q.1, q.2.1, q.2.2.1, by rw [cRB_id p]; exact q.2.2.2.1, q.2.2.2.2⟩))
theorem jks_chance {n : Nat} {I : px_I} {L : px_L} {R : px_R} (hj : jJ n I R) (a o lo : Int32) : px_K M_X12_chance [.ref 103, .int a, .int o, .int lo] n I L R (fun r n2 I2 L2 R2 => ∃ x, r = some (.long x) ∧ n2 = n ∧ R2 = R ∧ jJ n I2 R ∧ frK I I2 L L2 ∧ pks_chance a o lo I L x I2 L2) :=
  px_K.mono (ks_chance hj.g a o lo hj.m.2.2.2.2.1) (fun r n2 I2 L2 R2 ⟨h1, h2, x, h3, ⟨h4, h5⟩, h6⟩ => by
    subst h4
    exact ⟨x, h3, h1, h2, hj, ⟨fun _ _ => rfl, fun b hb => h5 b (by omega) (by omega)⟩, ⟨rfl, h5⟩, h6⟩)



set_option maxRecDepth 100000 in
theorem lcs_chance {N : Nat} {xs : Nat → Int32} {n cu su : Nat} {I : px_I} {L : px_L} {R : px_R} {Q : px_Q} {i : Int32} (hi : lwI N i) (hcu : cu ≤ 490000) (hsu : su ≤ 6900000) (hj : jJ n I R) (hx : cW I) (he : ∀ (x : Int64) (n2 : Nat) I2 L2 (y : Int64) I3 L3, frB I I2 L L2 → pbs_chance (ag xs i 1) (ag xs i 2) (bo (ag xs i 3)) I L x I2 L2 → frK I2 I3 L2 L3 → pks_chance (ag xs i 1) (ag xs i 2) (bo (ag xs i 3)) I2 L2 y I3 L3 → x = y) (kk : ∀ (x : Int64) (n2 : Nat) I2 L2 R2 (y : Int64) I3 L3, jJ n2 I3 R2 → frB I I2 L L2 → pbs_chance (ag xs i 1) (ag xs i 2) (bo (ag xs i 3)) I L x I2 L2 → frK I2 I3 L2 L3 → pks_chance (ag xs i 1) (ag xs i 2) (bo (ag xs i 3)) I2 L2 y I3 L3 → px (M_law N xs) (cu + 3) (su + 404) 1869 (lwL i) [] n2 I3 L3 R2 Q) : px (M_law N xs) cu su 1516 (lwL i) [] n I L R Q := by
  have hg := hj.g
  refine px_b (on := 13) rfl q_law_1516 hg rfl trivial ?_
  refine px_argC q_law_1517 hg hi (by decide) ?_
  refine px_argC q_law_1522 hg hi (by decide) ?_
  refine px_argC q_law_1527 hg hi (by decide) ?_
  refine px_boo q_law_1532 rfl hg ?_
  refine px_kV (ci := 11) q_law_1540 lk_13_133 nm_X11_chance (jbs_chance hj hx _ _ _) rfl rfl (px_lit hg rfl) rfl rfl (rkL rfl rfl rfl rfl (by omega) (by omega) rfl) (fun r9 n2 I2 L2 R2 h9 => ?_)
  obtain ⟨x, rfl, hj2, -, f1, p1⟩ := h9
  have hg := hj2.g
  refine px_b (on := 13) rfl q_law_1543 hg rfl trivial ?_
  refine px_argC q_law_1544 hg hi (by decide) ?_
  refine px_argC q_law_1549 hg hi (by decide) ?_
  refine px_argC q_law_1554 hg hi (by decide) ?_
  refine px_boo q_law_1559 rfl hg ?_
  refine px_kV (ci := 12) q_law_1567 lk_13_137 nm_X12_chance (jks_chance hj2 _ _ _) rfl rfl (px_lit hg rfl) rfl rfl (rkL rfl rfl rfl rfl (by show cu + 0 ≤ 500000; omega) (by show su + 0 ≤ 7000000; omega) rfl) (fun r9 n3 I3 L3 R3 h9 => ?_)
  obtain ⟨y, rfl, hn, hR, hj3, f2, p2⟩ := h9
  rw [hn, hR]
  have hg := hj3.g
  refine px_leq (on := 13) rfl q_law_1570 hg rfl trivial (fun c => ?_) (fun c => ?_)
  · exact px_wid (cu2 := cu + 3) (su2 := su + 404) (by show cu + 0 + 0 ≤ cu + 3; omega) (by show su + 0 + 0 ≤ su + 404; omega) (kk x n2 I2 L2 R2 y I3 L3 hj3 f1 p1 f2 p2)
  · exact absurd (he x n2 I2 L2 y I3 L3 f1 p1 f2 p2) c
