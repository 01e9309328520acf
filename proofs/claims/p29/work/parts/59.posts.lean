def pbs_detour (a o h : Int32) (I : px_I) (L : px_L) : Int32 → px_I → px_L → Prop := (fun r I2 L2 => (I2 = I ∧ cSL L L2) ∧ ((((1 ≤ a ∧ a ≤ 40) ∧ (-20 ≤ o ∧ o ≤ 20)) ∧ r = cAns I a o h) ∨ (¬ ((1 ≤ a ∧ a ≤ 40) ∧ (-20 ≤ o ∧ o ≤ 20)) ∧ r = -1)))

def pks_detour (a o lo : Int32) (I : px_I) (L : px_L) : Int32 → px_I → px_L → Prop := (fun r I2 L2 => (I2 = I ∧ mNL L L2) ∧ ((((1 ≤ a ∧ a ≤ 40) ∧ (-20 ≤ o ∧ o ≤ 20)) ∧ r = mAns I a o lo) ∨ (¬ ((1 ≤ a ∧ a ≤ 40) ∧ (-20 ≤ o ∧ o ≤ 20)) ∧ r = -1)))

theorem pbs_detour.old {a o h x : Int32} {I I2 : px_I} {L L2 : px_L} (q : pbs_detour a o h I L x I2 L2) : pb_detour a o h I L x I2 L2 := q.1
theorem pks_detour.old {a o lo x : Int32} {I I2 : px_I} {L L2 : px_L} (q : pks_detour a o lo I L x I2 L2) : pk_detour a o lo I L x I2 L2 := q.1
theorem jbs_detour {n : Nat} {I : px_I} {L : px_L} {R : px_R} (hj : jJ n I R) (hx : 0 ≤ I 97 4 ∧ I 97 4 ≤ 3 ∧ 0 ≤ I 97 5 ∧ I 97 5 ≤ 20) (a o h : Int32) : px_K M_X11_detour [.ref 32, .int a, .int o, .int h] n I L R (jB n I L (pbs_detour a o h I L)) := by
  have key : ∀ {r : Option Value} {n2 : Nat} {I2 : px_I} {L2 : px_L} {R2 : px_R}, n2 = n ∧ I2 = I ∧ cSL L L2 ∧ (R2 = cRA R ∨ R2 = cRB R) ∧ (∃ x, r = some (.int x) ∧ ((((1 ≤ a ∧ a ≤ 40) ∧ (-20 ≤ o ∧ o ≤ 20)) ∧ x = cAns I a o h) ∨ (¬ ((1 ≤ a ∧ a ≤ 40) ∧ (-20 ≤ o ∧ o ≤ 20)) ∧ x = -1))) → jB n I L (pbs_detour a o h I L) r n2 I2 L2 R2 := fun {r n2 I2 L2 R2} ⟨h1, h2, h3, h4, x, h5, h6⟩ => by
    subst h1; subst h2
    exact ⟨x, h5, hj.R h4, Nat.le_refl _, ⟨fun _ _ _ => rfl, fun b h1 h2 => h3 b (by omega) (by omega)⟩, ⟨rfl, h3⟩, h6⟩
  have gA := cRA_G hj.g
  have gB := cRB_G hj.g
  have w1 : 0 ≤ I 97 4 ∧ I 97 4 ≤ 3 := ⟨hx.1, hx.2.1⟩
  have w2 : 0 ≤ I 97 5 ∧ I 97 5 ≤ 20 := hx.2.2
  rcases hj.2.2.2.1 with p | p
  · have := bs_detourA (I := I) (L := L) gA gB a o h w1 w2
    rw [cRA_id p] at this
    exact px_K.mono this (fun r n2 I2 L2 R2 q => key (by first | exact q | exact ⟨q.1, q.2.1, q.2.2.1, by rw [cRA_id p]; exact q.2.2.2.1, q.2.2.2.2⟩))
  · have := bs_detourB (I := I) (L := L) gB gA a o h w1 w2
    rw [cRB_id p] at this
    exact px_K.mono this (fun r n2 I2 L2 R2 q => key (by first | exact q | exact ⟨q.1, q.2.1, q.2.2.1, by rw [cRB_id p]; exact q.2.2.2.1, q.2.2.2.2⟩))
theorem jks_detour {n : Nat} {I : px_I} {L : px_L} {R : px_R} (hj : jJ n I R) (a o lo : Int32) : px_K M_X12_detour [.ref 103, .int a, .int o, .int lo] n I L R (jK n I L R (pks_detour a o lo I L)) := jKS (ks_detour hj.g a o lo hj.m.2.2.2.2.1) hj (fun x I2 L2 h => by
  obtain ⟨⟨rfl, h⟩, -⟩ := h
  exact ⟨hj.m, fun _ _ => rfl, fun b hb => h b (by omega) (by omega)⟩)



set_option maxRecDepth 100000 in
theorem lcs_detour {N : Nat} {xs : Nat → Int32} {n cu su : Nat} {I : px_I} {L : px_L} {R : px_R} {Q : px_Q} {i : Int32} (hi : lwI N i) (hcu : cu ≤ 490000) (hsu : su ≤ 6900000) (hj : jJ n I R) (hx : 0 ≤ I 97 4 ∧ I 97 4 ≤ 3 ∧ 0 ≤ I 97 5 ∧ I 97 5 ≤ 20) (he : ∀ (x : Int32) (n2 : Nat) I2 L2 (y : Int32) I3 L3, frB I I2 L L2 → pbs_detour (ag xs i 1) (ag xs i 2) (bo (ag xs i 3)) I L x I2 L2 → frK I2 I3 L2 L3 → pks_detour (ag xs i 1) (ag xs i 2) (bo (ag xs i 3)) I2 L2 y I3 L3 → x = y) (kk : ∀ (x : Int32) (n2 : Nat) I2 L2 R2 (y : Int32) I3 L3, jJ n2 I3 R2 → frB I I2 L L2 → pbs_detour (ag xs i 1) (ag xs i 2) (bo (ag xs i 3)) I L x I2 L2 → frK I2 I3 L2 L3 → pks_detour (ag xs i 1) (ag xs i 2) (bo (ag xs i 3)) I2 L2 y I3 L3 → px (M_law N xs) (cu + 3) (su + 404) 1868 (lwL i) [] n2 I3 L3 R2 Q) : px (M_law N xs) cu su 1575 (lwL i) [] n I L R Q := by
  have hg := hj.g
  refine px_b (on := 13) rfl q_law_1575 hg rfl trivial ?_
  refine px_argC q_law_1576 hg hi (by decide) ?_
  refine px_argC q_law_1581 hg hi (by decide) ?_
  refine px_argC q_law_1586 hg hi (by decide) ?_
  refine px_boo q_law_1591 rfl hg ?_
  refine px_kB q_law_1599 lk_13_138 nm_X11_detour (jbs_detour hj hx _ _ _) rfl rfl hg rfl (rkL rfl rfl rfl rfl (by omega) (by omega) rfl) ?_
  intro x n2 I2 L2 R2 hj2 f1 p1
  have hg := hj2.g
  refine px_b (on := 13) rfl q_law_1602 hg rfl trivial ?_
  refine px_argC q_law_1603 hg hi (by decide) ?_
  refine px_argC q_law_1608 hg hi (by decide) ?_
  refine px_argC q_law_1613 hg hi (by decide) ?_
  refine px_boo q_law_1618 rfl hg ?_
  refine px_kK q_law_1626 lk_13_141 nm_X12_detour (jks_detour hj2 _ _ _) rfl rfl hg rfl (rkL rfl rfl rfl rfl (by show cu + 0 ≤ 500000; omega) (by show su + 0 ≤ 7000000; omega) rfl) ?_
  intro y I3 L3 hj3 f2 p2
  have hg := hj3.g
  refine px_ieq (on := 13) rfl q_law_1629 hg rfl trivial (fun c => ?_) (fun c => ?_)
  · exact px_wid (cu2 := cu + 3) (su2 := su + 404) (by show cu + 0 + 0 ≤ cu + 3; omega) (by show su + 0 + 0 ≤ su + 404; omega) (kk x n2 I2 L2 R2 y I3 L3 hj3 f1 p1 f2 p2)
  · exact absurd (he x n2 I2 L2 y I3 L3 f1 p1 f2 p2) c
