def pbs_between (g p q h : Int32) (I : px_I) (L : px_L) : Int32 → px_I → px_L → Prop := (fun r I2 L2 => L2 = L ∧ bEI I I2 ∧ qB2 I g p q h r)

def pks_between (g p q h : Int32) (I : px_I) (L : px_L) : Int32 → px_I → px_L → Prop := (fun r I2 L2 => (mDI I I2 ∧ mDL L L2) ∧ qB3 I g p q h r)

theorem pbs_between.old {g p q h x : Int32} {I I2 : px_I} {L L2 : px_L} (hq9 : pbs_between g p q h I L x I2 L2) : pb_between g p q h I L x I2 L2 := ⟨hq9.1, hq9.2.1⟩
theorem pks_between.old {g p q h x : Int32} {I I2 : px_I} {L L2 : px_L} (hq9 : pks_between g p q h I L x I2 L2) : pk_between g p q h I L x I2 L2 := hq9.1
theorem jbs_between {n : Nat} {I : px_I} {L : px_L} {R : px_R} (hj : jJ n I R) (hx : gSm I 41 ∧ gSm I 55) (g p q h : Int32) : px_K M_X11_between [.ref 32, .int g, .int p, .int q, .int h] n I L R (jB n I L (pbs_between g p q h I L)) := jSk (bs_between hj.g g p q h hj.l hx.1 hx.2) hj (fun x I2 L2 h => by
  obtain ⟨rfl, h, -⟩ := h
  refine ⟨fun b j hc => ?_, fun _ _ _ => rfl⟩
  unfold kCell at hc
  rw [h b (by omega) (by omega) (by omega) (by omega)])
theorem jks_between {n : Nat} {I : px_I} {L : px_L} {R : px_R} (hj : jJ n I R) (g p q h : Int32) : px_K M_X12_between [.ref 103, .int g, .int p, .int q, .int h] n I L R (jK n I L R (pks_between g p q h I L)) := jKS (ks_between hj.g g p q h hj.m.2.2.2.1 hj.m.2.1) hj (fun x I2 L2 h => by
  replace h := h.1
  exact ⟨hj.m.cells (fun b j hc => h.1 b j (by unfold mCell at hc; omega)), fun b hb => funext fun j => h.1 b j (by omega), fun b hb => h.2 b (by omega)⟩)



set_option maxRecDepth 100000 in
theorem lcs_between {N : Nat} {xs : Nat → Int32} {n cu su : Nat} {I : px_I} {L : px_L} {R : px_R} {Q : px_Q} {i : Int32} (hi : lwI N i) (hcu : cu ≤ 490000) (hsu : su ≤ 6900000) (hj : jJ n I R) (hx : gSm I 41 ∧ gSm I 55) (he : ∀ (x : Int32) (n2 : Nat) I2 L2 (y : Int32) I3 L3, frB I I2 L L2 → pbs_between (ag xs i 1) (ag xs i 2) (ag xs i 3) (bo (ag xs i 4)) I L x I2 L2 → frK I2 I3 L2 L3 → pks_between (ag xs i 1) (ag xs i 2) (ag xs i 3) (bo (ag xs i 4)) I2 L2 y I3 L3 → x = y) (kk : ∀ (x : Int32) (n2 : Nat) I2 L2 R2 (y : Int32) I3 L3, jJ n2 I3 R2 → frB I I2 L L2 → pbs_between (ag xs i 1) (ag xs i 2) (ag xs i 3) (bo (ag xs i 4)) I L x I2 L2 → frK I2 I3 L2 L3 → pks_between (ag xs i 1) (ag xs i 2) (ag xs i 3) (bo (ag xs i 4)) I2 L2 y I3 L3 → px (M_law N xs) (cu + 3) (su + 404) 1868 (lwL i) [] n2 I3 L3 R2 Q) : px (M_law N xs) cu su 739 (lwL i) [] n I L R Q := by
  have hg := hj.g
  refine px_b (on := 13) rfl q_law_739 hg rfl trivial ?_
  refine px_argC q_law_740 hg hi (by decide) ?_
  refine px_argC q_law_745 hg hi (by decide) ?_
  refine px_argC q_law_750 hg hi (by decide) ?_
  refine px_argC q_law_755 hg hi (by decide) ?_
  refine px_boo q_law_760 rfl hg ?_
  refine px_kB q_law_768 lk_13_68 nm_X11_between (jbs_between hj hx _ _ _ _) rfl rfl hg rfl (rkL rfl rfl rfl rfl (by omega) (by omega) rfl) ?_
  intro x n2 I2 L2 R2 hj2 f1 p1
  have hg := hj2.g
  refine px_b (on := 13) rfl q_law_771 hg rfl trivial ?_
  refine px_argC q_law_772 hg hi (by decide) ?_
  refine px_argC q_law_777 hg hi (by decide) ?_
  refine px_argC q_law_782 hg hi (by decide) ?_
  refine px_argC q_law_787 hg hi (by decide) ?_
  refine px_boo q_law_792 rfl hg ?_
  refine px_kK q_law_800 lk_13_71 nm_X12_between (jks_between hj2 _ _ _ _) rfl rfl hg rfl (rkL rfl rfl rfl rfl (by show cu + 0 ≤ 500000; omega) (by show su + 0 ≤ 7000000; omega) rfl) ?_
  intro y I3 L3 hj3 f2 p2
  have hg := hj3.g
  refine px_ieq (on := 13) rfl q_law_803 hg rfl trivial (fun c => ?_) (fun c => ?_)
  · exact px_wid (cu2 := cu + 3) (su2 := su + 404) (by show cu + 0 + 0 ≤ cu + 3; omega) (by show su + 0 + 0 ≤ su + 404; omega) (kk x n2 I2 L2 R2 y I3 L3 hj3 f1 p1 f2 p2)
  · exact absurd (he x n2 I2 L2 y I3 L3 f1 p1 f2 p2) c
