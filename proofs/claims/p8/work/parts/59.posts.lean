def pbs_blamed (a k i : Int32) (I : px_I) (L : px_L) : Int32 → px_I → px_L → Prop := (fun r I2 L2 => (I2 = I ∧ cDL L L2) ∧ qBl (cGd I a k (-1)) (sT (I 34) (I 39) (cGd I a k) a k) (I 33 8).toNatClampNeg a k i r)

def pks_blamed (a k i : Int32) (I : px_I) (L : px_L) : Int32 → px_I → px_L → Prop := (fun r I2 L2 => (mDI I I2 ∧ mDL L L2) ∧ qBl (mGd I a k (-1)) (sT (I 104) (I 109) (mGd I a k) a k) (I 103 2).toNatClampNeg a k i r)

theorem pbs_blamed.old {a k i x : Int32} {I I2 : px_I} {L L2 : px_L} (q : pbs_blamed a k i I L x I2 L2) : pb_blamed a k i I L x I2 L2 := q.1
theorem pks_blamed.old {a k i x : Int32} {I I2 : px_I} {L L2 : px_L} (q : pks_blamed a k i I L x I2 L2) : pk_blamed a k i I L x I2 L2 := q.1
theorem jbs_blamed {n : Nat} {I : px_I} {L : px_L} {R : px_R} (hj : jJ n I R) (hO : cSo I) (a k i : Int32) : px_K M_X11_blamed [.ref 32, .int a, .int k, .int i] n I L R (jB n I L (pbs_blamed a k i I L)) := jSk (bs_blamed hj.g a k i hj.s hO) hj (fun x I2 L2 h => by
  obtain ⟨⟨rfl, h⟩, -⟩ := h
  exact ⟨fun _ _ _ => rfl, fun b h1 h2 => h b (by omega)⟩)
theorem jks_blamed {n : Nat} {I : px_I} {L : px_L} {R : px_R} (hj : jJ n I R) (a k i : Int32) : px_K M_X12_blamed [.ref 103, .int a, .int k, .int i] n I L R (jK n I L R (pks_blamed a k i I L)) := jKS (ks_blamed hj.g a k i hj.m.1) hj (fun x I2 L2 h => by
  replace h := h.1
  exact ⟨hj.m.cells (fun b j hc => h.1 b j (by unfold mCell at hc; omega)), fun b hb => funext fun j => h.1 b j (by omega), fun b hb => h.2 b (by omega)⟩)



set_option maxRecDepth 100000 in
theorem lcs_blamed {N : Nat} {xs : Nat → Int32} {n cu su : Nat} {I : px_I} {L : px_L} {R : px_R} {Q : px_Q} {i : Int32} (hi : lwI N i) (hcu : cu ≤ 490000) (hsu : su ≤ 6900000) (hj : jJ n I R) (hx : cSo I) (he : ∀ (x : Int32) (n2 : Nat) I2 L2 (y : Int32) I3 L3, frB I I2 L L2 → pbs_blamed (ag xs i 1) (ag xs i 2) (ag xs i 3) I L x I2 L2 → frK I2 I3 L2 L3 → pks_blamed (ag xs i 1) (ag xs i 2) (ag xs i 3) I2 L2 y I3 L3 → x = y) (kk : ∀ (x : Int32) (n2 : Nat) I2 L2 R2 (y : Int32) I3 L3, jJ n2 I3 R2 → frB I I2 L L2 → pbs_blamed (ag xs i 1) (ag xs i 2) (ag xs i 3) I L x I2 L2 → frK I2 I3 L2 L3 → pks_blamed (ag xs i 1) (ag xs i 2) (ag xs i 3) I2 L2 y I3 L3 → px (M_law N xs) (cu + 3) (su + 404) 1868 (lwL i) [] n2 I3 L3 R2 Q) : px (M_law N xs) cu su 464 (lwL i) [] n I L R Q := by
  have hg := hj.g
  refine px_b (on := 13) rfl q_law_464 hg rfl trivial ?_
  refine px_argC q_law_465 hg hi (by decide) ?_
  refine px_argC q_law_470 hg hi (by decide) ?_
  refine px_argC q_law_475 hg hi (by decide) ?_
  refine px_kB q_law_480 lk_13_43 nm_X11_blamed (jbs_blamed hj hx _ _ _) rfl rfl hg rfl (rkL rfl rfl rfl rfl (by omega) (by omega) rfl) ?_
  intro x n2 I2 L2 R2 hj2 f1 p1
  have hg := hj2.g
  refine px_b (on := 13) rfl q_law_483 hg rfl trivial ?_
  refine px_argC q_law_484 hg hi (by decide) ?_
  refine px_argC q_law_489 hg hi (by decide) ?_
  refine px_argC q_law_494 hg hi (by decide) ?_
  refine px_kK q_law_499 lk_13_47 nm_X12_blamed (jks_blamed hj2 _ _ _) rfl rfl hg rfl (rkL rfl rfl rfl rfl (by show cu + 0 ≤ 500000; omega) (by show su + 0 ≤ 7000000; omega) rfl) ?_
  intro y I3 L3 hj3 f2 p2
  have hg := hj3.g
  refine px_ieq (on := 13) rfl q_law_502 hg rfl trivial (fun c => ?_) (fun c => ?_)
  · exact px_wid (cu2 := cu + 3) (su2 := su + 404) (by show cu + 0 + 0 ≤ cu + 3; omega) (by show su + 0 + 0 ≤ su + 404; omega) (kk x n2 I2 L2 R2 y I3 L3 hj3 f1 p1 f2 p2)
  · exact absurd (he x n2 I2 L2 y I3 L3 f1 p1 f2 p2) c
