def pbs_span (a t k h : Int32) (I : px_I) (L : px_L) : Int32 → px_I → px_L → Prop := (fun r I2 L2 => (I2 = I ∧ cDL L L2) ∧ qGap (cGd I a k (-1)) (cD I a k (-1)) (I 33 7) a 0 t k h r)

def pks_span (a t k h : Int32) (I : px_I) (L : px_L) : Int32 → px_I → px_L → Prop := (fun r I2 L2 => (mDI I I2 ∧ mDL L L2) ∧ qGap (mGd I a k (-1)) (mD I a k (-1)) (I 103 1) a 0 t k h r)

theorem pbs_span.old {a t k h x : Int32} {I I2 : px_I} {L L2 : px_L} (q : pbs_span a t k h I L x I2 L2) : pb_span a t k h I L x I2 L2 := q.1
theorem pks_span.old {a t k h x : Int32} {I I2 : px_I} {L L2 : px_L} (q : pks_span a t k h I L x I2 L2) : pk_span a t k h I L x I2 L2 := q.1
theorem jbs_span {n : Nat} {I : px_I} {L : px_L} {R : px_R} (hj : jJ n I R) (hO : cSo I) (a t k h : Int32) : px_K M_X11_span [.ref 32, .int a, .int t, .int k, .int h] n I L R (jB n I L (pbs_span a t k h I L)) := jSk (bs_span hj.g a t k h hj.s hO) hj (fun x I2 L2 h => by
  obtain ⟨⟨rfl, h⟩, -⟩ := h
  exact ⟨fun _ _ _ => rfl, fun b h1 h2 => h b (by omega)⟩)
theorem jks_span {n : Nat} {I : px_I} {L : px_L} {R : px_R} (hj : jJ n I R) (a t k h : Int32) : px_K M_X12_span [.ref 103, .int a, .int t, .int k, .int h] n I L R (jK n I L R (pks_span a t k h I L)) := jKS (ks_span hj.g a t k h hj.m.1) hj (fun x I2 L2 h => by
  replace h := h.1
  exact ⟨hj.m.cells (fun b j hc => h.1 b j (by unfold mCell at hc; omega)), fun b hb => funext fun j => h.1 b j (by omega), fun b hb => h.2 b (by omega)⟩)



set_option maxRecDepth 100000 in
theorem lcs_span {N : Nat} {xs : Nat → Int32} {n cu su : Nat} {I : px_I} {L : px_L} {R : px_R} {Q : px_Q} {i : Int32} (hi : lwI N i) (hcu : cu ≤ 490000) (hsu : su ≤ 6900000) (hj : jJ n I R) (hx : cSo I) (he : ∀ (x : Int32) (n2 : Nat) I2 L2 (y : Int32) I3 L3, frB I I2 L L2 → pbs_span (ag xs i 1) (ag xs i 2) (ag xs i 3) (bo (ag xs i 4)) I L x I2 L2 → frK I2 I3 L2 L3 → pks_span (ag xs i 1) (ag xs i 2) (ag xs i 3) (bo (ag xs i 4)) I2 L2 y I3 L3 → x = y) (kk : ∀ (x : Int32) (n2 : Nat) I2 L2 R2 (y : Int32) I3 L3, jJ n2 I3 R2 → frB I I2 L L2 → pbs_span (ag xs i 1) (ag xs i 2) (ag xs i 3) (bo (ag xs i 4)) I L x I2 L2 → frK I2 I3 L2 L3 → pks_span (ag xs i 1) (ag xs i 2) (ag xs i 3) (bo (ag xs i 4)) I2 L2 y I3 L3 → px (M_law N xs) (cu + 3) (su + 404) 1868 (lwL i) [] n2 I3 L3 R2 Q) : px (M_law N xs) cu su 316 (lwL i) [] n I L R Q := by
  have hg := hj.g
  refine px_b (on := 13) rfl q_law_316 hg rfl trivial ?_
  refine px_argC q_law_317 hg hi (by decide) ?_
  refine px_argC q_law_322 hg hi (by decide) ?_
  refine px_argC q_law_327 hg hi (by decide) ?_
  refine px_argC q_law_332 hg hi (by decide) ?_
  refine px_boo q_law_337 rfl hg ?_
  refine px_kB q_law_345 lk_13_33 nm_X11_span (jbs_span hj hx _ _ _ _) rfl rfl hg rfl (rkL rfl rfl rfl rfl (by omega) (by omega) rfl) ?_
  intro x n2 I2 L2 R2 hj2 f1 p1
  have hg := hj2.g
  refine px_b (on := 13) rfl q_law_348 hg rfl trivial ?_
  refine px_argC q_law_349 hg hi (by decide) ?_
  refine px_argC q_law_354 hg hi (by decide) ?_
  refine px_argC q_law_359 hg hi (by decide) ?_
  refine px_argC q_law_364 hg hi (by decide) ?_
  refine px_boo q_law_369 rfl hg ?_
  refine px_kK q_law_377 lk_13_37 nm_X12_span (jks_span hj2 _ _ _ _) rfl rfl hg rfl (rkL rfl rfl rfl rfl (by show cu + 0 ≤ 500000; omega) (by show su + 0 ≤ 7000000; omega) rfl) ?_
  intro y I3 L3 hj3 f2 p2
  have hg := hj3.g
  refine px_ieq (on := 13) rfl q_law_380 hg rfl trivial (fun c => ?_) (fun c => ?_)
  · exact px_wid (cu2 := cu + 3) (su2 := su + 404) (by show cu + 0 + 0 ≤ cu + 3; omega) (by show su + 0 + 0 ≤ su + 404; omega) (kk x n2 I2 L2 R2 y I3 L3 hj3 f1 p1 f2 p2)
  · exact absurd (he x n2 I2 L2 y I3 L3 f1 p1 f2 p2) c
