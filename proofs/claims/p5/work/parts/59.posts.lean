def pbs_closed (a k : Int32) (I : px_I) (L : px_L) : Int32 → px_I → px_L → Prop := (fun r I2 L2 => (I2 = I ∧ cDL L L2) ∧ qClosed (cGd I a k (-1)) a k r)

def pks_closed (a k : Int32) (I : px_I) (L : px_L) : Int32 → px_I → px_L → Prop := (fun r I2 L2 => (mDI I I2 ∧ mDL L L2) ∧ qClosed (mGd I a k (-1)) a k r)

theorem pbs_closed.old {a k x : Int32} {I I2 : px_I} {L L2 : px_L} (q : pbs_closed a k I L x I2 L2) : pb_closed a k I L x I2 L2 := q.1
theorem pks_closed.old {a k x : Int32} {I I2 : px_I} {L L2 : px_L} (q : pks_closed a k I L x I2 L2) : pk_closed a k I L x I2 L2 := q.1
theorem jbs_closed {n : Nat} {I : px_I} {L : px_L} {R : px_R} (hj : jJ n I R) (hO : cSo I) (a k : Int32) : px_K M_X11_closed [.ref 32, .int a, .int k] n I L R (jB n I L (pbs_closed a k I L)) := jSk (bs_closed hj.g a k hj.s hO) hj (fun x I2 L2 h => by
  obtain ⟨⟨rfl, h⟩, -⟩ := h
  exact ⟨fun _ _ _ => rfl, fun b h1 h2 => h b (by omega)⟩)
theorem jks_closed {n : Nat} {I : px_I} {L : px_L} {R : px_R} (hj : jJ n I R) (a k : Int32) : px_K M_X12_closed [.ref 103, .int a, .int k] n I L R (jK n I L R (pks_closed a k I L)) := jKS (ks_closed hj.g a k hj.m.1) hj (fun x I2 L2 h => by
  replace h := h.1
  exact ⟨hj.m.cells (fun b j hc => h.1 b j (by unfold mCell at hc; omega)), fun b hb => funext fun j => h.1 b j (by omega), fun b hb => h.2 b (by omega)⟩)



set_option maxRecDepth 100000 in
theorem lcs_closed {N : Nat} {xs : Nat → Int32} {n cu su : Nat} {I : px_I} {L : px_L} {R : px_R} {Q : px_Q} {i : Int32} (hi : lwI N i) (hcu : cu ≤ 490000) (hsu : su ≤ 6900000) (hj : jJ n I R) (hx : cSo I) (he : ∀ (x : Int32) (n2 : Nat) I2 L2 (y : Int32) I3 L3, frB I I2 L L2 → pbs_closed (ag xs i 1) (ag xs i 2) I L x I2 L2 → frK I2 I3 L2 L3 → pks_closed (ag xs i 1) (ag xs i 2) I2 L2 y I3 L3 → x = y) (kk : ∀ (x : Int32) (n2 : Nat) I2 L2 R2 (y : Int32) I3 L3, jJ n2 I3 R2 → frB I I2 L L2 → pbs_closed (ag xs i 1) (ag xs i 2) I L x I2 L2 → frK I2 I3 L2 L3 → pks_closed (ag xs i 1) (ag xs i 2) I2 L2 y I3 L3 → px (M_law N xs) (cu + 3) (su + 404) 1868 (lwL i) [] n2 I3 L3 R2 Q) : px (M_law N xs) cu su 283 (lwL i) [] n I L R Q := by
  have hg := hj.g
  refine px_b (on := 13) rfl q_law_283 hg rfl trivial ?_
  refine px_argC q_law_284 hg hi (by decide) ?_
  refine px_argC q_law_289 hg hi (by decide) ?_
  refine px_kB q_law_294 lk_13_28 nm_X11_closed (jbs_closed hj hx _ _) rfl rfl hg rfl (rkL rfl rfl rfl rfl (by omega) (by omega) rfl) ?_
  intro x n2 I2 L2 R2 hj2 f1 p1
  have hg := hj2.g
  refine px_b (on := 13) rfl q_law_297 hg rfl trivial ?_
  refine px_argC q_law_298 hg hi (by decide) ?_
  refine px_argC q_law_303 hg hi (by decide) ?_
  refine px_kK q_law_308 lk_13_32 nm_X12_closed (jks_closed hj2 _ _) rfl rfl hg rfl (rkL rfl rfl rfl rfl (by show cu + 0 ≤ 500000; omega) (by show su + 0 ≤ 7000000; omega) rfl) ?_
  intro y I3 L3 hj3 f2 p2
  have hg := hj3.g
  refine px_ieq (on := 13) rfl q_law_311 hg rfl trivial (fun c => ?_) (fun c => ?_)
  · exact px_wid (cu2 := cu + 3) (su2 := su + 404) (by show cu + 0 + 0 ≤ cu + 3; omega) (by show su + 0 + 0 ≤ su + 404; omega) (kk x n2 I2 L2 R2 y I3 L3 hj3 f1 p1 f2 p2)
  · exact absurd (he x n2 I2 L2 y I3 L3 f1 p1 f2 p2) c
