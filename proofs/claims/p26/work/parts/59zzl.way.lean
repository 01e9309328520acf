/-! the class's way, whole -/
theorem c_rep89 {n w : Nat} {I : px_I} {L : px_L} {R : px_R} {i : Int32} {r : Option Value} {n2 : Nat} {I2 : px_I} {L2 : px_L} {R2 : px_R} (hn : 147 ≤ n) (h : ∃ I1, cKF I I1 ∧ ((∃ x, R 89 i.toNatClampNeg = some x ∧ r = some (.ref x) ∧ n2 = n ∧ I2 = I1 ∧ L2 = L ∧ R2 = px_u R 89 i.toNatClampNeg (some w)) ∨ (R 89 i.toNatClampNeg = none ∧ r = some (.ref n) ∧ n2 = n + 3 ∧ mkW n I1 L (px_u R 89 i.toNatClampNeg (some w)) I2 L2 R2))) : ∀ k, R2 89 k = px_u R 89 i.toNatClampNeg (some w) 89 k := by
  obtain ⟨I1, -, h2⟩ := h
  rcases h2 with ⟨x, -, -, -, -, -, rfl⟩ | ⟨-, -, -, hm⟩
  · exact fun _ => rfl
  · intro k
    rw [(hm.1 89 (by omega) (by omega) (by omega)).2.2]
def xWy (w : Nat) (i : Int32) (I : px_I) (R : px_R) (r : Option Value) (I2 : px_I) (R2 : px_R) : Prop := (¬ (0 ≤ i ∧ i < 6) ∧ r = some (.int (-1)) ∧ I2 = I ∧ R2 = R) ∨ ((0 ≤ i ∧ i < 6) ∧ ∃ J, xRead w I J ∧ (∀ j, I2 76 j = J 76 j) ∧ ((J 76 14 = 0 ∧ r = some (.int (J 76 13)) ∧ ∀ k, R2 89 k = px_u R 89 i.toNatClampNeg (some w) 89 k) ∨ (¬ J 76 14 = 0 ∧ r = some (.int (-1)) ∧ R2 = R)))

set_option maxRecDepth 100000 in
theorem bs_way1 {n : Nat} {I : px_I} {L : px_L} {R : px_R} {w : Nat} (hg : px_G n (cRW R w)) (hw : cWay n w) (i : Int32) {k : Nat} (hn : n = 147 + 3 * k) (hT : cTold n I (cRW R w)) (hl : 0 ≤ I 70 5 ∧ I 70 5 ≤ 400) (hd : cRd w I) : px_K M_X11_way [.ref 32, .int i] n I L (cRW R w) (fun r n2 I2 L2 R2 => ((∃ x, r = some (.int x)) ∧ kI n2 I2 R2 ∧ n ≤ n2 ∧ kWF I I2 ∧ (∀ b, b < 147 → L2 b = L b) ∧ kRF (cRW R w) R2 ∧ I2 70 5 = (if 0 ≤ i ∧ i < 6 then 0 else I 70 5)) ∧ xWy w i I (cRW R w) r I2 R2 ∧ wZ i I (cRW R w) I2 R2) := by
  refine px_of (plainFor_of_name np_RX11) (fun _ _ _ => trivial) rfl ?_
  refine px_cVP (ci := 5) rfl q_X11_way_0 hg rfl trivial lk_11_181 nm_X5_hasPlace (c_hasPlace hg _) rfl rfl (px_lit hg rfl) rfl rfl rfl ⟨rfl, rfl⟩ ?_
  intro x5 h5
  refine px_ne rfl q_X11_way_8 hg rfl trivial (fun c8 => ?_) (fun c8 => ?_)
  · replace h5 := px_bt h5 c8
    refine px_cVS (ci := 4) rfl q_X11_way_13 hg rfl trivial lk_11_184 nm_X4_read (xs_read hg hw hl hd) rfl rfl (px_lit hg rfl) rfl rfl rfl ⟨rfl, rfl⟩ ?_
    intro x17 I17 L17 h17
    obtain ⟨h17a, rfl, h17c, h17d, h17e, h17f⟩ := h17
    have hT5 : cTold n (px_u I17 70 5 0) (cRW R w) := fun j hj y hy => by
      obtain ⟨t1, t2, t3⟩ := h17d.told h17c hw hT j hj y hy
      exact ⟨t1, t2, t3.eq (px_u_ne (by omega)) (px_u_ne (by omega))⟩
    have hv5 : cWv (px_u I17 70 5 0) w := by
      have hz : cWv I17 w := ⟨h17c.op.2.2.2.2.2.2.2.2.1, h17c.op.2.2.2.2.2.2.2.2.2⟩
      have h0 := h17c.1
      exact hz.eq (px_u_ne (by omega)) (px_u_ne (by omega))
    have x5 : ∀ j, (px_u I17 70 5 0) 76 j = I17 76 j := fun j => by rw [px_u_ne (by decide)]
    refine px_ne rfl q_X11_way_20 hg rfl trivial (fun c30 => ?_) (fun c30 => ?_)
    · refine px_cVG (ci := 5) rfl q_X11_way_35 hg rfl trivial lk_11_192 nm_X5_replace (cs_replace hg hn i w h5 hw.1) rfl rfl (px_lit hg rfl) rfl rfl rfl ?_
      intro r51 n51 I51 L51 R51 h51
      have h89 := c_rep89 hg.1 (h51.imp (fun _ q => ⟨q.1.1, q.2⟩))
      obtain ⟨d, hr9, hK⟩ := c_rep hn hg hT5 hw h17c.1 hv5 i h5 (h51.imp (fun _ q => ⟨q.1.1, q.2⟩))
      have hz9 := c_repZ hg.1 h51 hr9
      subst hr9
      have hgS := hg
      have hg : px_G n51 R51 := hK.2.2.1
      refine px_pF (on := 11) (ci := 4) (kf := 1) (idx := 188) rfl (by decide +kernel) (by decide) (px_lit hg rfl) rfl (Or.inl ⟨_, rfl⟩) (Or.inl rfl) ?_
      have hg : px_G n51 (px_u R51 76 1 (some d)) := px_G76 hg
      refine px_ri rfl q_X11_way_57 rfl rfl rfl hg rfl trivial ?_
      exact ⟨wy_c hgS hw h5 h17c h17d hK _, Or.inr ⟨h5, I17, h17e, fun j => (hK.2.2.2.2.2.2.1 76 j (by have := hgS.1; unfold px_nb at this; omega) (by decide)).trans (x5 j), Or.inl ⟨h17f.mp (by grind), by rw [← x5 13, ← hK.2.2.2.2.2.2.1 76 13 (by have := hgS.1; unfold px_nb at this; omega) (by decide)], fun k => by rw [px_u_ne (by decide)]; exact h89 k⟩⟩, wZ.c hgS.1 hw hd.1 h5 hl hT h17d h17e (h17f.mp (by grind)) hK.2.2.2.2.2.2.1 hz9.1 hz9.2.1 hz9.2.2.1 hz9.2.2.2 hK.2.2.2.2.1⟩
    · refine px_ri rfl q_X11_way_33 rfl rfl rfl hg rfl trivial ?_
      exact ⟨wy_b hn hg hw hl h5 h17c h17d hT5 _, Or.inr ⟨h5, I17, h17e, x5, Or.inr ⟨fun z => absurd (h17f.mpr z) (by grind), rfl, rfl⟩⟩, wZ.b hw hd.1 hT h17d (fun z => absurd (h17f.mpr z) (by grind))⟩
  · replace h5 := px_bf h5 c8
    refine px_ri rfl q_X11_way_11 rfl rfl rfl hg rfl trivial ?_
    exact ⟨wy_a hn hg hw hT hl hd h5 _, Or.inl ⟨h5, rfl, rfl, rfl⟩, wZ.a (n := n) h5⟩

theorem bs_way {n : Nat} {I : px_I} {L : px_L} {R : px_R} (h : kI n I R) (i : Int32) : px_K M_X11_way [.ref 32, .int i] n I L R (fun r n2 I2 L2 R2 => ((∃ x, r = some (.int x)) ∧ kI n2 I2 R2 ∧ n ≤ n2 ∧ kWF I I2 ∧ (∀ b, b < 147 → L2 b = L b) ∧ kRF R R2 ∧ I2 70 5 = (if 0 ≤ i ∧ i < 6 then 0 else I 70 5)) ∧ ∃ w, R 76 1 = some w ∧ (w = 77 ∨ 147 ≤ w) ∧ (0 ≤ I 70 5 ∧ I 70 5 ≤ 400) ∧ xWy w i I R r I2 R2 ∧ wZ i I R I2 R2) := by
  obtain ⟨⟨k, hn⟩, hg, ⟨w, h76, hw, hd⟩, hT, hl⟩ := h
  have e := cRW_id h76
  have h2 := bs_way1 (R := R) (w := w) (L := L) (by rw [e]; exact hg) hw i hn (by rw [e]; exact hT) hl hd
  rw [e] at h2
  exact px_K.mono h2 (fun r n2 I2 L2 R2 ⟨h3, h4⟩ => ⟨h3, w, h76, hd.1, hl, h4⟩)
theorem xWy.q {w : Nat} {i : Int32} {I I2 : px_I} {R R2 : px_R} {x : Int32} (hw : w = 77 ∨ 147 ≤ w) (hl : 0 ≤ I 70 5 ∧ I 70 5 ≤ 400) (h : xWy w i I R (some (.int x)) I2 R2) : qWb i I x I2 := by
  rcases h with ⟨a, b, rfl, -⟩ | ⟨a, J, b, c, d⟩
  · exact Or.inl ⟨a, Value.int.inj (Option.some.inj b), rfl, rfl⟩
  · obtain ⟨z, z1, z2⟩ := xRead.A hw hl b
    refine Or.inr ⟨a, z, z1, ?_⟩
    rw [c, c]
    rcases z2 with ⟨y1, y2, y3, y4⟩ | ⟨y1, y2, y3, y4⟩
    · rcases d with ⟨-, d2, -⟩ | ⟨d1, -⟩
      · exact Or.inl ⟨y1, (Value.int.inj (Option.some.inj d2)).trans y4, y2, y3⟩
      · exact absurd y2 d1
    · rcases d with ⟨d1, -⟩ | ⟨-, d2, -⟩
      · rw [d1] at y2; rw [← y2] at y1; exact absurd y1 (by decide)
      · exact Or.inr ⟨y1, Value.int.inj (Option.some.inj d2), y2, y3, y4⟩
def wR (i : Int32) (R : px_R) (I2 : px_I) (R2 : px_R) : Prop := (((0 ≤ i ∧ i < 6) ∧ I2 76 14 = 0) ∧ ∃ d, ∀ k, R2 89 k = px_u R 89 i.toNatClampNeg (some d) 89 k) ∨ (¬ ((0 ≤ i ∧ i < 6) ∧ I2 76 14 = 0) ∧ ∀ k, R2 89 k = R 89 k)
theorem xWy.R {w : Nat} {i : Int32} {I I2 : px_I} {R R2 : px_R} {r : Option Value} (h : xWy w i I R r I2 R2) : wR i R I2 R2 := by
  rcases h with ⟨a, -, -, rfl⟩ | ⟨a, J, -, c, d⟩
  · exact Or.inr ⟨fun z => a z.1, fun _ => rfl⟩
  · rcases d with ⟨d1, -, d3⟩ | ⟨d1, -, rfl⟩
    · exact Or.inl ⟨⟨a, (c 14).trans d1⟩, w, d3⟩
    · exact Or.inr ⟨fun z => d1 ((c 14).symm.trans z.2), fun _ => rfl⟩
def pbs_way (i : Int32) (I : px_I) (L : px_L) : Int32 → px_I → px_L → Prop := (fun x I2 L2 => (kWF I I2 ∧ (∀ b, b < 147 → L2 b = L b) ∧ I2 70 5 = (if 0 ≤ i ∧ i < 6 then 0 else I 70 5)) ∧ qWb i I x I2)
def pks_way (w : Int32) (I : px_I) (L : px_L) : Int32 → px_I → px_L → Prop := (fun r I2 L2 => (L2 = L ∧ ((¬ (0 ≤ w ∧ w ≤ 5) ∧ r = -1 ∧ I2 = I) ∨ ((0 ≤ w ∧ w ≤ 5) ∧ mWayPost I I2 w))) ∧ qWk w I r I2 ∧ kZ w I I2)
theorem pbs_way.old {i x : Int32} {I I2 : px_I} {L L2 : px_L} (q : pbs_way i I L x I2 L2) : pb_way i I L x I2 L2 := q.1
theorem pks_way.old {w x : Int32} {I I2 : px_I} {L L2 : px_L} (q : pks_way w I L x I2 L2) : pk_way w I L x I2 L2 := q.1
theorem jbs_way {n : Nat} {I : px_I} {L : px_L} {R : px_R} (hj : jJ n I R) (i : Int32) : px_K M_X11_way [.ref 32, .int i] n I L R (jB n I L (wZ i I R) (pbs_way i I L)) :=
  px_K.mono (bs_way hj.1 i) (fun r n2 I2 L2 R2 ⟨⟨⟨x, hx⟩, h1, h2, h3, h4, h5, h6⟩, w, w1, w2, w3, w4⟩ => ⟨x, hx, ⟨h1, by
    have s := hj.s
    unfold cSt at *
    rw [h3 33 7 (by omega) (by omega) (by omega) (by omega) (by omega), h3 33 8 (by omega) (by omega) (by omega) (by omega) (by omega)]; exact s, by
    have s := hj.l
    unfold cGal at *
    rw [h3 41 13 (by omega) (by omega) (by omega) (by omega) (by omega), h3 41 15 (by omega) (by omega) (by omega) (by omega) (by omega), h3 55 13 (by omega) (by omega) (by omega) (by omega) (by omega), h3 55 15 (by omega) (by omega) (by omega) (by omega) (by omega)]; exact s, by
    have p := hj.2.2.2.1
    unfold swp at *
    rw [h5 97 1 (by omega) (by omega) (by omega), h5 97 2 (by omega) (by omega) (by omega)]; exact p, hj.m.cells (fun b j hb => h3 b j (by unfold mCell at hb; omega) (by unfold mCell at hb; omega) (by unfold mCell at hb; omega) (by unfold mCell at hb; omega) (by unfold mCell at hb; omega))⟩, h2, ⟨fun b h7 h8 => funext fun j => h3 b j h8 (by omega) (by omega) (by omega) (by omega), fun b h7 h8 => h4 b h8⟩, w4.2, ⟨h3, h4, h6⟩, by rw [hx] at w4; exact w4.1.q w2 w3⟩)
theorem jks_way {n : Nat} {I : px_I} {L : px_L} {R : px_R} (hj : jJ n I R) (w : Int32) : px_K M_X12_way [.ref 103, .int w] n I L R (jK n I L R (pks_way w I L)) :=
  jKS (px_KS.mono (ks_way hj.g w hj.m.2.2.2.2.2.2.1 hj.m.2.2.2.2.2.1) (fun r I2 L2 h => by
    obtain ⟨rfl, h⟩ := h
    rcases h with ⟨a1, a2, a3⟩ | ⟨a1, a2, a3⟩
    · exact ⟨⟨rfl, Or.inl ⟨a1, a2, a3⟩⟩, Or.inl ⟨a1, a2, a3⟩, Or.inl ⟨a1, a3⟩⟩
    · exact ⟨⟨rfl, Or.inr ⟨a1, a2⟩⟩, Or.inr ⟨a1, a3.A⟩, a3.Z a1⟩)) hj (fun x I2 L2 h => by
    replace h := h.1
    obtain ⟨rfl, h⟩ := h
    rcases h with ⟨a1, a2, rfl⟩ | ⟨a1, a2, a3, a4, a5⟩
    · exact ⟨hj.m, fun _ _ => rfl, fun _ _ => rfl⟩
    · obtain ⟨m1, m2, m3, m4, m5, m6, m7, m8⟩ := hj.m
      have o : ∀ z : Nat, z ≠ 103 → (z < 122 ∨ 131 < z) → I2 z = I z := fun z h1 h2 => funext fun j => a2 z j h2 (by omega)
      have q : ∀ j, (j < 25 ∨ 72 < j ∨ (40 ≤ j ∧ j ≤ 70)) → I2 103 j = I 103 j := fun j h1 => a2 103 j (by omega) (by omega)
      exact ⟨⟨m1.k (q 1 (by omega)) (q 2 (by omega)) (o 105 (by omega) (by omega)) (o 106 (by omega) (by omega)), m2.k (o 110 (by omega) (by omega)) (o 111 (by omega) (by omega)) (o 112 (by omega) (by omega)) (o 113 (by omega) (by omega)) (o 114 (by omega) (by omega)), m3.k (o 116 (by omega) (by omega)), m4.k (q 16 (by omega)) (o 117 (by omega) (by omega)) (o 118 (by omega) (by omega)) (o 110 (by omega) (by omega)), m5.k (q 59 (by omega)) (q 60 (by omega)) (q 61 (by omega)) (o 137 (by omega) (by omega)), a4, by rw [a3]; decide, by rw [q 63 (by omega)]; exact m8⟩, fun z hz => o z (by omega) (by omega), fun _ _ => rfl⟩)
