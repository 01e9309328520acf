theorem cWay.le {n n2 w : Nat} (h : cWay n w) (h2 : n ≤ n2) : cWay n2 w := ⟨⟨h.1.1, Nat.lt_of_lt_of_le h.1.2.1 h2, h.1.2.2⟩, ⟨h.2.1.1, Nat.lt_of_lt_of_le h.2.1.2.1 h2, h.2.1.2.2⟩, ⟨h.2.2.1, Nat.lt_of_lt_of_le h.2.2.2.1 h2, h.2.2.2.2⟩⟩
theorem cWv.eq {I I2 : px_I} {w : Nat} (h : cWv I w) (h1 : I2 w = I w) (h2 : I2 (w + 2) = I (w + 2)) : cWv I2 w := by
  refine ⟨?_, fun k => ?_⟩
  · rw [h1]; exact h.1
  · rw [h2]; exact h.2 k
theorem cWay_ne {n x w : Nat} (hx : cWay n x) (hw : cWay n w) (h : x ≠ w) : x ≠ w + 1 ∧ x ≠ w + 2 ∧ x + 2 ≠ w ∧ x + 2 ≠ w + 1 := by
  have a := hx.1.2.2
  have a1 := hx.2.1.2.2.1
  have a2 := hx.2.2.2.2.1
  have b := hw.1.2.2
  have b1 := hw.2.1.2.2.1
  have b2 := hw.2.2.2.2.1
  refine ⟨fun e => ?_, fun e => ?_, fun e => ?_, fun e => ?_⟩
  · rw [e, b1] at a; exact absurd a (by decide)
  · rw [e, b2] at a; exact absurd a (by decide)
  · rw [e, b] at a2; exact absurd a2 (by decide)
  · have e2 : x + 1 = w := by omega
    rw [e2, b] at a1; exact absurd a1 (by decide)
/-- what the class's ways need -/
def kI (n : Nat) (I : px_I) (R : px_R) : Prop := (∃ k, n = 147 + 3 * k) ∧ px_G n R ∧ (∃ w, R 76 1 = some w ∧ cWay n w ∧ cRd w I) ∧ cTold n I R ∧ (0 ≤ I 70 5 ∧ I 70 5 ≤ 400)
def kWF (I I2 : px_I) : Prop := ∀ b j, b < 147 → ¬ (b = 76 ∧ 7 ≤ j) → ¬ (b = 70 ∧ (j = 5 ∨ j = 6)) → (b < 72 ∨ b = 76 ∨ 84 < b) → b ≠ 90 → I2 b j = I b j
def kRF (R R2 : px_R) : Prop := ∀ b k, b < 147 → b ≠ 89 → ¬ (b = 76 ∧ k = 1) → R2 b k = R b k
def kRp (n : Nat) (I : px_I) (L : px_L) (R : px_R) (n2 d : Nat) (I2 : px_I) (L2 : px_L) (R2 : px_R) : Prop := n ≤ n2 ∧ (∃ k, n2 = 147 + 3 * k) ∧ px_G n2 R2 ∧ cWay n2 d ∧ (d = 77 ∨ 147 ≤ d) ∧ cWv I2 d ∧ (∀ b j, b < n → b ≠ 90 → I2 b j = I b j) ∧ (∀ b, b < n → L2 b = L b) ∧ (∀ b k, b < n → b ≠ 89 → R2 b k = R b k) ∧ cTold n2 I2 R2
theorem c_rep {n k w : Nat} {I : px_I} {L : px_L} {R : px_R} (hn : n = 147 + 3 * k) (hg : px_G n R) (hT : cTold n I R) (hw : cWay n w) (h0 : w = 77 ∨ 147 ≤ w) (hv : cWv I w) (i : Int32) {r : Option Value} {n2 : Nat} {I2 : px_I} {L2 : px_L} {R2 : px_R} (hi : 0 ≤ i ∧ i < 6)
    (h : ∃ I1, cKF I I1 ∧ ((∃ x, R 89 i.toNatClampNeg = some x ∧ r = some (.ref x) ∧ n2 = n ∧ I2 = I1 ∧ L2 = L ∧ R2 = px_u R 89 i.toNatClampNeg (some w)) ∨ (R 89 i.toNatClampNeg = none ∧ r = some (.ref n) ∧ n2 = n + 3 ∧ mkW n I1 L (px_u R 89 i.toNatClampNeg (some w)) I2 L2 R2))) :
    ∃ d, r = some (.ref d) ∧ kRp n I L R n2 d I2 L2 R2 := by
  obtain ⟨I1, h1, h2⟩ := h
  rcases h2 with ⟨x, a1, rfl, rfl, rfl, rfl, rfl⟩ | ⟨a1, rfl, rfl, hm⟩
  · obtain ⟨t1, t2, t3⟩ := hT _ (px_n6 hi) x a1
    refine ⟨x, rfl, Nat.le_refl _, ⟨k, hn⟩, px_G89 hg, t2, t1, t3.eq (h1 x (by omega)) (h1 (x + 2) (by omega)), fun b j hb hb2 => by rw [h1 b hb2], fun _ _ => rfl, fun b j hb hb2 => by rw [px_u_ne hb2], fun j hj y hy => ?_⟩
    rw [px_ur, if_pos rfl] at hy
    by_cases e : j = i.toNatClampNeg
    · rw [if_pos e] at hy
      obtain rfl := Option.some.inj hy
      exact ⟨h0, hw, hv.eq (h1 w (by omega)) (h1 (w + 2) (by omega))⟩
    · rw [if_neg e] at hy
      obtain ⟨t4, t5, t6⟩ := hT j hj y hy
      exact ⟨t4, t5, t6.eq (h1 y (by omega)) (h1 (y + 2) (by omega))⟩
  · have s := px_shW k
    rw [← hn] at s
    have hG2 : px_G (n + 3) R2 := by subst hn; exact hm.G (px_G89 hg)
    obtain ⟨m1, m2, m3, m4, m5⟩ := hm
    have old : ∀ y, cWay n y → y < n ∧ y + 2 < n := fun y hy => ⟨hy.1.2.1, hy.2.2.2.1⟩
    have told : ∀ y, (y = 77 ∨ 147 ≤ y) → cWay n y → cWv I y → (y = 77 ∨ 147 ≤ y) ∧ cWay (n + 3) y ∧ cWv I2 y := fun y q1 q2 q3 => by
      have := old y q2
      refine ⟨q1, q2.le (by omega), q3.eq ?_ ?_⟩
      · rw [(m1 y (by omega) (by omega) (by omega)).1]; exact h1 y (by omega)
      · rw [(m1 (y + 2) (by omega) (by omega) (by omega)).1]; exact h1 (y + 2) (by omega)
    refine ⟨n, rfl, by omega, ⟨k + 1, by omega⟩, hG2, ⟨⟨by omega, by omega, by rw [s.1]⟩, ⟨by omega, by omega, by rw [s.2.1], by rw [s.2.1]⟩, ⟨by omega, by omega, by rw [s.2.2], by rw [s.2.2]⟩⟩, Or.inr (by omega), ⟨?_, fun j => ?_⟩, fun b j hb hb2 => ?_, fun b hb => ?_, fun b j hb hb2 => ?_, fun j hj y hy => ?_⟩
    · rw [(m2 n (Or.inl rfl)).1]; decide
    · rw [(m2 (n + 2) (Or.inr (Or.inr rfl))).1]; exact (show (0 : Int32) ≤ 0 ∧ (0 : Int32) ≤ 1000000 by decide)
    · rw [(m1 b (by omega) (by omega) (by omega)).1, h1 b hb2]
    · exact (m1 b (by omega) (by omega) (by omega)).2.1
    · rw [(m1 b (by omega) (by omega) (by omega)).2.2, px_u_ne hb2]
    · rw [(m1 89 (by omega) (by omega) (by omega)).2.2, px_ur, if_pos rfl] at hy
      by_cases e : j = i.toNatClampNeg
      · rw [if_pos e] at hy
        obtain rfl := Option.some.inj hy
        exact told w h0 hw hv
      · rw [if_neg e] at hy
        obtain ⟨t4, t5, t6⟩ := hT j hj y hy
        exact told y t4 t5 t6
theorem cRG.told {n w : Nat} {I I2 : px_I} {R : px_R} (h : cRG w I I2) (hd : cRd w I2) (hw : cWay n w) (hT : cTold n I R) : cTold n I2 R := fun j hj y hy => by
  obtain ⟨t1, t2, t3⟩ := hT j hj y hy
  refine ⟨t1, t2, ?_⟩
  by_cases e : y = w
  · subst e; exact ⟨hd.op.2.2.2.2.2.2.2.2.1, hd.op.2.2.2.2.2.2.2.2.2⟩
  · have q := cWay_ne t2 hw e
    refine t3.eq ?_ ?_
    · funext k; exact h y k (by omega) (by omega) (by omega) e q.1 q.2.1
    · funext k; exact h (y + 2) k (by omega) (by omega) (by omega) q.2.2.1 q.2.2.2 (by omega)


theorem cRd.up5 {w : Nat} {I : px_I} (h : cRd w I) (v : Int32) : cRd w (px_u I 70 5 v) := by
  obtain ⟨d0, d1, d2, d3, d4, d5, d6, d7, d8, d9⟩ := h.op
  refine ⟨d0, ?_, fun k => ?_, ?_, ?_, ?_, fun k => ?_, fun k => ?_, ?_, fun k => ?_⟩
  · rw [px_u_at_ne (by decide)]; exact d1
  · rw [px_u_ne (by decide)]; exact d2 k
  · rw [px_u_ne (by decide)]; exact d3
  · rw [px_u_ne (by decide)]; exact d4
  · rw [px_u_ne (by decide)]; exact d5
  · rw [px_u_ne (by decide)]; exact d6 k
  · rw [px_u_ne (by decide)]; exact d7 k
  · rw [px_u_ne (by omega)]; exact d8
  · rw [px_u_ne (by omega)]; exact d9 k
theorem cRW_76 {R : px_R} {w : Nat} : cRW R w 76 1 = some w := rfl
theorem wy_a {n k w : Nat} {I : px_I} {L : px_L} {R : px_R} {i : Int32} (hn : n = 147 + 3 * k) (hg : px_G n (cRW R w)) (hw : cWay n w) (hT : cTold n I (cRW R w)) (hl : 0 ≤ I 70 5 ∧ I 70 5 ≤ 400) (hd : cRd w I) (hi : ¬ (0 ≤ i ∧ i < 6)) (x : Int32) :
    (∃ y, some (Value.int x) = some (.int y)) ∧ kI n I (cRW R w) ∧ n ≤ n ∧ kWF I I ∧ (∀ b, b < 147 → L b = L b) ∧ kRF (cRW R w) (cRW R w) ∧ I 70 5 = (if 0 ≤ i ∧ i < 6 then 0 else I 70 5) :=
  ⟨⟨x, rfl⟩, ⟨⟨k, hn⟩, hg, ⟨w, rfl, hw, hd⟩, hT, hl⟩, Nat.le_refl _, fun _ _ _ _ _ _ _ => rfl, fun _ _ => rfl, fun _ _ _ _ _ => rfl, (if_neg hi).symm⟩
theorem wy_f {n w : Nat} {I I17 : px_I} (hw : cWay n w) (h0 : w = 77 ∨ 147 ≤ w) (h : cRG w I I17) : ∀ b j, b < 147 → ¬ (b = 76 ∧ 7 ≤ j) → ¬ (b = 70 ∧ (j = 5 ∨ j = 6)) → (b < 72 ∨ b = 76 ∨ 84 < b) → (px_u I17 70 5 0) b j = I b j := fun b j a1 a2 a3 a4 => by
  rw [px_ur]
  have e : I17 b j = I b j := h b j a2 (by omega) (by omega) (by omega) (by omega) (by omega)
  by_cases q : b = 70
  · by_cases q2 : j = 5
    · exact absurd ⟨q, Or.inl q2⟩ a3
    · rw [if_pos q, if_neg q2]; exact e
  · rw [if_neg q]; exact e
theorem wy_b {n k w : Nat} {I I17 : px_I} {L : px_L} {R : px_R} {i : Int32} (hn : n = 147 + 3 * k) (hg : px_G n (cRW R w)) (hw : cWay n w) (hl : 0 ≤ I 70 5 ∧ I 70 5 ≤ 400) (hi : 0 ≤ i ∧ i < 6) (hd : cRd w I17) (h : cRG w I I17) (hT : cTold n (px_u I17 70 5 0) (cRW R w)) (x : Int32) :
    (∃ y, some (Value.int x) = some (.int y)) ∧ kI n (px_u I17 70 5 0) (cRW R w) ∧ n ≤ n ∧ kWF I (px_u I17 70 5 0) ∧ (∀ b, b < 147 → L b = L b) ∧ kRF (cRW R w) (cRW R w) ∧ (px_u I17 70 5 0) 70 5 = (if 0 ≤ i ∧ i < 6 then 0 else I 70 5) :=
  ⟨⟨x, rfl⟩, ⟨⟨k, hn⟩, hg, ⟨w, rfl, hw, hd.up5 0⟩, hT, by rw [px_u_at]; decide⟩, Nat.le_refl _, fun b j a1 a2 a3 a4 a5 => wy_f hw hd.1 h b j a1 a2 a3 a4, fun _ _ => rfl, fun _ _ _ _ _ => rfl, by rw [if_pos hi, px_u_at]⟩
theorem wy_c {n n2 d w : Nat} {I I17 I2 : px_I} {L L2 : px_L} {R R2 : px_R} {i : Int32} (hg : px_G n (cRW R w)) (hw : cWay n w) (hi : 0 ≤ i ∧ i < 6) (hd : cRd w I17) (h : cRG w I I17) (hK : kRp n (px_u I17 70 5 0) L (cRW R w) n2 d I2 L2 R2) (x : Int32) :
    (∃ y, some (Value.int x) = some (.int y)) ∧ kI n2 I2 (px_u R2 76 1 (some d)) ∧ n ≤ n2 ∧ kWF I I2 ∧ (∀ b, b < 147 → L2 b = L b) ∧ kRF (cRW R w) (px_u R2 76 1 (some d)) ∧ I2 70 5 = (if 0 ≤ i ∧ i < 6 then 0 else I 70 5) := by
  obtain ⟨k1, k2, k3, k4, k5, k6, k7, k8, k9, k10⟩ := hK
  have hlt : 147 ≤ n := hg.1
  obtain ⟨d0, d1, d2, d3, d4, d5, d6, d7, d8, d9⟩ := (hd.up5 0).op
  refine ⟨⟨x, rfl⟩, ⟨k2, px_G76 k3, ⟨d, px_u_at, k4, ⟨k5, ?_, fun j => ?_, ?_, ?_, ?_, fun j => ?_, fun j => ?_, k6.1, k6.2⟩⟩, fun j hj y hy => ?_, ?_⟩, k1, fun b j a1 a2 a3 a4 a5 => ?_, fun b hb => k8 b (by omega), fun b j a1 a2 a3 => ?_, ?_⟩
  · rw [k7 70 6 (by omega) (by decide)]; exact d1
  · rw [k7 75 j (by omega) (by decide)]; exact d2 j
  · rw [k7 76 7 (by omega) (by decide)]; exact d3
  · rw [k7 76 9 (by omega) (by decide)]; exact d4
  · rw [k7 76 12 (by omega) (by decide)]; exact d5
  · rw [k7 80 j (by omega) (by decide)]; exact d6 j
  · rw [k7 83 j (by omega) (by decide)]; exact d7 j
  · rw [px_u_ne (by decide)] at hy; exact k10 j hj y hy
  · rw [k7 70 5 (by omega) (by decide), px_u_at]; decide
  · rw [k7 b j (by omega) a5]; exact wy_f hw hd.1 h b j a1 a2 a3 a4
  · rw [px_ur]
    by_cases q : b = 76
    · by_cases q2 : j = 1
      · exact absurd ⟨q, q2⟩ a3
      · rw [if_pos q, if_neg q2]; exact k9 b j (by omega) a2
    · rw [if_neg q]; exact k9 b j (by omega) a2
  · rw [if_pos hi, k7 70 5 (by omega) (by decide), px_u_at]

theorem q_X11_way_0 : px_bk 11 3 cX11_way 0 [(.aload_n 0, (0, 0, 0, 0, 0), 0, 0), (.getfield 52, (11, 6, 3, 85, 0), 0, 0), (.iload_n 1, (0, 0, 0, 0, 0), 0, 0)] = some 5 ∧ px_tv cX11_way 5 181 = true := by decide +kernel
theorem q_X11_way_8 : px_bk 11 3 cX11_way 8 [] = some 8 ∧ px_t1 cX11_way 8 .ne 13 = true := by decide +kernel
theorem q_X11_way_13 : px_bk 11 3 cX11_way 13 [(.aload_n 0, (0, 0, 0, 0, 0), 0, 0), (.getfield 45, (11, 5, 3, 76, 0), 0, 0)] = some 17 ∧ px_tv cX11_way 17 184 = true := by decide +kernel
theorem q_X11_way_20 : px_bk 11 3 cX11_way 20 [(.istore_n 2, (0, 0, 0, 0, 0), 0, 0), (.aload_n 0, (0, 0, 0, 0, 0), 0, 0), (.getfield 36, (11, 4, 3, 70, 0), 0, 0), (.iconst 0, (0, 0, 0, 0, 0), 0, 0), (.putfield 178, (8, 5, 0, 0, 0), 0, 0), (.iload_n 2, (0, 0, 0, 0, 0), 0, 0)] = some 30 ∧ px_t1 cX11_way 30 .ne 35 = true := by decide +kernel
theorem q_X11_way_35 : px_bk 11 3 cX11_way 35 [(.aload_n 0, (0, 0, 0, 0, 0), 0, 0), (.getfield 45, (11, 5, 3, 76, 0), 0, 0), (.aload_n 0, (0, 0, 0, 0, 0), 0, 0), (.getfield 52, (11, 6, 3, 85, 0), 0, 0), (.iload_n 1, (0, 0, 0, 0, 0), 0, 0), (.aload_n 0, (0, 0, 0, 0, 0), 0, 0), (.getfield 45, (11, 5, 3, 76, 0), 0, 0), (.getfield 188, (4, 1, 4, 0, 0), 0, 0)] = some 51 ∧ px_tv cX11_way 51 192 = true := by decide +kernel
theorem q_X11_way_54 : px_bk 11 3 cX11_way 54 [] = some 54 := by decide +kernel
theorem q_X11_way_57 : px_bk 11 3 cX11_way 57 [(.aload_n 0, (0, 0, 0, 0, 0), 0, 0), (.getfield 45, (11, 5, 3, 76, 0), 0, 0), (.getfield 196, (4, 13, 0, 0, 0), 0, 0)] = some 64 ∧ px_tr cX11_way 64 .ireturn = true := by decide +kernel
theorem q_X11_way_33 : px_bk 11 3 cX11_way 33 [(.iconst (-1), (0, 0, 0, 0, 0), -1, 0)] = some 34 ∧ px_tr cX11_way 34 .ireturn = true := by decide +kernel
theorem q_X11_way_11 : px_bk 11 3 cX11_way 11 [(.iconst (-1), (0, 0, 0, 0, 0), -1, 0)] = some 12 ∧ px_tr cX11_way 12 .ireturn = true := by decide +kernel
set_option maxRecDepth 100000 in
theorem b_way1 {n : Nat} {I : px_I} {L : px_L} {R : px_R} {w : Nat} (hg : px_G n (cRW R w)) (hw : cWay n w) (i : Int32) {k : Nat} (hn : n = 147 + 3 * k) (hT : cTold n I (cRW R w)) (hl : 0 ≤ I 70 5 ∧ I 70 5 ≤ 400) (hd : cRd w I) : px_K M_X11_way [.ref 32, .int i] n I L (cRW R w) (fun r n2 I2 L2 R2 => (∃ x, r = some (.int x)) ∧ kI n2 I2 R2 ∧ n ≤ n2 ∧ kWF I I2 ∧ (∀ b, b < 147 → L2 b = L b) ∧ kRF (cRW R w) R2 ∧ I2 70 5 = (if 0 ≤ i ∧ i < 6 then 0 else I 70 5)) := by
  refine px_of (plainFor_of_name np_RX11) (fun _ _ _ => trivial) rfl ?_
  refine px_cVP (ci := 5) rfl q_X11_way_0 hg rfl trivial lk_11_181 nm_X5_hasPlace (c_hasPlace hg _) rfl rfl (px_lit hg rfl) rfl rfl rfl ⟨rfl, rfl⟩ ?_
  intro x5 h5
  refine px_ne rfl q_X11_way_8 hg rfl trivial (fun c8 => ?_) (fun c8 => ?_)
  · replace h5 := px_bt h5 c8
    refine px_cVS (ci := 4) rfl q_X11_way_13 hg rfl trivial lk_11_184 nm_X4_read (c_read hg hw hl hd) rfl rfl (px_lit hg rfl) rfl rfl rfl ⟨rfl, rfl⟩ ?_
    intro x17 I17 L17 h17
    obtain ⟨h17a, rfl, h17c, h17d⟩ := h17
    have hT5 : cTold n (px_u I17 70 5 0) (cRW R w) := fun j hj y hy => by
      obtain ⟨t1, t2, t3⟩ := h17d.told h17c hw hT j hj y hy
      exact ⟨t1, t2, t3.eq (px_u_ne (by omega)) (px_u_ne (by omega))⟩
    have hv5 : cWv (px_u I17 70 5 0) w := by
      have hz : cWv I17 w := ⟨h17c.op.2.2.2.2.2.2.2.2.1, h17c.op.2.2.2.2.2.2.2.2.2⟩
      have h0 := h17c.1
      exact hz.eq (px_u_ne (by omega)) (px_u_ne (by omega))
    refine px_ne rfl q_X11_way_20 hg rfl trivial (fun c30 => ?_) (fun c30 => ?_)
    · refine px_cVG (ci := 5) rfl q_X11_way_35 hg rfl trivial lk_11_192 nm_X5_replace (c_replace hg hn i w h5 hw.1) rfl rfl (px_lit hg rfl) rfl rfl rfl ?_
      intro r51 n51 I51 L51 R51 h51
      obtain ⟨d, rfl, hK⟩ := c_rep hn hg hT5 hw h17c.1 hv5 i h5 h51
      have hgS := hg
      have hg : px_G n51 R51 := hK.2.2.1
      refine px_pF (on := 11) (ci := 4) (kf := 1) (idx := 188) rfl (by decide +kernel) (by decide) (px_lit hg rfl) rfl (Or.inl ⟨_, rfl⟩) (Or.inl rfl) ?_
      have hg : px_G n51 (px_u R51 76 1 (some d)) := px_G76 hg
      refine px_ri rfl q_X11_way_57 rfl rfl rfl hg rfl trivial ?_
      exact wy_c hgS hw h5 h17c h17d hK _
    · refine px_ri rfl q_X11_way_33 rfl rfl rfl hg rfl trivial ?_
      exact wy_b hn hg hw hl h5 h17c h17d hT5 _
  · replace h5 := px_bf h5 c8
    refine px_ri rfl q_X11_way_11 rfl rfl rfl hg rfl trivial ?_
    exact wy_a hn hg hw hT hl hd h5 _

theorem b_way {n : Nat} {I : px_I} {L : px_L} {R : px_R} (h : kI n I R) (i : Int32) : px_K M_X11_way [.ref 32, .int i] n I L R (fun r n2 I2 L2 R2 => (∃ x, r = some (.int x)) ∧ kI n2 I2 R2 ∧ n ≤ n2 ∧ kWF I I2 ∧ (∀ b, b < 147 → L2 b = L b) ∧ kRF R R2 ∧ I2 70 5 = (if 0 ≤ i ∧ i < 6 then 0 else I 70 5)) := by
  obtain ⟨⟨k, hn⟩, hg, ⟨w, h76, hw, hd⟩, hT, hl⟩ := h
  have e := cRW_id h76
  have h2 := b_way1 (R := R) (w := w) (L := L) (by rw [e]; exact hg) hw i hn (by rw [e]; exact hT) hl hd
  rw [e] at h2
  exact h2
