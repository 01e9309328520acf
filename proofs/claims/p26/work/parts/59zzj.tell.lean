/-! a way is told; the class forgets runs -/
def cFj (i : Int32) (m : Nat) (I I1 : px_I) : Prop := cKF I I1 ∧ (∀ k : Nat, k < m → I1 90 (16 * i.toNatClampNeg + k) = 0) ∧ ∀ k : Nat, (k < 16 * i.toNatClampNeg ∨ 16 * i.toNatClampNeg + m ≤ k) → I1 90 k = I 90 k
theorem cFj.zero {i : Int32} {I : px_I} : cFj i 0 I I := ⟨fun _ _ => rfl, fun k hk => absurd hk (Nat.not_lt_zero _), fun _ _ => rfl⟩
theorem cFj.at {i v : Int32} {m x : Nat} {I I1 : px_I} (h : cFj i m I I1) (hx : x = 16 * i.toNatClampNeg + m) (hv : v = 0) : cFj i (m + 1) I (px_u I1 90 x v) := by
  obtain ⟨h1, h2, h3⟩ := h
  refine ⟨h1.u _ _, fun k hk => ?_, fun k hk => ?_⟩
  · by_cases e : k = m
    · rw [e, hx, px_u_at]; exact hv
    · rw [px_u_at_ne (by omega)]; exact h2 k (by omega)
  · rw [px_u_at_ne (by omega)]; exact h3 k (by omega)
theorem kJ {i j : Int32} (hi : 0 ≤ i ∧ i < 6) (hj : 0 ≤ j ∧ j < 16) : (16 * i + j).toNatClampNeg = 16 * i.toNatClampNeg + j.toNatClampNeg := (w16 (h := j) (a := 0) hi ⟨hj.1, by grind⟩ (by decide)).2.2.2
def wFr (I I2 : px_I) (R : px_R) : Prop := (∀ j, j < 6 → ∀ x, R 89 j = some x → ¬ R 76 1 = some x → I2 x = I x ∧ I2 (x + 1) = I (x + 1) ∧ I2 (x + 2) = I (x + 2)) ∧ I2 91 = I 91 ∧ I2 86 = I 86
/-- what a way leaves of what the class has of ways -/
def wZ (i : Int32) (I : px_I) (R : px_R) (I2 : px_I) (R2 : px_R) : Prop := wFr I I2 R ∧ ((¬ ((0 ≤ i ∧ i < 6) ∧ I2 76 14 = 0) ∧ (∀ k, R2 89 k = R 89 k) ∧ R2 76 1 = R 76 1 ∧ I2 90 = I 90) ∨ (((0 ≤ i ∧ i < 6) ∧ I2 76 14 = 0) ∧ ∃ w d, R 76 1 = some w ∧ (w = 77 ∨ 147 ≤ w) ∧ (d = 77 ∨ 147 ≤ d) ∧ (∀ k, R2 89 k = px_u R 89 i.toNatClampNeg (some w) 89 k) ∧ R2 76 1 = some d ∧ (R 89 i.toNatClampNeg = some d ∨ (R 89 i.toNatClampNeg = none ∧ (∀ j, j < 6 → ¬ R 89 j = some d) ∧ ¬ d = w)) ∧ (∀ z H, ZG (byC I) (nC I) zr0 zg0 z H → cOx I2 w (H.1 0)) ∧ (∀ k : Nat, k < 16 → I2 90 (16 * i.toNatClampNeg + k) = 0) ∧ ∀ k : Nat, (k < 16 * i.toNatClampNeg ∨ 16 * i.toNatClampNeg + 16 ≤ k) → I2 90 k = I 90 k))
/-- frames of reading -/
theorem xRead_w {n w : Nat} {I J : px_I} {R : px_R} (hw : cWay n w) (h0 : w = 77 ∨ 147 ≤ w) (hT : cTold n I (cRW R w)) (h : cRG w I J) : ∀ j, j < 6 → ∀ x, cRW R w 89 j = some x → ¬ x = w → J x = I x ∧ J (x + 1) = I (x + 1) ∧ J (x + 2) = I (x + 2) := fun j hj x hx hn => by
  obtain ⟨t1, t2, -⟩ := hT j hj x hx
  have q := cWay_ne t2 hw hn
  have f : ∀ b, ((77 ≤ b ∧ b ≤ 79) ∨ 147 ≤ b) → b ≠ w → b ≠ w + 1 → b ≠ w + 2 → J b = I b := fun b hb n1 n2 n3 => funext fun k => h b k (by omega) (by omega) (by omega) n1 n2 n3
  refine ⟨f x (by omega) hn q.1 q.2.1, f (x + 1) (by omega) (by have := q.2.2.1; have := q.2.2.2; omega) (by omega) (by have := q.1; omega), f (x + 2) (by omega) q.2.2.1 q.2.2.2 (by omega)⟩
theorem cOx.rd {w : Nat} {I I2 : px_I} (hw : w = 77 ∨ 147 ≤ w) (hl : 0 ≤ I 70 5 ∧ I 70 5 ≤ 400) {J : px_I} (h : xRead w I J) (h0 : J 76 14 = 0) (e : I2 w = J w ∧ I2 (w + 1) = J (w + 1) ∧ I2 (w + 2) = J (w + 2)) : ∀ z H, ZG (byC I) (nC I) zr0 zg0 z H → cOx I2 w (H.1 0) := fun z H hz => by
  obtain ⟨r, H2, r1, r2, r3⟩ := xRead.N hw hl h
  obtain ⟨e1, e2⟩ := ZG.det r1 hz
  subst e2
  have r0 : r.1 = 0 := by
    rcases r2 with ⟨a, -⟩ | ⟨a, b, -⟩
    · exact a
    · rw [h0] at b; rw [← b] at a; exact absurd a (by decide)
  exact (r3 r0).eq e.1 e.2.1 e.2.2
/-- a way that is refused -/
theorem wZ.a {n w : Nat} {i : Int32} {I : px_I} {R : px_R} (hi : ¬ (0 ≤ i ∧ i < 6)) : wZ i I (cRW R w) I (cRW R w) := ⟨⟨fun _ _ _ _ _ => ⟨rfl, rfl, rfl⟩, rfl, rfl⟩, Or.inl ⟨fun z => hi z.1, fun _ => rfl, rfl, rfl⟩⟩
theorem wZ.b {n w : Nat} {i : Int32} {I J : px_I} {R : px_R} (hw : cWay n w) (h0 : w = 77 ∨ 147 ≤ w) (hT : cTold n I (cRW R w)) (h : cRG w I J) (hJ : ¬ J 76 14 = 0) : wZ i I (cRW R w) (px_u J 70 5 0) (cRW R w) := by
  have f : ∀ b, 84 < b → b < 147 → px_u J 70 5 0 b = I b := fun b b1 b2 => funext fun k => by rw [px_u_ne (by omega)]; exact h b k (by omega) (by omega) (by omega) (by omega) (by omega) (by omega)
  refine ⟨⟨fun j hj x hx hn => ?_, f 91 (by decide) (by decide), f 86 (by decide) (by decide)⟩, Or.inl ⟨fun z => ?_, fun _ => rfl, rfl, f 90 (by decide) (by decide)⟩⟩
  · have t1 := (hT j hj x hx).1
    have q := xRead_w hw h0 hT h j hj x hx (fun e => hn (by rw [e]; rfl))
    rw [px_u_ne (by omega), px_u_ne (by omega), px_u_ne (by omega)]
    exact q
  · have := z.2
    rw [px_u_ne (by decide)] at this
    exact hJ this
theorem wZ.c {n d w : Nat} {i : Int32} {I J I2 : px_I} {R R2 : px_R} (h147 : 147 ≤ n) (hw : cWay n w) (h0 : w = 77 ∨ 147 ≤ w) (hi : 0 ≤ i ∧ i < 6) (hl : 0 ≤ I 70 5 ∧ I 70 5 ≤ 400) (hT : cTold n I (cRW R w)) (h : cRG w I J) (hx : xRead w I J) (hJ : J 76 14 = 0) (k7 : ∀ b j, b < n → b ≠ 90 → I2 b j = px_u J 70 5 0 b j) (h89 : ∀ k, R2 89 k = px_u (cRW R w) 89 i.toNatClampNeg (some w) 89 k) (hd : cRW R w 89 i.toNatClampNeg = some d ∨ (cRW R w 89 i.toNatClampNeg = none ∧ d = n)) (h90 : ∀ k : Nat, k < 16 → I2 90 (16 * i.toNatClampNeg + k) = 0) (h90b : ∀ k : Nat, (k < 16 * i.toNatClampNeg ∨ 16 * i.toNatClampNeg + 16 ≤ k) → I2 90 k = px_u J 70 5 0 90 k) (hd0 : d = 77 ∨ 147 ≤ d) : wZ i I (cRW R w) I2 (px_u R2 76 1 (some d)) := by
  have g : ∀ b, b < n → b ≠ 90 → b ≠ 70 → I2 b = J b := fun b b1 b2 b3 => funext fun k => by rw [k7 b k b1 b2, px_u_ne b3]
  have f : ∀ b, 84 < b → b < 147 → J b = I b := fun b b1 b2 => funext fun k => h b k (by omega) (by omega) (by omega) (by omega) (by omega) (by omega)
  have wn : w < n ∧ w + 1 < n ∧ w + 2 < n := ⟨hw.1.2.1, hw.2.1.2.1, hw.2.2.2.1⟩
  refine ⟨⟨fun j hj x hx2 hn => ?_, ?_, ?_⟩, Or.inr ⟨⟨hi, ?_⟩, w, d, rfl, h0, hd0, fun k => ?_, px_u_at, ?_, cOx.rd h0 hl hx hJ ⟨g w wn.1 (by omega) (by omega), g (w + 1) wn.2.1 (by omega) (by omega), g (w + 2) wn.2.2 (by omega) (by omega)⟩, h90, fun k hk => ?_⟩⟩
  · obtain ⟨t1, t2, -⟩ := hT j hj x hx2
    have xn : x < n ∧ x + 1 < n ∧ x + 2 < n := ⟨t2.1.2.1, t2.2.1.2.1, t2.2.2.2.1⟩
    have q := xRead_w hw h0 hT h j hj x hx2 (fun e => hn (by rw [e]; rfl))
    rw [g x xn.1 (by omega) (by omega), g (x + 1) xn.2.1 (by omega) (by omega), g (x + 2) xn.2.2 (by omega) (by omega)]
    exact q
  · rw [g 91 (by omega) (by decide) (by decide)]; exact f 91 (by decide) (by decide)
  · rw [g 86 (by omega) (by decide) (by decide)]; exact f 86 (by decide) (by decide)
  · rw [g 76 (by omega) (by decide) (by decide)]; exact hJ
  · rw [px_u_ne (by decide)]; exact h89 k
  · refine hd.imp id (fun q => ⟨q.1, fun j hj e => ?_, fun e => by omega⟩)
    have := (hT j hj d e).2.1.1.2.1
    omega
  · rw [h90b k hk, px_u_ne (by decide)]
    exact h 90 k (by omega) (by omega) (by omega) (by omega) (by omega) (by omega)
theorem c_repZ {n w : Nat} {I : px_I} {L : px_L} {R : px_R} {i : Int32} {r : Option Value} {n2 d : Nat} {I2 : px_I} {L2 : px_L} {R2 : px_R} (hn : 147 ≤ n) (h : ∃ I1, cFj i 16 I I1 ∧ ((∃ x, R 89 i.toNatClampNeg = some x ∧ r = some (.ref x) ∧ n2 = n ∧ I2 = I1 ∧ L2 = L ∧ R2 = px_u R 89 i.toNatClampNeg (some w)) ∨ (R 89 i.toNatClampNeg = none ∧ r = some (.ref n) ∧ n2 = n + 3 ∧ mkW n I1 L (px_u R 89 i.toNatClampNeg (some w)) I2 L2 R2))) (hr : r = some (.ref d)) : (∀ k, R2 89 k = px_u R 89 i.toNatClampNeg (some w) 89 k) ∧ (R 89 i.toNatClampNeg = some d ∨ (R 89 i.toNatClampNeg = none ∧ d = n)) ∧ (∀ k : Nat, k < 16 → I2 90 (16 * i.toNatClampNeg + k) = 0) ∧ ∀ k : Nat, (k < 16 * i.toNatClampNeg ∨ 16 * i.toNatClampNeg + 16 ≤ k) → I2 90 k = I 90 k := by
  obtain ⟨I1, ⟨-, f1, f2⟩, h2⟩ := h
  rcases h2 with ⟨x, a1, a2, -, rfl, -, rfl⟩ | ⟨a1, a2, -, hm⟩
  · rw [hr] at a2
    have e : d = x := Value.ref.inj (Option.some.inj a2)
    exact ⟨fun _ => rfl, Or.inl (by rw [e]; exact a1), f1, f2⟩
  · rw [hr] at a2
    have e : d = n := Value.ref.inj (Option.some.inj a2)
    have m90 : I2 90 = I1 90 := (hm.1 90 (by omega) (by omega) (by omega)).1
    refine ⟨fun k => ?_, Or.inr ⟨a1, e⟩, fun k hk => by rw [m90]; exact f1 k hk, fun k hk => by rw [m90]; exact f2 k hk⟩
    rw [(hm.1 89 (by omega) (by omega) (by omega)).2.2]

set_option maxRecDepth 100000 in
theorem ls_forgetAll {n : Nat} {R : px_R} (hg : px_G n R) {Q : px_Q} {I : px_I} {L : px_L} (hq : ∀ I2, cKF I I2 → (∀ k : Nat, k < 96 → I2 90 k = 0) → Q none n I2 L R) : ∀ i : Int32, i ≤ 96 → 0 ≤ i → ∀ I1, cKF I I1 → (∀ k : Nat, k < i.toNatClampNeg → I1 90 k = 0) → px M_X5_forgetAll 0 0 2 [(0, .ref 85), (1, .int i)] [] n I1 L R Q := by
  refine px_up 96 (fun i ih hi => ?_)
  intro h0 I1 h1 hz
  have up := (px_tnS h0 (by grind)).1
  refine px_ige rfl q_X5_forgetAll_2 hg rfl trivial (fun c5 => ?_) (fun c5 => ?_)
  · refine px_rv rfl q_X5_forgetAll_21 rfl rfl rfl hg rfl trivial ?_
    have e9 : i = 96 := by grind
    subst e9
    exact hq _ h1 (fun k hk => hz k (by rw [show (96 : Int32).toNatClampNeg = 96 by decide]; exact hk))
  · refine px_b rfl q_X5_forgetAll_8 hg rfl ⟨trivial, (by first | decide | (refine ⟨?_, ?_⟩ <;> grind) | grind)⟩ ?_
    exact px_go (ih (i + 1) (by grind) (by grind) (by grind) _ (h1.u _ _) (fun k hk => by
      by_cases e : k = i.toNatClampNeg
      · rw [e, px_u_at]; decide
      · rw [px_u_at_ne e]; exact hz k (by omega))) ⟨rfl, rfl, trivial⟩

set_option maxRecDepth 100000 in
theorem cs_forgetAll {n : Nat} {I : px_I} {L : px_L} {R : px_R} (hg : px_G n R)  : px_KV M_X5_forgetAll [.ref 85] n I L R (fun I2 L2 => L2 = L ∧ cKF I I2 ∧ ∀ k : Nat, k < 96 → I2 90 k = 0) := by
  refine px_of (plainFor_of_name np_RX5) (fun _ _ _ => trivial) rfl ?_
  refine px_b rfl q_X5_forgetAll_0 hg rfl trivial ?_
  exact px_go (ls_forgetAll hg (fun I2 h hz => ⟨rfl, rfl, rfl, rfl, h, hz⟩) 0 (by decide) (by decide) I (fun _ _ => rfl) (fun k hk => absurd hk (by rw [xz0]; exact Nat.not_lt_zero _))) ⟨rfl, rfl, trivial⟩

set_option maxRecDepth 100000 in
theorem bs_tools {n : Nat} {I : px_I} {L : px_L} {R : px_R} (hg : px_G n R) (a b c d e : Int32) : px_KS M_X11_tools [.ref 32, .int a, .int b, .int c, .int d, .int e] n I L R (fun r I2 L2 => L2 = L ∧ ((((0 ≤ a ∧ a ≤ 1000) ∧ (0 ≤ b ∧ b ≤ 1000) ∧ (0 ≤ c ∧ c ≤ 1000) ∧ (0 ≤ d ∧ d ≤ 10000) ∧ (0 ≤ e ∧ e ≤ 1000)) ∧ r = 1 ∧ cKF (px_u (px_u (px_u (px_u (px_u I 86 3 a) 86 4 b) 86 5 c) 86 6 d) 86 7 e) I2 ∧ ∀ k : Nat, k < 96 → I2 90 k = 0) ∨ (¬ ((0 ≤ a ∧ a ≤ 1000) ∧ (0 ≤ b ∧ b ≤ 1000) ∧ (0 ≤ c ∧ c ≤ 1000) ∧ (0 ≤ d ∧ d ≤ 10000) ∧ (0 ≤ e ∧ e ≤ 1000)) ∧ r = 0 ∧ I2 = I))) := by
  refine px_of (plainFor_of_name np_RX11) (fun _ _ _ => trivial) rfl ?_
  refine px_cSP rfl q_X11_tools_0 hg rfl trivial lk_11_85 nm_X11_within (c_within hg _ _ _) rfl rfl rfl ⟨rfl, rfl⟩ ?_
  intro x5 h5
  refine px_eq rfl q_X11_tools_8 hg rfl trivial (fun c8 => ?_) (fun c8 => ?_)
  · replace h5 := px_bf h5 c8
    refine px_rzS rfl q_X11_tools_33 rfl rfl rfl hg rfl trivial ⟨⟨rfl, rfl⟩, (by first | exact Or.inl rfl | exact Or.inr rfl | grind), ?_⟩
    first | exact ⟨rfl, Or.inr ⟨fun z => by grind, rfl, rfl⟩⟩ | exact ⟨rfl, Or.inl ⟨⟨by assumption, by assumption, by assumption, by assumption, by assumption⟩, rfl, by assumption⟩⟩
  · replace h5 := px_bt h5 c8
    refine px_cSP rfl q_X11_tools_11 hg rfl trivial lk_11_85 nm_X11_within (c_within hg _ _ _) rfl rfl rfl ⟨rfl, rfl⟩ ?_
    intro x16 h16
    refine px_eq rfl q_X11_tools_19 hg rfl trivial (fun c19 => ?_) (fun c19 => ?_)
    · replace h16 := px_bf h16 c19
      refine px_rzS rfl q_X11_tools_33 rfl rfl rfl hg rfl trivial ⟨⟨rfl, rfl⟩, (by first | exact Or.inl rfl | exact Or.inr rfl | grind), ?_⟩
      first | exact ⟨rfl, Or.inr ⟨fun z => by grind, rfl, rfl⟩⟩ | exact ⟨rfl, Or.inl ⟨⟨by assumption, by assumption, by assumption, by assumption, by assumption⟩, rfl, by assumption⟩⟩
    · replace h16 := px_bt h16 c19
      refine px_cSP rfl q_X11_tools_22 hg rfl trivial lk_11_85 nm_X11_within (c_within hg _ _ _) rfl rfl rfl ⟨rfl, rfl⟩ ?_
      intro x27 h27
      refine px_ne rfl q_X11_tools_30 hg rfl trivial (fun c30 => ?_) (fun c30 => ?_)
      · replace h27 := px_bt h27 c30
        refine px_cSP rfl q_X11_tools_35 hg rfl trivial lk_11_85 nm_X11_within (c_within hg _ _ _) rfl rfl rfl ⟨rfl, rfl⟩ ?_
        intro x41 h41
        refine px_eq rfl q_X11_tools_44 hg rfl trivial (fun c44 => ?_) (fun c44 => ?_)
        · replace h41 := px_bf h41 c44
          refine px_rzS rfl q_X11_tools_59 rfl rfl rfl hg rfl trivial ⟨⟨rfl, rfl⟩, (by first | exact Or.inl rfl | exact Or.inr rfl | grind), ?_⟩
          first | exact ⟨rfl, Or.inr ⟨fun z => by grind, rfl, rfl⟩⟩ | exact ⟨rfl, Or.inl ⟨⟨by assumption, by assumption, by assumption, by assumption, by assumption⟩, rfl, by assumption⟩⟩
        · replace h41 := px_bt h41 c44
          refine px_cSP rfl q_X11_tools_47 hg rfl trivial lk_11_85 nm_X11_within (c_within hg _ _ _) rfl rfl rfl ⟨rfl, rfl⟩ ?_
          intro x53 h53
          refine px_ne rfl q_X11_tools_56 hg rfl trivial (fun c56 => ?_) (fun c56 => ?_)
          · replace h53 := px_bt h53 c56
            refine px_cVW (ci := 9) rfl q_X11_tools_61 hg rfl trivial lk_11_209 nm_X9_take (c_takeW hg _ _ _ _ _) rfl rfl (px_lit hg rfl) rfl rfl rfl ⟨rfl, rfl⟩ ?_
            intro I75 L75 h75
            obtain ⟨rfl, rfl⟩ := h75
            refine px_cVW (ci := 5) rfl q_X11_tools_78 hg rfl trivial lk_11_215 nm_X5_forgetAll (cs_forgetAll hg) rfl rfl (px_lit hg rfl) rfl rfl rfl ⟨rfl, rfl⟩ ?_
            intro I82 L82 h82
            obtain ⟨rfl, h82⟩ := h82
            refine px_rzS rfl q_X11_tools_85 rfl rfl rfl hg rfl trivial ⟨⟨rfl, rfl⟩, (by first | exact Or.inl rfl | exact Or.inr rfl | grind), ?_⟩
            first | exact ⟨rfl, Or.inr ⟨fun z => by grind, rfl, rfl⟩⟩ | exact ⟨rfl, Or.inl ⟨⟨by assumption, by assumption, by assumption, by assumption, by assumption⟩, rfl, by assumption⟩⟩
          · replace h53 := px_bf h53 c56
            refine px_rzS rfl q_X11_tools_59 rfl rfl rfl hg rfl trivial ⟨⟨rfl, rfl⟩, (by first | exact Or.inl rfl | exact Or.inr rfl | grind), ?_⟩
            first | exact ⟨rfl, Or.inr ⟨fun z => by grind, rfl, rfl⟩⟩ | exact ⟨rfl, Or.inl ⟨⟨by assumption, by assumption, by assumption, by assumption, by assumption⟩, rfl, by assumption⟩⟩
      · replace h27 := px_bf h27 c30
        refine px_rzS rfl q_X11_tools_33 rfl rfl rfl hg rfl trivial ⟨⟨rfl, rfl⟩, (by first | exact Or.inl rfl | exact Or.inr rfl | grind), ?_⟩
        first | exact ⟨rfl, Or.inr ⟨fun z => by grind, rfl, rfl⟩⟩ | exact ⟨rfl, Or.inl ⟨⟨by assumption, by assumption, by assumption, by assumption, by assumption⟩, rfl, by assumption⟩⟩

set_option maxRecDepth 100000 in
theorem ls_rep27N {n : Nat} {R : px_R} (hg : px_G n R) {Q : px_Q} (i : Int32) (d x : Nat) (hi : 0 ≤ i ∧ i < 6) {I : px_I} {L : px_L} (kk : ∀ I2, cFj i 16 I I2 → px M_X5_replace 0 0 53 [(0, .ref 85), (1, .int i), (2, .ref d), (3, .null)] [] n I2 L R Q) : ∀ j : Int32, j ≤ 16 → 0 ≤ j → ∀ I1, cFj i j.toNatClampNeg I I1 → px M_X5_replace 0 0 27 [(0, .ref 85), (1, .int i), (2, .ref d), (3, .null), (4, .int j)] [] n I1 L R Q := by
  refine px_up 16 (fun j ih hj => ?_)
  intro h0 I1 h1
  have up := (px_tnS h0 (by grind)).1
  refine px_ige rfl q_X5_replace_27 hg rfl trivial (fun c31 => ?_) (fun c31 => ?_)
  · have e9 : j = 16 := by grind
    subst e9
    exact px_go (kk _ h1) ⟨rfl, rfl, rfl, rfl, trivial⟩
  · refine px_b rfl q_X5_replace_34 hg rfl ⟨trivial, (by first | exact Or.inl rfl | (refine ⟨?_, ?_⟩ <;> grind))⟩ ?_
    exact px_go (ih (j + 1) (by grind) (by grind) (by grind) _ (by rw [up]; exact h1.at (kJ hi ⟨h0, by grind⟩) (by decide))) ⟨rfl, rfl, rfl, rfl, rfl, trivial⟩

set_option maxRecDepth 100000 in
theorem ls_rep27R {n : Nat} {R : px_R} (hg : px_G n R) {Q : px_Q} (i : Int32) (d x : Nat) (hi : 0 ≤ i ∧ i < 6) {I : px_I} {L : px_L} (kk : ∀ I2, cFj i 16 I I2 → px M_X5_replace 0 0 53 [(0, .ref 85), (1, .int i), (2, .ref d), (3, .ref x)] [] n I2 L R Q) : ∀ j : Int32, j ≤ 16 → 0 ≤ j → ∀ I1, cFj i j.toNatClampNeg I I1 → px M_X5_replace 0 0 27 [(0, .ref 85), (1, .int i), (2, .ref d), (3, .ref x), (4, .int j)] [] n I1 L R Q := by
  refine px_up 16 (fun j ih hj => ?_)
  intro h0 I1 h1
  have up := (px_tnS h0 (by grind)).1
  refine px_ige rfl q_X5_replace_27 hg rfl trivial (fun c31 => ?_) (fun c31 => ?_)
  · have e9 : j = 16 := by grind
    subst e9
    exact px_go (kk _ h1) ⟨rfl, rfl, rfl, rfl, trivial⟩
  · refine px_b rfl q_X5_replace_34 hg rfl ⟨trivial, (by first | exact Or.inl rfl | (refine ⟨?_, ?_⟩ <;> grind))⟩ ?_
    exact px_go (ih (j + 1) (by grind) (by grind) (by grind) _ (by rw [up]; exact h1.at (kJ hi ⟨h0, by grind⟩) (by decide))) ⟨rfl, rfl, rfl, rfl, rfl, trivial⟩

set_option maxRecDepth 100000 in
theorem cs_replace {n : Nat} {I : px_I} {L : px_L} {R : px_R} (hg : px_G n R) {k : Nat} (hn : n = 147 + 3 * k) (i : Int32) (d : Nat) (hi : 0 ≤ i ∧ i < 6) (hd : px_is n d 10) : px_K M_X5_replace [.ref 85, .int i, .ref d] n I L R (fun r n' I' L' R' => ∃ I1, cFj i 16 I I1 ∧ ((∃ x, R 89 i.toNatClampNeg = some x ∧ r = some (.ref x) ∧ n' = n ∧ I' = I1 ∧ L' = L ∧ R' = px_u R 89 i.toNatClampNeg (some d)) ∨ (R 89 i.toNatClampNeg = none ∧ r = some (.ref n) ∧ n' = n + 3 ∧ mkW n I1 L (px_u R 89 i.toNatClampNeg (some d)) I' L' R'))) := by
  refine px_of (plainFor_of_name np_RX5) (fun _ _ _ => trivial) rfl ?_
  refine px_cVP (ci := 5) rfl q_X5_replace_0 hg rfl trivial lk_5_32 nm_X5_hasPlace (c_hasPlace hg _) rfl rfl (px_lit hg rfl) rfl rfl rfl ⟨rfl, rfl⟩ ?_
  intro x2 h2
  refine px_ne rfl q_X5_replace_5 hg rfl trivial (fun c5 => ?_) (fun c5 => ?_)
  · replace h2 := px_bt h2 c5
    refine px_b rfl q_X5_replace_10 hg rfl trivial ?_
    refine px_aald hg (by decide +kernel) hi ?_
    rcases hv : R 89 i.toNatClampNeg with _ | x
    · refine px_b rfl q_X5_replace_16 hg rfl trivial ?_
      refine px_aast hg hd (by decide +kernel) hi ?_
      have hg := px_G89 (k := i.toNatClampNeg) (w := d) hg
      refine px_b rfl q_X5_replace_24 hg rfl trivial ?_
      first | exact px_go (ls_rep27N hg i d 0 hi (fun I2 h => l_rep53N hg hn i d (fun I3 L3 R3 h3 => ⟨I2, h, Or.inr ⟨(by first | exact hv | rfl), rfl, rfl, h3⟩⟩)) 0 (by decide) (by decide) I cFj.zero) ⟨rfl, rfl, rfl, rfl, rfl, trivial⟩ | exact px_go (ls_rep27R hg i d x hi (fun I2 h => l_rep53R hg i d x ⟨I2, h, Or.inl ⟨x, (by first | exact hv | rfl), rfl, rfl, rfl, rfl, rfl⟩⟩) 0 (by decide) (by decide) I cFj.zero) ⟨rfl, rfl, rfl, rfl, rfl, trivial⟩
    · refine px_b rfl q_X5_replace_16 hg rfl trivial ?_
      refine px_aast hg hd (by decide +kernel) hi ?_
      have hg := px_G89 (k := i.toNatClampNeg) (w := d) hg
      refine px_b rfl q_X5_replace_24 hg rfl trivial ?_
      first | exact px_go (ls_rep27N hg i d 0 hi (fun I2 h => l_rep53N hg hn i d (fun I3 L3 R3 h3 => ⟨I2, h, Or.inr ⟨(by first | exact hv | rfl), rfl, rfl, h3⟩⟩)) 0 (by decide) (by decide) I cFj.zero) ⟨rfl, rfl, rfl, rfl, rfl, trivial⟩ | exact px_go (ls_rep27R hg i d x hi (fun I2 h => l_rep53R hg i d x ⟨I2, h, Or.inl ⟨x, (by first | exact hv | rfl), rfl, rfl, rfl, rfl, rfl⟩⟩) 0 (by decide) (by decide) I cFj.zero) ⟨rfl, rfl, rfl, rfl, rfl, trivial⟩
  · exact absurd hi (px_bf h2 c5)
