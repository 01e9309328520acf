/-! what agrees of the ways that were told -/
def dist (R : px_R) : Prop := (∀ j, j < 6 → ∀ x, R 89 j = some x → ¬ R 76 1 = some x) ∧ (∀ i j, i < 6 → j < 6 → ¬ i = j → ∀ x, R 89 i = some x → ¬ R 89 j = some x) ∧ ∀ j, j < 6 → ∀ x, R 89 j = some x → x = 77 ∨ 147 ≤ x
def wyP (I : px_I) (R : px_R) (Z : Nat → zL) : Prop := cHas I R Z ∧ mHas I Z ∧ dist R ∧ (∀ j, j < 6 → I 129 j = (if (R 89 j).isSome = true then 1 else 0)) ∧ ∀ k, k < 5 → cTl I k = tR I k
def WY (I : px_I) (R : px_R) : Prop := ∃ Z, wyP I R Z
noncomputable def Zc (I : px_I) (R : px_R) : Nat → zL := Classical.epsilon (fun Z => wyP I R Z)
theorem WY.Z {I : px_I} {R : px_R} (h : WY I R) : wyP I R (Zc I R) := Classical.epsilon_spec h
theorem mHas.eq {I I2 : px_I} {Z : Nat → zL} (h : mHas I Z) (h0 : I2 129 = I 129) (h1 : I2 130 = I 130) (h2 : I2 131 = I 131) : mHas I2 Z := fun w w0 w1 w2 => by
  rw [h0] at w2
  exact (h w w0 w1 w2).same (fun q _ _ => by rw [h1, h2]; exact ⟨rfl, rfl⟩)
/-- the tables of the class as they were -/
theorem cHas.eq {I I2 : px_I} {R R2 : px_R} {Z : Nat → zL} (h : cHas I R Z) (hR : ∀ j, j < 6 → R2 89 j = R 89 j) (hT : ∀ k, k < 5 → cTl I2 k = cTl I k) (h90 : I2 90 = I 90) (h91 : I2 91 = I 91) (hx : ∀ j, j < 6 → ∀ x, R 89 j = some x → I2 x = I x ∧ I2 (x + 1) = I (x + 1) ∧ I2 (x + 2) = I (x + 2)) : cHas I2 R2 Z := by
  obtain ⟨a1, a2, a3⟩ := h
  refine ⟨fun k hk => by rw [hT k hk]; exact a1 k hk, fun j hj x h1 => ?_, fun j hj x h1 h hh hk q hq => ?_⟩
  · rw [hR j hj] at h1
    have e := hx j hj x h1
    exact (a2 j hj x h1).eq e.1 e.2.1 e.2.2
  · rw [hR j hj] at h1
    rw [h90] at hk
    rw [h91, aRes_t hT]
    exact a3 j hj x h1 h hh hk q hq
def kQ (R : px_R) (R2 : px_R) : Prop := ∀ b k, (b = 89 ∨ (b = 76 ∧ k = 1)) → R2 b k = R b k
theorem dist.eq {R R2 : px_R} (h : dist R) (hq : kQ R R2) : dist R2 := by
  have e : ∀ j, R2 89 j = R 89 j := fun j => hq 89 j (Or.inl rfl)
  have e1 : R2 76 1 = R 76 1 := hq 76 1 (Or.inr ⟨rfl, rfl⟩)
  exact ⟨fun j hj x hx => by rw [e] at hx; rw [e1]; exact h.1 j hj x hx, fun i j hi hj hn x hx => by rw [e] at hx; rw [e]; exact h.2.1 i j hi hj hn x hx, fun j hj x hx => by rw [e] at hx; exact h.2.2 j hj x hx⟩
/-- behind a call that asks of ways -/
theorem WY.ask {I I2 I3 : px_I} {R R2 : px_R} {Z : Nat → zL} (h : wyP I R Z) (c : cHas I2 R Z) (hB : ∀ b, b < 103 ∨ 147 ≤ b → I3 b = I2 b) (h129 : I3 129 = I 129) (h130 : I3 130 = I 130) (h131 : I3 131 = I 131) (hk : ∀ k, k < 5 → I3 103 (47 + k) = I 103 (47 + k)) (hb : ∀ k, k < 5 → I2 86 (3 + k) = I 86 (3 + k)) (hq : kQ R R2) : WY I3 R2 := by
  obtain ⟨-, m, D, t, tl⟩ := h
  have eT : ∀ k, k < 5 → cTl I3 k = cTl I2 k := fun k _ => by unfold cTl; rw [hB 86 (by omega)]
  refine ⟨Z, c.eq (fun j _ => hq 89 j (Or.inl rfl)) eT (hB 90 (by omega)) (hB 91 (by omega)) (fun j hj x hx => ?_), m.eq h129 h130 h131, D.eq hq, fun j hj => ?_, fun k hk9 => ?_⟩
  · have := D.2.2 j hj x hx
    exact ⟨hB x (by omega), hB (x + 1) (by omega), hB (x + 2) (by omega)⟩
  · rw [h129, hq 89 j (Or.inl rfl)]; exact t j hj
  · rw [eT k hk9]
    show I2 86 (3 + k) = I3 103 (47 + k)
    rw [hb k hk9, hk k hk9]
    exact tl k hk9
/-- behind a call that has nothing to do with ways -/
theorem wy_eq {I I3 : px_I} {R R2 : px_R} (h90 : I3 90 = I 90) (h91 : I3 91 = I 91) (b3 : I3 86 3 = I 86 3) (b4 : I3 86 4 = I 86 4) (b5 : I3 86 5 = I 86 5) (b6 : I3 86 6 = I 86 6) (b7 : I3 86 7 = I 86 7) (hT : ∀ b, ((77 ≤ b ∧ b ≤ 79) ∨ 147 ≤ b) → I3 b = I b) (h129 : I3 129 = I 129) (h130 : I3 130 = I 130) (h131 : I3 131 = I 131) (k7 : I3 103 47 = I 103 47) (k8 : I3 103 48 = I 103 48) (k9 : I3 103 49 = I 103 49) (k10 : I3 103 50 = I 103 50) (k11 : I3 103 51 = I 103 51) (hq : kQ R R2) (h : WY I R) : WY I3 R2 := by
  obtain ⟨Z, c, m, D, t, tl⟩ := h
  have k5 : ∀ P : Nat → Prop, P 0 → P 1 → P 2 → P 3 → P 4 → ∀ k, k < 5 → P k := fun P p0 p1 p2 p3 p4 k hk => by
    rcases (by omega : k = 0 ∨ k = 1 ∨ k = 2 ∨ k = 3 ∨ k = 4) with rfl | rfl | rfl | rfl | rfl <;> assumption
  have eT : ∀ k, k < 5 → cTl I3 k = cTl I k := k5 _ b3 b4 b5 b6 b7
  have eR : ∀ k, k < 5 → tR I3 k = tR I k := k5 _ k7 k8 k9 k10 k11
  refine ⟨Z, c.eq (fun j _ => hq 89 j (Or.inl rfl)) eT h90 h91 (fun j hj x hx => ?_), m.eq h129 h130 h131, D.eq hq, fun j hj => ?_, fun k hk9 => by rw [eT k hk9, eR k hk9]; exact tl k hk9⟩
  · have := D.2.2 j hj x hx
    exact ⟨hT x (by omega), hT (x + 1) (by omega), hT (x + 2) (by omega)⟩
  · rw [h129, hq 89 j (Or.inl rfl)]; exact t j hj
theorem WY.tools {I I2 I3 : px_I} {R R2 : px_R} {a b c d e : Int32} (h : WY I R) (ha : (0 ≤ a ∧ a ≤ 1000) ∧ (0 ≤ b ∧ b ≤ 1000) ∧ (0 ≤ c ∧ c ≤ 1000) ∧ (0 ≤ d ∧ d ≤ 10000) ∧ (0 ≤ e ∧ e ≤ 1000)) (h2 : cKF (px_u (px_u (px_u (px_u (px_u I 86 3 a) 86 4 b) 86 5 c) 86 6 d) 86 7 e) I2) (hz : ∀ k : Nat, k < 96 → I2 90 k = 0) (hB : ∀ b, b < 103 ∨ 147 ≤ b → I3 b = I2 b) (h3 : I3 = px_u (px_u (px_u (px_u (px_u I2 103 47 a) 103 48 b) 103 49 c) 103 50 d) 103 51 e) (hq : kQ R R2) : WY I3 R2 := by
  obtain ⟨Z, c1, m, D, t, tl⟩ := h
  have k5 : ∀ P : Nat → Prop, P 0 → P 1 → P 2 → P 3 → P 4 → ∀ k, k < 5 → P k := fun P p0 p1 p2 p3 p4 k hk => by
    rcases (by omega : k = 0 ∨ k = 1 ∨ k = 2 ∨ k = 3 ∨ k = 4) with rfl | rfl | rfl | rfl | rfl <;> assumption
  have e86 : I3 86 = px_u (px_u (px_u (px_u (px_u I 86 3 a) 86 4 b) 86 5 c) 86 6 d) 86 7 e 86 := (hB 86 (by omega)).trans (h2 86 (by decide))
  have f2 : ∀ b', b' ≠ 86 → b' ≠ 90 → I2 b' = I b' := fun b' b1 b2 => by rw [h2 b' b2]; repeat rw [px_u_ne b1]
  have f3 : ∀ b', b' ≠ 86 → b' ≠ 90 → b' ≠ 103 → I3 b' = I b' := fun b' b1 b2 b3 => by rw [h3]; (repeat rw [px_u_ne b3]); exact f2 b' b1 b2
  have c0 : cTl I3 0 = a := by show I3 86 3 = a; rw [e86]; simp [px_ur]
  have c1' : cTl I3 1 = b := by show I3 86 4 = b; rw [e86]; simp [px_ur]
  have c2 : cTl I3 2 = c := by show I3 86 5 = c; rw [e86]; simp [px_ur]
  have c3 : cTl I3 3 = d := by show I3 86 6 = d; rw [e86]; simp [px_ur]
  have c4 : cTl I3 4 = e := by show I3 86 7 = e; rw [e86]; simp [px_ur]
  have d0 : tR I3 0 = a := by show I3 103 47 = a; rw [h3]; simp [px_ur]
  have d1 : tR I3 1 = b := by show I3 103 48 = b; rw [h3]; simp [px_ur]
  have d2 : tR I3 2 = c := by show I3 103 49 = c; rw [h3]; simp [px_ur]
  have d3 : tR I3 3 = d := by show I3 103 50 = d; rw [h3]; simp [px_ur]
  have d4 : tR I3 4 = e := by show I3 103 51 = e; rw [h3]; simp [px_ur]
  have rng : ∀ x : Int32, 0 ≤ x → x ≤ 10000 → 0 ≤ x.toInt ∧ x.toInt ≤ 10000 := fun x x0 x1 => by
    have a0 := Int32.le_iff_toInt_le.mp x0
    have a1 := Int32.le_iff_toInt_le.mp x1
    rw [show (0 : Int32).toInt = 0 by decide] at a0
    rw [show (10000 : Int32).toInt = 10000 by decide] at a1
    exact ⟨a0, a1⟩
  obtain ⟨r1, r2, r3, r4, r5⟩ := ha
  refine ⟨Z, ⟨k5 _ (by rw [c0]; exact rng a r1.1 (by grind)) (by rw [c1']; exact rng b r2.1 (by grind)) (by rw [c2]; exact rng c r3.1 (by grind)) (by rw [c3]; exact rng d r4.1 r4.2) (by rw [c4]; exact rng e r5.1 (by grind)), fun j hj x hx => ?_, fun j hj x hx h hh hk q hq9 => ?_⟩, m.eq (f3 129 (by decide) (by decide) (by decide)) (f3 130 (by decide) (by decide) (by decide)) (f3 131 (by decide) (by decide) (by decide)), D.eq hq, fun j hj => ?_, k5 _ (by rw [c0, d0]) (by rw [c1', d1]) (by rw [c2, d2]) (by rw [c3, d3]) (by rw [c4, d4])⟩
  · rw [hq 89 j (Or.inl rfl)] at hx
    have n := D.2.2 j hj x hx
    exact (c1.2.1 j hj x hx).eq (f3 x (by omega) (by omega) (by omega)) (f3 (x + 1) (by omega) (by omega) (by omega)) (f3 (x + 2) (by omega) (by omega) (by omega))
  · rw [hB 90 (by omega), hz _ (by omega)] at hk
    exact absurd rfl hk
  · rw [f3 129 (by decide) (by decide) (by decide), hq 89 j (Or.inl rfl)]; exact t j hj
theorem WY.tools0 {I I3 : px_I} {R R2 : px_R} (h : WY I R) (e : I3 = I) (hq : kQ R R2) : WY I3 R2 := by
  subst e
  obtain ⟨Z, h9⟩ := h
  exact WY.ask h9 h9.1 (fun _ _ => rfl) rfl rfl rfl (fun _ _ => rfl) (fun _ _ => rfl) hq
theorem zgrun_1 {B : Nat → Int32} {n : Nat} : ∀ (f : Nat) (s : zS) (G : zG), (zgrun B n f s G).1 = zrun B n f s
  | 0, _, _ => rfl
  | f + 1, s, G => by
    unfold zgrun zrun
    by_cases c : (zIt B n s).1 = -1
    · rw [if_pos c, if_pos c]; exact zgrun_1 f _ _
    · rw [if_neg c, if_neg c]
theorem ZG.Zr {B : Nat → Int32} {n : Nat} {s : zS} {G H : zG} {r : zR} (h : ZG B n s G r H) : Zr B n s r := by
  obtain ⟨h1, f, h2⟩ := h
  exact ⟨h1, f, by rw [← zgrun_1 f s G, h2]⟩
/-- what a way leaves of what the reference has of ways -/
def kZ (w : Int32) (I : px_I) (I2 : px_I) : Prop := (¬ (0 ≤ w ∧ w ≤ 5) ∧ I2 = I) ∨ ((0 ≤ w ∧ w ≤ 5) ∧ ∃ z H, ZG (byR (yW0 I)) (nR (yW0 I)) zr0 zg0 z H ∧ ((z.1 = 0 ∧ (∀ k, I2 129 k = px_u I 129 w.toNatClampNeg 1 129 k) ∧ mOx I2 w (H.1 0) ∧ ∀ w2 : Int32, 0 ≤ w2 → w2 ≤ 5 → w2 ≠ w → ∀ q : Int32, 0 ≤ q → q < 220 → I2 130 (220 * w2 + q).toNatClampNeg = I 130 (220 * w2 + q).toNatClampNeg ∧ I2 131 (220 * w2 + q).toNatClampNeg = I 131 (220 * w2 + q).toNatClampNeg) ∨ (1 ≤ z.1 ∧ I2 129 = I 129 ∧ I2 130 = I 130 ∧ I2 131 = I 131)))
theorem yWay.Z {I I2 : px_I} {w r : Int32} (hw : 0 ≤ w ∧ w ≤ 5) (h : yWay I I2 w r) : kZ w I I2 := by
  obtain ⟨z, H, h1, h2⟩ := h.N hw
  refine Or.inr ⟨hw, z, H, h1, ?_⟩
  rcases h2 with ⟨a1, a2, a3, a4, a5, a6, a7⟩ | ⟨a1, a2, a3, a4, a5, a6, a7, a8⟩
  · exact Or.inl ⟨a1, a5, a6, a7⟩
  · exact Or.inr ⟨a1, funext a6, a7, a8⟩
theorem WY.way {I I2 I3 : px_I} {R R2 : px_R} {i x : Int32} (h : WY I R) (fB : ∀ b, 103 ≤ b → b < 147 → I2 b = I b) (hB : ∀ b, b < 103 ∨ 147 ≤ b → I3 b = I2 b) (z1 : byC I = byR (yW0 I2)) (z2 : nC I = nR (yW0 I2)) (fR : wZ i I R I2 R2) (qb : qWb i I x I2) (qk : kZ i I2 I3) (hk : ∀ k, k < 5 → I3 103 (47 + k) = I2 103 (47 + k)) : WY I3 R2 := by
  obtain ⟨Z, c, m, D, t, tl⟩ := h
  obtain ⟨⟨w1, w2, w3⟩, w4⟩ := fR
  have e86 : I3 86 = I 86 := (hB 86 (by omega)).trans w3
  have eT : ∀ k, cTl I3 k = cTl I k := fun k => by unfold cTl; rw [e86]
  have e91 : I3 91 = I 91 := (hB 91 (by omega)).trans w2
  have tools : ∀ k, k < 5 → cTl I3 k = tR I3 k := fun k hk9 => by
    rw [eT k, tl k hk9]
    show I 103 (47 + k) = I3 103 (47 + k)
    rw [hk k hk9, fB 103 (by decide) (by decide)]
  have tx : ∀ j, j < 6 → ∀ x, R 89 j = some x → I3 x = I x ∧ I3 (x + 1) = I (x + 1) ∧ I3 (x + 2) = I (x + 2) := fun j hj x hx => by
    have n := D.2.2 j hj x hx
    have q := w1 j hj x hx (D.1 j hj x hx)
    rw [hB x (by omega), hB (x + 1) (by omega), hB (x + 2) (by omega)]
    exact q
  -- the same is said by both
  have same : (¬ ((0 ≤ i ∧ i < 6) ∧ I2 76 14 = 0) ∧ I3 129 = I2 129 ∧ I3 130 = I2 130 ∧ I3 131 = I2 131) ∨ (((0 ≤ i ∧ i < 6) ∧ I2 76 14 = 0) ∧ ∃ z H, ZG (byC I) (nC I) zr0 zg0 z H ∧ (∀ k, I3 129 k = px_u I2 129 i.toNatClampNeg 1 129 k) ∧ mOx I3 i (H.1 0) ∧ ∀ w2 : Int32, 0 ≤ w2 → w2 ≤ 5 → w2 ≠ i → ∀ q : Int32, 0 ≤ q → q < 220 → I3 130 (220 * w2 + q).toNatClampNeg = I2 130 (220 * w2 + q).toNatClampNeg ∧ I3 131 (220 * w2 + q).toNatClampNeg = I2 131 (220 * w2 + q).toNatClampNeg) := by
    rcases qk with ⟨a, rfl⟩ | ⟨a, z, H, a1, a2⟩
    · exact Or.inl ⟨fun q => a (by have := q.1; grind), rfl, rfl, rfl⟩
    · rw [← z1, ← z2] at a1
      rcases qb with ⟨b, -⟩ | ⟨b, z', b1, b2⟩
      · exact absurd (by grind) b
      · have e := Zr.det b1 a1.Zr
        subst e
        rcases a2 with ⟨c1, c2, c3, c4⟩ | ⟨c1, c2, c3, c4⟩
        · have i0 : I2 76 14 = 0 := by
            rcases b2 with ⟨-, -, y, -⟩ | ⟨y, -⟩
            · exact y
            · rw [c1] at y; exact absurd y (by decide)
          exact Or.inr ⟨⟨b, i0⟩, z', H, a1, c2, c3, c4⟩
        · have i0 : ¬ I2 76 14 = 0 := fun q => by
            rcases b2 with ⟨y, -⟩ | ⟨y, -, y2, -⟩
            · rw [y] at c1; exact absurd c1 (by decide)
            · rw [q] at y2; rw [← y2] at y; exact absurd y (by decide)
          exact Or.inl ⟨fun q => i0 q.2, c2, c3, c4⟩
  rcases same with ⟨s0, s1, s2, s3⟩ | ⟨s0, z, H, s1, s2, s3, s4⟩
  · rcases w4 with ⟨-, r1, r2, r3⟩ | ⟨v, -⟩
    · have hq : kQ R R2 := fun b k hb => by
        rcases hb with rfl | ⟨rfl, rfl⟩
        · exact r1 k
        · exact r2
      refine ⟨Z, c.eq (fun j _ => r1 j) (fun k _ => eT k) ((hB 90 (by omega)).trans r3) e91 tx, m.eq (s1.trans (fB 129 (by decide) (by decide))) (s2.trans (fB 130 (by decide) (by decide))) (s3.trans (fB 131 (by decide) (by decide))), D.eq hq, fun j hj => ?_, tools⟩
      rw [s1, fB 129 (by decide) (by decide), r1 j]; exact t j hj
    · exact absurd v s0
  · rcases w4 with ⟨v, -⟩ | ⟨-, w, d, r1, n0, n1, r2, r3, r4, r5, r6, r7⟩
    · exact absurd s0 v
    · have i6 := px_n6 s0.1
      have r2i : R2 89 i.toNatClampNeg = some w := by rw [r2, px_u_at]
      have r2n : ∀ j, ¬ j = i.toNatClampNeg → R2 89 j = R 89 j := fun j hj => by rw [r2, px_u_at_ne hj]
      obtain ⟨c1, c2, c3⟩ := c
      refine ⟨fun j => if j = i.toNatClampNeg then H.1 0 else Z j, ⟨fun k hk9 => by rw [eT k]; exact c1 k hk9, fun j hj x hx => ?_, fun j hj x hx h hh hk9 q hq => ?_⟩, fun v v0 v5 v1 => ?_, ⟨fun j hj x hx => ?_, fun a b ha hb hn x hx => ?_, fun j hj x hx => ?_⟩, fun j hj => ?_, tools⟩
      · by_cases e : j = i.toNatClampNeg
        · rw [e, r2i] at hx
          obtain rfl := Option.some.inj hx
          dsimp only
          rw [if_pos e]
          exact (r5 z H s1).eq (hB w (by omega)) (hB (w + 1) (by omega)) (hB (w + 2) (by omega))
        · rw [r2n j e] at hx
          dsimp only
          rw [if_neg e]
          have q := tx j hj x hx
          exact (c2 j hj x hx).eq q.1 q.2.1 q.2.2
      · rw [hB 90 (by omega)] at hk9
        by_cases e : j = i.toNatClampNeg
        · rw [e, r6 h hh] at hk9
          exact absurd rfl hk9
        · rw [r7 _ (by omega)] at hk9
          rw [r2n j e] at hx
          rw [e91, aRes_t (fun k _ => eT k)]
          dsimp only
          rw [if_neg e]
          exact c3 j hj x hx h hh hk9 q hq
      · show mOx I3 v (if v.toNatClampNeg = i.toNatClampNeg then H.1 0 else Z v.toNatClampNeg)
        by_cases e : v = i
        · rw [e, if_pos rfl]
          exact s3
        · have en : ¬ v.toNatClampNeg = i.toNatClampNeg := fun q => e (px_inj v0 s0.1.1 q)
          rw [if_neg en]
          rw [s2, px_u_at_ne en, fB 129 (by decide) (by decide)] at v1
          refine (m v v0 v5 v1).same (fun q q0 q1 => ?_)
          have y := s4 v v0 v5 e q q0 q1
          rw [fB 130 (by decide) (by decide), fB 131 (by decide) (by decide)] at y
          exact y
      · rw [r3]
        by_cases e : j = i.toNatClampNeg
        · rw [e, r2i] at hx
          obtain rfl := Option.some.inj hx
          intro q
          have q2 := Option.some.inj q
          subst q2
          rcases r4 with y | y
          · exact D.1 _ i6 _ y r1
          · exact y.2.2 rfl
        · rw [r2n j e] at hx
          intro q
          have q2 := Option.some.inj q
          subst q2
          rcases r4 with y | y
          · exact D.2.1 _ _ i6 hj (fun q => e q.symm) _ y hx
          · exact y.2.1 j hj hx
      · by_cases ea : a = i.toNatClampNeg
        · have eb : ¬ b = i.toNatClampNeg := fun q => hn (ea.trans q.symm)
          rw [ea, r2i] at hx
          obtain rfl := Option.some.inj hx
          rw [r2n b eb]
          exact fun q => D.1 b hb _ q r1
        · rw [r2n a ea] at hx
          by_cases eb : b = i.toNatClampNeg
          · rw [eb, r2i]
            intro q
            obtain rfl := Option.some.inj q
            exact D.1 a ha _ hx r1
          · rw [r2n b eb]
            exact D.2.1 a b ha hb hn x hx
      · by_cases e : j = i.toNatClampNeg
        · rw [e, r2i] at hx
          obtain rfl := Option.some.inj hx
          exact n0
        · rw [r2n j e] at hx
          exact D.2.2 j hj x hx
      · rw [s2]
        by_cases e : j = i.toNatClampNeg
        · rw [e, px_u_at, r2i]; rfl
        · rw [px_u_at_ne e, r2n j e, fB 129 (by decide) (by decide)]
          exact t j hj
