/-! three more -/

theorem jk_sight {n : Nat} {I : px_I} {L : px_L} {R : px_R} (hj : jJ n I R) (a f t lo hi : Int32) : px_K M_X12_sight [.ref 103, .int a, .int f, .int t, .int lo, .int hi] n I L R (jK n I L R (fun r I2 L2 => L2 = L ∧ ((((0 ≤ a ∧ a ≤ 2) ∧ (0 ≤ f ∧ f ≤ I 103 1 - 1) ∧ (0 ≤ t ∧ t ≤ I 103 1 - 1) ∧ f ≠ t ∧ (-1000000 ≤ lo ∧ lo ≤ 1000000) ∧ (lo ≤ hi ∧ hi ≤ 1000000) ∧ I 103 2 ≠ 80) ∧ r = I 103 2 ∧ I2 = px_u (px_u (px_u (px_u (px_u (px_u (px_u I 104 (I 103 2).toNatClampNeg a) 105 (I 103 2).toNatClampNeg f) 106 (I 103 2).toNatClampNeg t) 107 (I 103 2).toNatClampNeg lo) 108 (I 103 2).toNatClampNeg hi) 109 (I 103 2).toNatClampNeg (I 103 0)) 103 2 (I 103 2 + 1)) ∨
  (¬ ((0 ≤ a ∧ a ≤ 2) ∧ (0 ≤ f ∧ f ≤ I 103 1 - 1) ∧ (0 ≤ t ∧ t ≤ I 103 1 - 1) ∧ f ≠ t ∧ (-1000000 ≤ lo ∧ lo ≤ 1000000) ∧ (lo ≤ hi ∧ hi ≤ 1000000) ∧ I 103 2 ≠ 80) ∧ r = -1 ∧ I2 = I)))) := jKS (k_sight hj.g a f t lo hi hj.m.1.2.1) hj (fun x I2 L2 h => by
  obtain ⟨rfl, h⟩ := h
  rcases h with ⟨a1, rfl, rfl⟩ | ⟨a1, rfl, rfl⟩
  · obtain ⟨m1, m2, m3, m4, m5, m6, m7, m8⟩ := hj.m
    obtain ⟨c1, c2, c3, c4, c5, c6, c7⟩ := a1
    have o : ∀ z : Nat, z ≠ 103 → (z < 104 ∨ 109 < z) → px_u (px_u (px_u (px_u (px_u (px_u (px_u I 104 (I 103 2).toNatClampNeg a) 105 (I 103 2).toNatClampNeg f) 106 (I 103 2).toNatClampNeg t) 107 (I 103 2).toNatClampNeg lo) 108 (I 103 2).toNatClampNeg hi) 109 (I 103 2).toNatClampNeg (I 103 0)) 103 2 (I 103 2 + 1) z = I z := fun z h1 h2 => by rw [px_u_ne h1, px_u_ne (by omega), px_u_ne (by omega), px_u_ne (by omega), px_u_ne (by omega), px_u_ne (by omega), px_u_ne (by omega)]
    have q : ∀ j : Nat, j ≠ 2 → px_u (px_u (px_u (px_u (px_u (px_u (px_u I 104 (I 103 2).toNatClampNeg a) 105 (I 103 2).toNatClampNeg f) 106 (I 103 2).toNatClampNeg t) 107 (I 103 2).toNatClampNeg lo) 108 (I 103 2).toNatClampNeg hi) 109 (I 103 2).toNatClampNeg (I 103 0)) 103 2 (I 103 2 + 1) 103 j = I 103 j := fun j h1 => by rw [px_u_at_ne h1, px_u_ne (by decide), px_u_ne (by decide), px_u_ne (by decide), px_u_ne (by decide), px_u_ne (by decide), px_u_ne (by decide)]
    have e5 : ∀ j : Nat, px_u (px_u (px_u (px_u (px_u (px_u (px_u I 104 (I 103 2).toNatClampNeg a) 105 (I 103 2).toNatClampNeg f) 106 (I 103 2).toNatClampNeg t) 107 (I 103 2).toNatClampNeg lo) 108 (I 103 2).toNatClampNeg hi) 109 (I 103 2).toNatClampNeg (I 103 0)) 103 2 (I 103 2 + 1) 105 j = if j = (I 103 2).toNatClampNeg then f else I 105 j := fun j => by rw [px_u_ne (by decide), px_u_ne (by decide), px_u_ne (by decide), px_u_ne (by decide), px_u_ne (by decide), px_ur, if_pos rfl, px_u_ne (by decide)]
    have e6 : ∀ j : Nat, px_u (px_u (px_u (px_u (px_u (px_u (px_u I 104 (I 103 2).toNatClampNeg a) 105 (I 103 2).toNatClampNeg f) 106 (I 103 2).toNatClampNeg t) 107 (I 103 2).toNatClampNeg lo) 108 (I 103 2).toNatClampNeg hi) 109 (I 103 2).toNatClampNeg (I 103 0)) 103 2 (I 103 2 + 1) 106 j = if j = (I 103 2).toNatClampNeg then t else I 106 j := fun j => by rw [px_u_ne (by decide), px_u_ne (by decide), px_u_ne (by decide), px_u_ne (by decide), px_ur, if_pos rfl, px_u_ne (by decide), px_u_ne (by decide)]
    have s1 := m1.1
    have s2 := m1.2.1
    refine ⟨⟨⟨by rw [q 1 (by decide)]; exact s1, by rw [px_u_at]; constructor <;> grind, fun k k0 k1 => ?_⟩, m2.k (o 110 (by decide) (by decide)) (o 111 (by decide) (by decide)) (o 112 (by decide) (by decide)) (o 113 (by decide) (by decide)) (o 114 (by decide) (by decide)), m3.k (o 116 (by decide) (by decide)), m4.k (q 16 (by decide)) (o 117 (by decide) (by decide)) (o 118 (by decide) (by decide)) (o 110 (by decide) (by decide)), m5.k (q 59 (by decide)) (q 60 (by decide)) (q 61 (by decide)) (o 137 (by decide) (by decide)), m6.same (fun z k hb => by rw [o z (by omega) (by omega)]), by rw [q 25 (by decide)]; exact m7, by rw [q 63 (by decide)]; exact m8⟩, fun z hz => o z (by omega) (by omega), fun _ _ => rfl⟩
    rw [px_u_at] at k1
    rw [e5, e6]
    by_cases e : k.toNatClampNeg = (I 103 2).toNatClampNeg
    · rw [if_pos e, if_pos e]
      constructor <;> constructor <;> grind
    · rw [if_neg e, if_neg e]
      have hne : k ≠ I 103 2 := fun z => e (by rw [z])
      exact m1.2.2 k k0 (by grind)
  · exact ⟨hj.m, fun _ _ => rfl, fun _ _ => rfl⟩)

theorem jk_mark {n : Nat} {I : px_I} {L : px_L} {R : px_R} (hj : jJ n I R) (g p f t : Int32) : px_K M_X12_mark [.ref 103, .int g, .int p, .int f, .int t] n I L R (jK n I L R (fun r I2 L2 => L2 = L ∧ (((mPegOk I g p ∧ (0 ≤ f ∧ f ≤ 20000) ∧ (f ≤ t ∧ t ≤ 20000) ∧ I 103 16 ≠ 40) ∧ r = I 103 16 + 1 ∧ I2 = mMark I g p f t) ∨ (¬ (mPegOk I g p ∧ (0 ≤ f ∧ f ≤ 20000) ∧ (f ≤ t ∧ t ≤ 20000) ∧ I 103 16 ≠ 40) ∧ r = -1 ∧ I2 = I)))) := jKS (k_mark hj.g g p f t hj.m.2.2.2.1.1) hj (fun x I2 L2 h => by
  obtain ⟨rfl, h⟩ := h
  rcases h with ⟨a1, rfl, rfl⟩ | ⟨a1, rfl, rfl⟩
  · obtain ⟨m1, m2, m3, m4, m5, m6, m7, m8⟩ := hj.m
    obtain ⟨⟨c1, c2, c3, c4⟩, c5, c6, c7⟩ := a1
    unfold mMark
    have o : ∀ z : Nat, z ≠ 103 → (z < 117 ∨ 120 < z) → px_u (px_u (px_u (px_u (px_u I 117 (I 103 16).toNatClampNeg g) 118 (I 103 16).toNatClampNeg p) 119 (I 103 16).toNatClampNeg f) 120 (I 103 16).toNatClampNeg t) 103 16 (I 103 16 + 1) z = I z := fun z h1 h2 => by rw [px_u_ne h1, px_u_ne (by omega), px_u_ne (by omega), px_u_ne (by omega), px_u_ne (by omega)]
    have q : ∀ j : Nat, j ≠ 16 → px_u (px_u (px_u (px_u (px_u I 117 (I 103 16).toNatClampNeg g) 118 (I 103 16).toNatClampNeg p) 119 (I 103 16).toNatClampNeg f) 120 (I 103 16).toNatClampNeg t) 103 16 (I 103 16 + 1) 103 j = I 103 j := fun j h1 => by rw [px_u_at_ne h1, px_u_ne (by decide), px_u_ne (by decide), px_u_ne (by decide), px_u_ne (by decide)]
    have e7 : ∀ j : Nat, px_u (px_u (px_u (px_u (px_u I 117 (I 103 16).toNatClampNeg g) 118 (I 103 16).toNatClampNeg p) 119 (I 103 16).toNatClampNeg f) 120 (I 103 16).toNatClampNeg t) 103 16 (I 103 16 + 1) 117 j = if j = (I 103 16).toNatClampNeg then g else I 117 j := fun j => by rw [px_u_ne (by decide), px_u_ne (by decide), px_u_ne (by decide), px_u_ne (by decide), px_ur, if_pos rfl]
    have e8 : ∀ j : Nat, px_u (px_u (px_u (px_u (px_u I 117 (I 103 16).toNatClampNeg g) 118 (I 103 16).toNatClampNeg p) 119 (I 103 16).toNatClampNeg f) 120 (I 103 16).toNatClampNeg t) 103 16 (I 103 16 + 1) 118 j = if j = (I 103 16).toNatClampNeg then p else I 118 j := fun j => by rw [px_u_ne (by decide), px_u_ne (by decide), px_u_ne (by decide), px_ur, if_pos rfl, px_u_ne (by decide)]
    have s2 := m4.1
    have s3 := (m2 g c1 c2).1
    refine ⟨⟨m1.k (q 1 (by decide)) (q 2 (by decide)) (o 105 (by decide) (by decide)) (o 106 (by decide) (by decide)), m2.k (o 110 (by decide) (by decide)) (o 111 (by decide) (by decide)) (o 112 (by decide) (by decide)) (o 113 (by decide) (by decide)) (o 114 (by decide) (by decide)), m3.k (o 116 (by decide) (by decide)), ⟨by rw [px_u_at]; constructor <;> grind, fun k k0 k1 => ?_⟩, m5.k (q 59 (by decide)) (q 60 (by decide)) (q 61 (by decide)) (o 137 (by decide) (by decide)), m6.same (fun z k hb => by rw [o z (by omega) (by omega)]), by rw [q 25 (by decide)]; exact m7, by rw [q 63 (by decide)]; exact m8⟩, fun z hz => o z (by omega) (by omega), fun _ _ => rfl⟩
    rw [px_u_at] at k1
    rw [e7, e8, o 110 (by decide) (by decide)]
    by_cases e : k.toNatClampNeg = (I 103 16).toNatClampNeg
    · rw [if_pos e, if_pos e]
      exact ⟨⟨c1, c2⟩, c3, by grind⟩
    · rw [if_neg e, if_neg e]
      have hne : k ≠ I 103 16 := fun z => e (by rw [z])
      exact m4.2 k k0 (by grind)
  · exact ⟨hj.m, fun _ _ => rfl, fun _ _ => rfl⟩)

theorem jk_reach {n : Nat} {I : px_I} {L : px_L} {R : px_R} (hj : jJ n I R) (g lo hi sl fa w st : Int32) : px_K M_X12_reach [.ref 103, .int g, .int lo, .int hi, .int sl, .int fa, .int w, .int st] n I L R (jK n I L R (fun r I2 L2 => L2 = L ∧ ((mReachOk I g lo hi sl fa w st ∧ r = mP0 I g ∧ I2 = mReach I g lo hi sl fa w st) ∨ (¬ mReachOk I g lo hi sl fa w st ∧ r = -1 ∧ I2 = I)))) := jKS (k_reach hj.g g lo hi sl fa w st hj.m.2.1) hj (fun x I2 L2 h => by
  obtain ⟨rfl, h⟩ := h
  rcases h with ⟨a1, rfl, rfl⟩ | ⟨a1, rfl, rfl⟩
  · obtain ⟨m1, m2, m3, m4, m5, m6, m7, m8⟩ := hj.m
    obtain ⟨⟨c1, c2⟩, c3, c4, c5, c6, c7, c8, c9⟩ := a1
    unfold mReach
    have o : ∀ z : Nat, (z < 110 ∨ 116 < z) → px_u (px_u (px_u (px_u (px_u (px_u (px_u (px_u I 110 g.toNatClampNeg (mP0 I g)) 111 (20 * g + mP0 I g).toNatClampNeg lo) 112 (20 * g + mP0 I g).toNatClampNeg hi) 113 (20 * g + mP0 I g).toNatClampNeg sl) 114 (20 * g + mP0 I g).toNatClampNeg fa) 115 (20 * g + mP0 I g).toNatClampNeg w) 116 (20 * g + mP0 I g).toNatClampNeg st) 110 g.toNatClampNeg (mP0 I g + 1) z = I z := fun z h2 => by rw [px_u_ne (by omega), px_u_ne (by omega), px_u_ne (by omega), px_u_ne (by omega), px_u_ne (by omega), px_u_ne (by omega), px_u_ne (by omega), px_u_ne (by omega)]
    have e0 : ∀ j : Nat, px_u (px_u (px_u (px_u (px_u (px_u (px_u (px_u I 110 g.toNatClampNeg (mP0 I g)) 111 (20 * g + mP0 I g).toNatClampNeg lo) 112 (20 * g + mP0 I g).toNatClampNeg hi) 113 (20 * g + mP0 I g).toNatClampNeg sl) 114 (20 * g + mP0 I g).toNatClampNeg fa) 115 (20 * g + mP0 I g).toNatClampNeg w) 116 (20 * g + mP0 I g).toNatClampNeg st) 110 g.toNatClampNeg (mP0 I g + 1) 110 j = if j = g.toNatClampNeg then mP0 I g + 1 else I 110 j := fun j => by
      rw [px_ur, if_pos rfl, px_u_ne (by decide), px_u_ne (by decide), px_u_ne (by decide), px_u_ne (by decide), px_u_ne (by decide), px_u_ne (by decide)]
      by_cases z : j = g.toNatClampNeg
      · rw [if_pos z, if_pos z]
      · rw [if_neg z, if_neg z, px_u_at_ne z]
    have e111 : ∀ j : Nat, px_u (px_u (px_u (px_u (px_u (px_u (px_u (px_u I 110 g.toNatClampNeg (mP0 I g)) 111 (20 * g + mP0 I g).toNatClampNeg lo) 112 (20 * g + mP0 I g).toNatClampNeg hi) 113 (20 * g + mP0 I g).toNatClampNeg sl) 114 (20 * g + mP0 I g).toNatClampNeg fa) 115 (20 * g + mP0 I g).toNatClampNeg w) 116 (20 * g + mP0 I g).toNatClampNeg st) 110 g.toNatClampNeg (mP0 I g + 1) 111 j = if j = (20 * g + mP0 I g).toNatClampNeg then lo else I 111 j := fun j => by
      rw [px_u_ne (by decide), px_u_ne (by decide), px_u_ne (by decide), px_u_ne (by decide), px_u_ne (by decide), px_u_ne (by decide), px_ur, if_pos rfl, px_u_ne (by decide)]
    have e112 : ∀ j : Nat, px_u (px_u (px_u (px_u (px_u (px_u (px_u (px_u I 110 g.toNatClampNeg (mP0 I g)) 111 (20 * g + mP0 I g).toNatClampNeg lo) 112 (20 * g + mP0 I g).toNatClampNeg hi) 113 (20 * g + mP0 I g).toNatClampNeg sl) 114 (20 * g + mP0 I g).toNatClampNeg fa) 115 (20 * g + mP0 I g).toNatClampNeg w) 116 (20 * g + mP0 I g).toNatClampNeg st) 110 g.toNatClampNeg (mP0 I g + 1) 112 j = if j = (20 * g + mP0 I g).toNatClampNeg then hi else I 112 j := fun j => by
      rw [px_u_ne (by decide), px_u_ne (by decide), px_u_ne (by decide), px_u_ne (by decide), px_u_ne (by decide), px_ur, if_pos rfl, px_u_ne (by decide), px_u_ne (by decide)]
    have e113 : ∀ j : Nat, px_u (px_u (px_u (px_u (px_u (px_u (px_u (px_u I 110 g.toNatClampNeg (mP0 I g)) 111 (20 * g + mP0 I g).toNatClampNeg lo) 112 (20 * g + mP0 I g).toNatClampNeg hi) 113 (20 * g + mP0 I g).toNatClampNeg sl) 114 (20 * g + mP0 I g).toNatClampNeg fa) 115 (20 * g + mP0 I g).toNatClampNeg w) 116 (20 * g + mP0 I g).toNatClampNeg st) 110 g.toNatClampNeg (mP0 I g + 1) 113 j = if j = (20 * g + mP0 I g).toNatClampNeg then sl else I 113 j := fun j => by
      rw [px_u_ne (by decide), px_u_ne (by decide), px_u_ne (by decide), px_u_ne (by decide), px_ur, if_pos rfl, px_u_ne (by decide), px_u_ne (by decide), px_u_ne (by decide)]
    have e114 : ∀ j : Nat, px_u (px_u (px_u (px_u (px_u (px_u (px_u (px_u I 110 g.toNatClampNeg (mP0 I g)) 111 (20 * g + mP0 I g).toNatClampNeg lo) 112 (20 * g + mP0 I g).toNatClampNeg hi) 113 (20 * g + mP0 I g).toNatClampNeg sl) 114 (20 * g + mP0 I g).toNatClampNeg fa) 115 (20 * g + mP0 I g).toNatClampNeg w) 116 (20 * g + mP0 I g).toNatClampNeg st) 110 g.toNatClampNeg (mP0 I g + 1) 114 j = if j = (20 * g + mP0 I g).toNatClampNeg then fa else I 114 j := fun j => by
      rw [px_u_ne (by decide), px_u_ne (by decide), px_u_ne (by decide), px_ur, if_pos rfl, px_u_ne (by decide), px_u_ne (by decide), px_u_ne (by decide), px_u_ne (by decide)]
    have e116 : ∀ j : Nat, px_u (px_u (px_u (px_u (px_u (px_u (px_u (px_u I 110 g.toNatClampNeg (mP0 I g)) 111 (20 * g + mP0 I g).toNatClampNeg lo) 112 (20 * g + mP0 I g).toNatClampNeg hi) 113 (20 * g + mP0 I g).toNatClampNeg sl) 114 (20 * g + mP0 I g).toNatClampNeg fa) 115 (20 * g + mP0 I g).toNatClampNeg w) 116 (20 * g + mP0 I g).toNatClampNeg st) 110 g.toNatClampNeg (mP0 I g + 1) 116 j = if j = (20 * g + mP0 I g).toNatClampNeg then st else I 116 j := fun j => by
      rw [px_u_ne (by decide), px_ur, if_pos rfl, px_u_ne (by decide), px_u_ne (by decide), px_u_ne (by decide), px_u_ne (by decide), px_u_ne (by decide), px_u_ne (by decide)]
    have s1 := m1.1
    have sg := (m2 g c1 c2).1
    have hP : (I 110 g.toNatClampNeg = 0 ∧ mP0 I g = 1) ∨ (I 110 g.toNatClampNeg ≠ 0 ∧ mP0 I g = I 110 g.toNatClampNeg) := by
      unfold mP0
      by_cases z : I 110 g.toNatClampNeg = 0
      · exact Or.inl ⟨z, if_pos z⟩
      · exact Or.inr ⟨z, if_neg z⟩
    refine ⟨⟨m1.k (by rw [o 103 (by decide)]) (by rw [o 103 (by decide)]) (o 105 (by decide)) (o 106 (by decide)), fun g2 h0 h1 => ⟨?_, fun p p1 p2 => ?_⟩, fun k k0 k1 => ?_, ⟨by rw [o 103 (by decide)]; exact m4.1, fun k k0 k1 => ?_⟩, m5.k (by rw [o 103 (by decide)]) (by rw [o 103 (by decide)]) (by rw [o 103 (by decide)]) (o 137 (by decide)), m6.same (fun z k hb => by rw [o z (by omega)]), by rw [o 103 (by decide)]; exact m7, by rw [o 103 (by decide)]; exact m8⟩, fun z hz => o z (by omega), fun _ _ => rfl⟩
    · rw [e0]
      split
      · constructor <;> grind
      · exact (m2 g2 h0 h1).1
    · rw [e111, e112, e113, e114]
      by_cases e : (20 * g2 + p).toNatClampNeg = (20 * g + mP0 I g).toNatClampNeg
      · rw [if_pos e, if_pos e, if_pos e, if_pos e]
        exact ⟨c3.1, by grind, c5.1, by grind⟩
      · rw [if_neg e, if_neg e, if_neg e, if_neg e]
        refine (m2 g2 h0 h1).2 p p1 ?_
        rw [e0] at p2
        by_cases eg : g2.toNatClampNeg = g.toNatClampNeg
        · have := px_tni h0 c1 eg
          subst this
          rw [if_pos rfl] at p2
          have hne : p ≠ mP0 I g2 := fun z => e (by rw [z])
          rcases hP with ⟨z1, z2⟩ | ⟨z1, z2⟩ <;> grind
        · rw [if_neg eg] at p2; exact p2
    · rw [e116]
      split
      · constructor <;> grind
      · exact m3 k k0 k1
    · rw [o 103 (by decide)] at k1
      rw [o 117 (by decide), o 118 (by decide), e0]
      obtain ⟨z1, z2, z3⟩ := m4.2 k k0 k1
      refine ⟨z1, z2, ?_⟩
      split
      · rename_i eg
        rw [eg] at z3
        rcases hP with ⟨y1, y2⟩ | ⟨y1, y2⟩ <;> grind
      · exact z3
  · exact ⟨hj.m, fun _ _ => rfl, fun _ _ => rfl⟩)
