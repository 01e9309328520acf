/-! calls of the reference's that change what it needs -/
theorem mSafe.tp {I I2 : px_I} (hs : mSafe I) (h : ∀ b j, ¬ (b = 103 ∧ j = 25) → b ≠ 121 → I2 b j = I b j) (ht : 0 ≤ I2 103 25 ∧ I2 103 25 ≤ 400) : mSafe I2 := by
  obtain ⟨m1, m2, m3, m4, m5, m6, m7, m8⟩ := hs
  have o : ∀ b, b ≠ 103 → b ≠ 121 → I2 b = I b := fun b h1 h2 => funext fun j => h b j (by omega) h2
  have q : ∀ j, j ≠ 25 → I2 103 j = I 103 j := fun j hj => h 103 j (by omega) (by decide)
  exact ⟨m1.k (q 1 (by decide)) (q 2 (by decide)) (o 105 (by decide) (by decide)) (o 106 (by decide) (by decide)), m2.k (o 110 (by decide) (by decide)) (o 111 (by decide) (by decide)) (o 112 (by decide) (by decide)) (o 113 (by decide) (by decide)) (o 114 (by decide) (by decide)), m3.k (o 116 (by decide) (by decide)), m4.k (q 16 (by decide)) (o 117 (by decide) (by decide)) (o 118 (by decide) (by decide)) (o 110 (by decide) (by decide)), m5.k (q 59 (by decide)) (q 60 (by decide)) (q 61 (by decide)) (o 137 (by decide) (by decide)), m6.same (fun b k hb => by rw [o b (by omega) (by omega)]), ht, by rw [q 63 (by decide)]; exact m8⟩
theorem mPut_o {I : px_I} {x : Int32} {b j : Nat} (h : ¬ (b = 103 ∧ j = 25)) (h2 : b ≠ 121) : mPut I x b j = I b j := by
  unfold mPut
  rw [px_u_out h, px_u_ne h2, px_u_ne h2, px_u_ne h2, px_u_ne h2]
theorem mPut_t {I : px_I} {x : Int32} : mPut I x 103 25 = I 103 25 + 4 := by unfold mPut; rw [px_u_at]

theorem jk_feed {n : Nat} {I : px_I} {L : px_L} {R : px_R} (hj : jJ n I R) (a b c d e : Int32) : px_K M_X12_feed [.ref 103, .int a, .int b, .int c, .int d, .int e] n I L R (jK n I L R (fun r I2 L2 => L2 = L ∧ ((I 103 25 + 20 ≤ 400 ∧ r = I 103 25 + 20 ∧ I2 = mPut (mPut (mPut (mPut (mPut I a) b) c) d) e) ∨ (¬ I 103 25 + 20 ≤ 400 ∧ r = -1 ∧ I2 = I)))) := jKS (k_feed hj.g a b c d e hj.m.2.2.2.2.2.2.1) hj (fun x I2 L2 h => by
  obtain ⟨rfl, h⟩ := h
  rcases h with ⟨a1, rfl, rfl⟩ | ⟨a1, rfl, rfl⟩
  · have ht := hj.m.2.2.2.2.2.2.1
    have q : ∀ z j, ¬ (z = 103 ∧ j = 25) → z ≠ 121 → mPut (mPut (mPut (mPut (mPut I a) b) c) d) e z j = I z j := fun z j h1 h2 => by rw [mPut_o h1 h2, mPut_o h1 h2, mPut_o h1 h2, mPut_o h1 h2, mPut_o h1 h2]
    exact ⟨hj.m.tp q (by rw [mPut_t, mPut_t, mPut_t, mPut_t, mPut_t]; constructor <;> grind), fun z hz => funext fun j => q z j (by omega) (by omega), fun _ _ => rfl⟩
  · exact ⟨hj.m, fun _ _ => rfl, fun _ _ => rfl⟩)

theorem jk_way {n : Nat} {I : px_I} {L : px_L} {R : px_R} (hj : jJ n I R) (w : Int32) : px_K M_X12_way [.ref 103, .int w] n I L R (jK n I L R (fun r I2 L2 => L2 = L ∧ ((¬ (0 ≤ w ∧ w ≤ 5) ∧ r = -1 ∧ I2 = I) ∨ ((0 ≤ w ∧ w ≤ 5) ∧ mWayPost I I2 w)))) := jKS (k_way hj.g w hj.m.2.2.2.2.2.2.1 hj.m.2.2.2.2.2.1) hj (fun x I2 L2 h => by
  obtain ⟨rfl, h⟩ := h
  rcases h with ⟨a1, a2, rfl⟩ | ⟨a1, a2, a3, a4, a5⟩
  · exact ⟨hj.m, fun _ _ => rfl, fun _ _ => rfl⟩
  · obtain ⟨m1, m2, m3, m4, m5, m6, m7, m8⟩ := hj.m
    have o : ∀ z : Nat, z ≠ 103 → (z < 122 ∨ 131 < z) → I2 z = I z := fun z h1 h2 => funext fun j => a2 z j h2 (by omega)
    have q : ∀ j, (j < 25 ∨ 72 < j ∨ (40 ≤ j ∧ j ≤ 70)) → I2 103 j = I 103 j := fun j h1 => a2 103 j (by omega) (by omega)
    exact ⟨⟨m1.k (q 1 (by omega)) (q 2 (by omega)) (o 105 (by omega) (by omega)) (o 106 (by omega) (by omega)), m2.k (o 110 (by omega) (by omega)) (o 111 (by omega) (by omega)) (o 112 (by omega) (by omega)) (o 113 (by omega) (by omega)) (o 114 (by omega) (by omega)), m3.k (o 116 (by omega) (by omega)), m4.k (q 16 (by omega)) (o 117 (by omega) (by omega)) (o 118 (by omega) (by omega)) (o 110 (by omega) (by omega)), m5.k (q 59 (by omega)) (q 60 (by omega)) (q 61 (by omega)) (o 137 (by omega) (by omega)), a4, by rw [a3]; decide, by rw [q 63 (by omega)]; exact m8⟩, fun z hz => o z (by omega) (by omega), fun _ _ => rfl⟩)

theorem jk_detour {n : Nat} {I : px_I} {L : px_L} {R : px_R} (hj : jJ n I R) (a o lo : Int32) : px_K M_X12_detour [.ref 103, .int a, .int o, .int lo] n I L R (jK n I L R (fun r I2 L2 => I2 = I ∧ mNL L L2)) := jKS (k_detour hj.g a o lo hj.m.2.2.2.2.1) hj (fun x I2 L2 h => by
  obtain ⟨rfl, h⟩ := h
  exact ⟨hj.m, fun _ _ => rfl, fun b hb => h b (by omega) (by omega)⟩)

theorem jk_chance {n : Nat} {I : px_I} {L : px_L} {R : px_R} (hj : jJ n I R) (a o lo : Int32) : px_K M_X12_chance [.ref 103, .int a, .int o, .int lo] n I L R (fun r n2 I2 L2 R2 => ∃ x, r = some (.long x) ∧ n2 = n ∧ R2 = R ∧ jJ n I2 R ∧ frK I I2 L L2 ∧ I2 = I ∧ mNL L L2) :=
  px_K.mono (k_chance hj.g a o lo hj.m.2.2.2.2.1) (fun r n2 I2 L2 R2 ⟨h1, h2, x, h3, h4, h5⟩ => by
    subst h4
    exact ⟨x, h3, h1, h2, hj, ⟨fun _ _ => rfl, fun b hb => h5 b (by omega) (by omega)⟩, rfl, h5⟩)
