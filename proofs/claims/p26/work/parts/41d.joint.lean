/-! the tape, the ways, the search -/
theorem cAp_at (I : px_I) (b : Int32) : ∀ o j, o ≠ 70 ∨ (j ≠ 5) → o ≠ 71 → cAp I b o j = I o j := fun o j h1 h2 => by unfold cAp; simp only [px_ur]; grind
theorem cApp_at (I : px_I) (x : Int32) : ∀ o j, o ≠ 70 ∨ (j ≠ 5) → o ≠ 71 → cApp I x o j = I o j := fun o j h1 h2 => by unfold cApp; rw [cAp_at _ _ o j h1 h2, cAp_at _ _ o j h1 h2, cAp_at _ _ o j h1 h2, cAp_at _ _ o j h1 h2]
theorem jJ.upT {n : Nat} {I I2 : px_I} {R : px_R} (h : jJ n I R) (hc : ∀ o j, o ≠ 70 ∨ (j ≠ 5) → o ≠ 71 → I2 o j = I o j) (ht : 0 ≤ I2 70 5 ∧ I2 70 5 ≤ 400) : jJ n I2 R := by
  obtain ⟨⟨k1, k2, ⟨w, w1, w2, w3⟩, k4, k5⟩, s, g, p, m⟩ := h
  obtain ⟨d0, d1, d2, d3, d4, d5, d6, d7, d8, d9⟩ := w3.op
  refine ⟨⟨k1, k2, ⟨w, w1, w2, ⟨d0, ?_, fun k => ?_, ?_, ?_, ?_, fun k => ?_, fun k => ?_, ?_, fun k => ?_⟩⟩, fun i hi x hx => ?_, ht⟩, ?_, ?_, p, m.cells (fun b j hb => hc b j (by unfold mCell at hb; omega) (by unfold mCell at hb; omega))⟩
  · rw [hc 70 6 (by omega) (by omega)]; exact d1
  · rw [hc 75 k (by omega) (by omega)]; exact d2 k
  · rw [hc 76 7 (by omega) (by omega)]; exact d3
  · rw [hc 76 9 (by omega) (by omega)]; exact d4
  · rw [hc 76 12 (by omega) (by omega)]; exact d5
  · rw [hc 80 k (by omega) (by omega)]; exact d6 k
  · rw [hc 83 k (by omega) (by omega)]; exact d7 k
  · rw [hc w 2 (by omega) (by omega)]; exact d8
  · rw [hc (w + 2) k (by omega) (by omega)]; exact d9 k
  · obtain ⟨t1, t2, t3⟩ := k4 i hi x hx
    exact ⟨t1, t2, t3.eq (funext fun k => hc x k (by omega) (by omega)) (funext fun k => hc (x + 2) k (by omega) (by omega))⟩
  · unfold cSt at *; rw [hc 33 7 (by omega) (by omega), hc 33 8 (by omega) (by omega)]; exact s
  · unfold cGal at *; rw [hc 41 13 (by omega) (by omega), hc 41 15 (by omega) (by omega), hc 55 13 (by omega) (by omega), hc 55 15 (by omega) (by omega)]; exact g

theorem jb_feed {n : Nat} {I : px_I} {L : px_L} {R : px_R} (hj : jJ n I R) (a b c d e : Int32) : px_K M_X11_feed [.ref 32, .int a, .int b, .int c, .int d, .int e] n I L R (jB n I L (kR R) (fun r I2 L2 => L2 = L ∧ ((I 70 5 + 20 ≤ 400 ∧ r = I 70 5 + 20 ∧ I2 = cApp (cApp (cApp (cApp (cApp I a) b) c) d) e) ∨ (¬ I 70 5 + 20 ≤ 400 ∧ r = -1 ∧ I2 = I)))) := jS (b_feed hj.g a b c d e hj.tp) (fun x I2 L2 h => by
  obtain ⟨rfl, h⟩ := h
  rcases h with ⟨a1, rfl, rfl⟩ | ⟨a1, rfl, rfl⟩
  · have ht := hj.tp
    have q : ∀ o j, o ≠ 70 ∨ (j ≠ 5) → o ≠ 71 → cApp (cApp (cApp (cApp (cApp I a) b) c) d) e o j = I o j := fun o j h1 h2 => by rw [cApp_at _ _ o j h1 h2, cApp_at _ _ o j h1 h2, cApp_at _ _ o j h1 h2, cApp_at _ _ o j h1 h2, cApp_at _ _ o j h1 h2]
    exact ⟨hj.upT q (by rw [cApp_5, cApp_5, cApp_5, cApp_5, cApp_5]; grind), fun b h1 h2 => funext fun j => q b j (by omega) (by omega), fun _ _ _ => rfl⟩
  · exact ⟨hj, fun _ _ _ => rfl, fun _ _ _ => rfl⟩)

theorem jb_way {n : Nat} {I : px_I} {L : px_L} {R : px_R} (hj : jJ n I R) (i : Int32) : px_K M_X11_way [.ref 32, .int i] n I L R (jB n I L (fun _ _ => True) (fun x I2 L2 => kWF I I2 ∧ (∀ b, b < 147 → L2 b = L b) ∧ I2 70 5 = (if 0 ≤ i ∧ i < 6 then 0 else I 70 5))) :=
  px_K.mono (b_way hj.1 i) (fun r n2 I2 L2 R2 ⟨⟨x, hx⟩, h1, h2, h3, h4, h5, h6⟩ => ⟨x, hx, ⟨h1, by
    have s := hj.s
    unfold cSt at *
    rw [h3 33 7 (by omega) (by omega) (by omega) (by omega) (by omega), h3 33 8 (by omega) (by omega) (by omega) (by omega) (by omega)]; exact s, by
    have s := hj.l
    unfold cGal at *
    rw [h3 41 13 (by omega) (by omega) (by omega) (by omega) (by omega), h3 41 15 (by omega) (by omega) (by omega) (by omega) (by omega), h3 55 13 (by omega) (by omega) (by omega) (by omega) (by omega), h3 55 15 (by omega) (by omega) (by omega) (by omega) (by omega)]; exact s, by
    have p := hj.2.2.2.1
    unfold swp at *
    rw [h5 97 1 (by omega) (by omega) (by omega), h5 97 2 (by omega) (by omega) (by omega)]; exact p, hj.m.cells (fun b j hb => h3 b j (by unfold mCell at hb; omega) (by unfold mCell at hb; omega) (by unfold mCell at hb; omega) (by unfold mCell at hb; omega) (by unfold mCell at hb; omega))⟩, h2, ⟨fun b h7 h8 => funext fun j => h3 b j h8 (by omega) (by omega) (by omega) (by omega), fun b h7 h8 => h4 b h8⟩, trivial, h3, h4, h6⟩)
theorem cRA_id {R : px_R} (h : R 97 1 = some 99 ∧ R 97 2 = some 100) : cRA R = R := by
  funext o k
  by_cases q : o ≠ 97 ∨ (k ≠ 1 ∧ k ≠ 2)
  · exact cRA_ne q
  · have h1 : o = 97 := by omega
    have h2 : k = 1 ∨ k = 2 := by omega
    subst h1
    rcases h2 with rfl | rfl
    · rw [h.1]; rfl
    · rw [h.2]; rfl
theorem cRB_id {R : px_R} (h : R 97 1 = some 100 ∧ R 97 2 = some 99) : cRB R = R := by
  funext o k
  by_cases q : o ≠ 97 ∨ (k ≠ 1 ∧ k ≠ 2)
  · exact cRB_ne q
  · have h1 : o = 97 := by omega
    have h2 : k = 1 ∨ k = 2 := by omega
    subst h1
    rcases h2 with rfl | rfl
    · rw [h.1]; rfl
    · rw [h.2]; rfl
theorem jJ.R {n : Nat} {I : px_I} {R R2 : px_R} (h : jJ n I R) (h2 : R2 = cRA R ∨ R2 = cRB R) : jJ n I R2 := by
  obtain ⟨⟨k1, k2, ⟨w, w1, w2, w3⟩, k4, k5⟩, s, g, p, m⟩ := h
  have e : ∀ o k, o ≠ 97 → R2 o k = R o k := fun o k ho => by rcases h2 with rfl | rfl; exact cRA_ne (Or.inl ho); exact cRB_ne (Or.inl ho)
  refine ⟨⟨k1, by rcases h2 with rfl | rfl; exact cRA_G k2; exact cRB_G k2, ⟨w, by rw [e 76 1 (by decide)]; exact w1, w2, w3⟩, fun i hi x hx => k4 i hi x (by rw [← e 89 i (by decide)]; exact hx), k5⟩, s, g, ?_, m⟩
  rcases h2 with rfl | rfl
  · exact Or.inl ⟨rfl, rfl⟩
  · exact Or.inr ⟨rfl, rfl⟩
theorem jb_chance {n : Nat} {I : px_I} {L : px_L} {R : px_R} (hj : jJ n I R) (a o h : Int32) : px_K M_X11_chance [.ref 32, .int a, .int o, .int h] n I L R (fun r n2 I2 L2 R2 => ∃ x, r = some (.long x) ∧ jJ n2 I2 R2 ∧ n ≤ n2 ∧ frB I I2 L L2 ∧ kR R I2 R2 ∧ I2 = I ∧ cSL L L2) := by
  have key : ∀ {r : Option Value} {n2 : Nat} {I2 : px_I} {L2 : px_L} {R2 : px_R}, n2 = n ∧ I2 = I ∧ cSL L L2 ∧ (R2 = cRA R ∨ R2 = cRB R) ∧ (∃ x, r = some (.long x)) → ∃ x, r = some (.long x) ∧ jJ n2 I2 R2 ∧ n ≤ n2 ∧ frB I I2 L L2 ∧ kR R I2 R2 ∧ I2 = I ∧ cSL L L2 := fun {r n2 I2 L2 R2} ⟨h1, h2, h3, h4, x, h5⟩ => by
    subst h1; subst h2
    exact ⟨x, h5, hj.R h4, Nat.le_refl _, ⟨fun _ _ _ => rfl, fun b h1 h2 => h3 b (by omega) (by omega)⟩, (fun b k hb => by rcases h4 with rfl | rfl; exact cRA_ne (Or.inl (by omega)); exact cRB_ne (Or.inl (by omega))), rfl, h3⟩
  have gA := cRA_G hj.g
  have gB := cRB_G hj.g
  rcases hj.2.2.2.1 with p | p
  · have := b_chanceA (I := I) (L := L) gA gB a o h
    rw [cRA_id p] at this
    exact px_K.mono this (fun r n2 I2 L2 R2 q => key (by first | exact q | exact ⟨q.1, q.2.1, q.2.2.1, by rw [cRA_id p]; exact q.2.2.2.1, q.2.2.2.2⟩))
  · have := b_chanceB (I := I) (L := L) gB gA a o h
    rw [cRB_id p] at this
    exact px_K.mono this (fun r n2 I2 L2 R2 q => key (by first | exact q | exact ⟨q.1, q.2.1, q.2.2.1, by rw [cRB_id p]; exact q.2.2.2.1, q.2.2.2.2⟩))
theorem jb_detour {n : Nat} {I : px_I} {L : px_L} {R : px_R} (hj : jJ n I R) (a o h : Int32) : px_K M_X11_detour [.ref 32, .int a, .int o, .int h] n I L R (jB n I L (kR R) (fun x I2 L2 => I2 = I ∧ cSL L L2)) := by
  have key : ∀ {r : Option Value} {n2 : Nat} {I2 : px_I} {L2 : px_L} {R2 : px_R}, n2 = n ∧ I2 = I ∧ cSL L L2 ∧ (R2 = cRA R ∨ R2 = cRB R) ∧ (∃ x, r = some (.int x)) → jB n I L (kR R) (fun x I2 L2 => I2 = I ∧ cSL L L2) r n2 I2 L2 R2 := fun {r n2 I2 L2 R2} ⟨h1, h2, h3, h4, x, h5⟩ => by
    subst h1; subst h2
    exact ⟨x, h5, hj.R h4, Nat.le_refl _, ⟨fun _ _ _ => rfl, fun b h1 h2 => h3 b (by omega) (by omega)⟩, (fun b k hb => by rcases h4 with rfl | rfl; exact cRA_ne (Or.inl (by omega)); exact cRB_ne (Or.inl (by omega))), rfl, h3⟩
  have gA := cRA_G hj.g
  have gB := cRB_G hj.g
  rcases hj.2.2.2.1 with p | p
  · have := b_detourA (I := I) (L := L) gA gB a o h
    rw [cRA_id p] at this
    exact px_K.mono this (fun r n2 I2 L2 R2 q => key (by first | exact q | exact ⟨q.1, q.2.1, q.2.2.1, by rw [cRA_id p]; exact q.2.2.2.1, q.2.2.2.2⟩))
  · have := b_detourB (I := I) (L := L) gB gA a o h
    rw [cRB_id p] at this
    exact px_K.mono this (fun r n2 I2 L2 R2 q => key (by first | exact q | exact ⟨q.1, q.2.1, q.2.2.1, by rw [cRB_id p]; exact q.2.2.2.1, q.2.2.2.2⟩))
