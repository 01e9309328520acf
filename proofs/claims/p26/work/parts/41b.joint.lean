/-! calls of the class's that change what both need -/
def kCell2 (b j : Nat) : Prop := (70 ≤ b ∧ b ≤ 84) ∨ 147 ≤ b
theorem jJ.up {n : Nat} {I I2 : px_I} {R : px_R} (h : jJ n I R) (hc : ∀ b j, kCell2 b j → ¬ (b = 70 ∧ j = 5) → I2 b j = I b j) (ht : 0 ≤ I2 70 5 ∧ I2 70 5 ≤ 400) (hm : ∀ b, 103 ≤ b → b < 147 → I2 b = I b) (hs : cSt I2) (hg : cGal I2) : jJ n I2 R := by
  obtain ⟨⟨k1, k2, ⟨w, w1, w2, w3⟩, k4, k5⟩, s, g, p, m⟩ := h
  obtain ⟨d0, d1, d2, d3, d4, d5, d6, d7, d8, d9⟩ := w3.op
  have c : ∀ b j, (70 ≤ b ∧ b ≤ 84) ∨ 147 ≤ b → ¬ (b = 70 ∧ j = 5) → I2 b j = I b j := hc
  refine ⟨⟨k1, k2, ⟨w, w1, w2, ⟨d0, ?_, fun k => ?_, ?_, ?_, ?_, fun k => ?_, fun k => ?_, ?_, fun k => ?_⟩⟩, fun i hi x hx => ?_, ht⟩, hs, hg, p, m.cells (fun b j hb => by rw [hm b (by unfold mCell at hb; omega) (by unfold mCell at hb; omega)])⟩
  · rw [c 70 6 (by omega) (by omega)]; exact d1
  · rw [c 75 k (by omega) (by omega)]; exact d2 k
  · rw [c 76 7 (by omega) (by omega)]; exact d3
  · rw [c 76 9 (by omega) (by omega)]; exact d4
  · rw [c 76 12 (by omega) (by omega)]; exact d5
  · rw [c 80 k (by omega) (by omega)]; exact d6 k
  · rw [c 83 k (by omega) (by omega)]; exact d7 k
  · rw [c w 2 (by omega) (by omega)]; exact d8
  · rw [c (w + 2) k (by omega) (by omega)]; exact d9 k
  · obtain ⟨t1, t2, t3⟩ := k4 i hi x hx
    exact ⟨t1, t2, t3.eq (funext fun k => c x k (by omega) (by omega)) (funext fun k => c (x + 2) k (by omega) (by omega))⟩
theorem jJ.tp {n : Nat} {I : px_I} {R : px_R} (h : jJ n I R) : 0 ≤ I 70 5 ∧ I 70 5 ≤ 400 := h.1.2.2.2.2

theorem jb_station {n : Nat} {I : px_I} {L : px_L} {R : px_R} (hj : jJ n I R)  : px_K M_X11_station [.ref 32] n I L R (jB n I L (kR R) (fun r I2 L2 => L2 = L ∧ ((I 33 7 < 24 ∧ r = I 33 7 ∧ I2 = px_u I 33 7 (I 33 7 + 1)) ∨ (¬ I 33 7 < 24 ∧ r = -1 ∧ I2 = I)))) := jS (b_station hj.g  ) (fun x I2 L2 h => by
  obtain ⟨rfl, h⟩ := h
  rcases h with ⟨a1, rfl, rfl⟩ | ⟨a1, rfl, rfl⟩
  · have hs := hj.s; have hl := hj.l; have ht := hj.tp
    refine ⟨hj.up (fun b j hb hne => ?_) ?_ (fun b h1 h2 => ?_) ?_ ?_, fun b h1 h2 => ?_, fun _ _ _ => rfl⟩
    · unfold kCell2 at hb; simp only [px_ur]; grind
    · simp only [px_ur]; grind
    · funext j; simp only [px_ur]; grind
    · unfold cSt at *; simp only [px_ur]; grind
    · unfold cGal at *; simp only [px_ur]; grind
    · funext j; simp only [px_ur]; grind
  · exact ⟨hj, fun _ _ _ => rfl, fun _ _ _ => rfl⟩)

theorem jb_sight {n : Nat} {I : px_I} {L : px_L} {R : px_R} (hj : jJ n I R) (a f t lo hi : Int32) : px_K M_X11_sight [.ref 32, .int a, .int f, .int t, .int lo, .int hi] n I L R (jB n I L (kR R) (fun r I2 L2 => L2 = L ∧ ((((0 ≤ a ∧ a ≤ 2) ∧ (-1000000 ≤ lo ∧ lo ≤ hi ∧ hi ≤ 1000000) ∧ (0 ≤ f ∧ f < I 33 7) ∧ (0 ≤ t ∧ t < I 33 7) ∧ f ≠ t ∧ I 33 8 < 80) ∧ r = I 33 8 ∧ I2 = px_u (px_u (px_u (px_u (px_u (px_u (px_u I 34 (I 33 8).toNatClampNeg a) 35 (I 33 8).toNatClampNeg f) 36 (I 33 8).toNatClampNeg t) 37 (I 33 8).toNatClampNeg lo) 38 (I 33 8).toNatClampNeg hi) 39 (I 33 8).toNatClampNeg (I 32 10)) 33 8 (I 33 8 + 1)) ∨ (¬ ((0 ≤ a ∧ a ≤ 2) ∧ (-1000000 ≤ lo ∧ lo ≤ hi ∧ hi ≤ 1000000) ∧ (0 ≤ f ∧ f < I 33 7) ∧ (0 ≤ t ∧ t < I 33 7) ∧ f ≠ t ∧ I 33 8 < 80) ∧ r = -1 ∧ I2 = I)))) := jS (b_sight hj.g a f t lo hi hj.s.2.1) (fun x I2 L2 h => by
  obtain ⟨rfl, h⟩ := h
  rcases h with ⟨a1, rfl, rfl⟩ | ⟨a1, rfl, rfl⟩
  · have hs := hj.s; have hl := hj.l; have ht := hj.tp
    refine ⟨hj.up (fun b j hb hne => ?_) ?_ (fun b h1 h2 => ?_) ?_ ?_, fun b h1 h2 => ?_, fun _ _ _ => rfl⟩
    · unfold kCell2 at hb; simp only [px_ur]; grind
    · simp only [px_ur]; grind
    · funext j; simp only [px_ur]; grind
    · unfold cSt at *; simp only [px_ur]; grind
    · unfold cGal at *; simp only [px_ur]; grind
    · funext j; simp only [px_ur]; grind
  · exact ⟨hj, fun _ _ _ => rfl, fun _ _ _ => rfl⟩)

theorem jb_end {n : Nat} {I : px_I} {L : px_L} {R : px_R} (hj : jJ n I R) (x : Int32) : px_K M_X11_end [.ref 32, .int x] n I L R (jB n I L (kR R) (fun r I2 L2 => L2 = L ∧ (((0 ≤ x ∧ x ≤ I 70 5) ∧ r = x ∧ I2 = px_u I 70 5 x) ∨ (¬ (0 ≤ x ∧ x ≤ I 70 5) ∧ r = -1 ∧ I2 = I)))) := jS (b_end hj.g x ) (fun x I2 L2 h => by
  obtain ⟨rfl, h⟩ := h
  rcases h with ⟨a1, rfl, rfl⟩ | ⟨a1, rfl, rfl⟩
  · have hs := hj.s; have hl := hj.l; have ht := hj.tp
    refine ⟨hj.up (fun b j hb hne => ?_) ?_ (fun b h1 h2 => ?_) ?_ ?_, fun b h1 h2 => ?_, fun _ _ _ => rfl⟩
    · unfold kCell2 at hb; simp only [px_ur]; grind
    · simp only [px_ur]; grind
    · funext j; simp only [px_ur]; grind
    · unfold cSt at *; simp only [px_ur]; grind
    · unfold cGal at *; simp only [px_ur]; grind
    · funext j; simp only [px_ur]; grind
  · exact ⟨hj, fun _ _ _ => rfl, fun _ _ _ => rfl⟩)
