/-! two more -/

theorem cReach_o {G b : Nat} {I : px_I} {lo hi sl fa w st : Int32} (h : b < G ∨ G + 8 < b) : cReach G I lo hi sl fa w st b = I b := by
  unfold cReach cRch cPeg
  by_cases g0 : I G 13 = 0
  · rw [if_pos g0, if_pos g0]; repeat rw [px_u_ne (by omega)]
  · rw [if_neg g0, if_neg g0]; repeat rw [px_u_ne (by omega)]
theorem cReach_f {G j : Nat} {I : px_I} {lo hi sl fa w st : Int32} (hj : j ≠ 13) : cReach G I lo hi sl fa w st G j = I G j := by
  unfold cReach cRch cPeg
  by_cases g0 : I G 13 = 0
  · rw [if_pos g0, if_pos g0]; repeat (first | rw [px_u_ne (by omega)] | rw [px_u_at_ne hj])
  · rw [if_neg g0, if_neg g0]; repeat (first | rw [px_u_ne (by omega)] | rw [px_u_at_ne hj])
theorem cPeg_13 {G : Nat} {I : px_I} {st : Int32} : cPeg G I st G 13 = I G 13 + 1 := by unfold cPeg; rw [px_u_at]
theorem cReach_13 {G : Nat} {I : px_I} {lo hi sl fa w st : Int32} (h0 : 0 ≤ I G 13) (h : I G 13 < 20) : 0 ≤ cReach G I lo hi sl fa w st G 13 ∧ cReach G I lo hi sl fa w st G 13 ≤ 20 := by
  have e : cReach G I lo hi sl fa w st G 13 = (if I G 13 = 0 then I G 13 + 1 else I G 13) + 1 := by
    unfold cReach cRch
    rw [px_u_ne (by omega), px_u_ne (by omega), px_u_ne (by omega), px_u_ne (by omega), px_u_ne (by omega), cPeg_13]
    by_cases g0 : I G 13 = 0
    · rw [if_pos g0, if_pos g0, cPeg_13]
    · rw [if_neg g0, if_neg g0]
  rw [e]
  split <;> constructor <;> grind

theorem jb_reach {n : Nat} {I : px_I} {L : px_L} {R : px_R} (hj : jJ n I R) (g lo hi sl fa w st : Int32) : px_K M_X11_reach [.ref 32, .int g, .int lo, .int hi, .int sl, .int fa, .int w, .int st] n I L R (jB n I L (kR R) (fun r I2 L2 => L2 = L ∧ ((∃ G, (bG g G ∧ (st = -1 ∨ (0 ≤ st ∧ st < I 33 7)) ∧ cReachOk G I lo hi sl fa w) ∧ r = (if I G 13 = 0 then 1 else I G 13) ∧ I2 = cReach G I lo hi sl fa w st) ∨ (¬ (∃ G, bG g G ∧ (st = -1 ∨ (0 ≤ st ∧ st < I 33 7)) ∧ cReachOk G I lo hi sl fa w) ∧ r = -1 ∧ I2 = I)))) := jS (b_reach hj.g g lo hi sl fa w st hj.l) (fun x I2 L2 h => by
  obtain ⟨rfl, h⟩ := h
  rcases h with ⟨G, ⟨g1, g2, g3⟩, rfl, rfl⟩ | ⟨a1, rfl, rfl⟩
  · have hs := hj.s; have hl := hj.l; have ht := hj.tp
    have gG : G = 41 ∨ G = 55 := by unfold bG at g1; omega
    have g4 := g3.2.2.2
    refine ⟨hj.up (fun b j hb hne => ?_) ?_ (fun b h1 h2 => ?_) ?_ ?_, fun b h1 h2 => ?_, fun _ _ _ => rfl⟩
    · unfold kCell2 at hb; rw [cReach_o (by omega)]
    · rw [cReach_o (by omega)]; exact ht
    · rw [cReach_o (by omega)]
    · unfold cSt at *; rw [cReach_o (by omega)]; exact hs
    · unfold cGal at *
      rcases gG with rfl | rfl
      · rw [cReach_f (G := 41) (j := 15) (by decide), cReach_o (G := 41) (b := 55) (by omega)]
        exact ⟨⟨cReach_13 hl.1.1.1 g4, hl.1.2⟩, hl.2⟩
      · rw [cReach_f (G := 55) (j := 15) (by decide), cReach_o (G := 55) (b := 41) (by omega)]
        exact ⟨hl.1, ⟨cReach_13 hl.2.1.1 g4, hl.2.2⟩⟩
    · rw [cReach_o (by omega)]
  · exact ⟨hj, fun _ _ _ => rfl, fun _ _ _ => rfl⟩)

theorem jb_repair {n : Nat} {I : px_I} {L : px_L} {R : px_R} (hj : jJ n I R) (g p y : Int32) : px_K M_X11_repair [.ref 32, .int g, .int p, .int y] n I L R (jB n I L (kR R) (fun r I2 L2 => L2 = L ∧ ((∃ G, (bG g G ∧ I 41 15 + I 55 15 < 30 ∧ (1 ≤ p ∧ p < I G 13) ∧ (0 ≤ y ∧ y ≤ 5000) ∧ I G 15 < 30) ∧ r = I 41 15 + I 55 15 + 1 ∧ I2 = cRep G I p y (I 32 10)) ∨ (¬ (∃ G, bG g G ∧ I 41 15 + I 55 15 < 30 ∧ (1 ≤ p ∧ p < I G 13) ∧ (0 ≤ y ∧ y ≤ 5000) ∧ I G 15 < 30) ∧ r = -1 ∧ I2 = I)))) := jS (b_repair hj.g g p y hj.l) (fun x I2 L2 h => by
  obtain ⟨rfl, h⟩ := h
  rcases h with ⟨G, g1, rfl, rfl⟩ | ⟨a1, rfl, rfl⟩
  · have hs := hj.s; have hl := hj.l; have ht := hj.tp
    unfold cRep; unfold bG at g1
    refine ⟨hj.up (fun b j hb hne => ?_) ?_ (fun b h1 h2 => ?_) ?_ ?_, fun b h1 h2 => ?_, fun _ _ _ => rfl⟩
    · unfold kCell2 at hb; simp only [px_ur]; grind
    · simp only [px_ur]; grind
    · funext j; simp only [px_ur]; grind
    · unfold cSt at *; simp only [px_ur]; grind
    · unfold cGal at *; simp only [px_ur]; grind
    · funext j; simp only [px_ur]; grind
  · exact ⟨hj, fun _ _ _ => rfl, fun _ _ _ => rfl⟩)
