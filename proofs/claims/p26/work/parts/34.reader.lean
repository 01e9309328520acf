/-! the class reads a text -/
/-- the draft that is being written -/
def cRW (R : px_R) (w : Nat) : px_R := fun o k => bif Nat.beq o 76 && Nat.beq k 1 then some w else R o k
theorem cRW_ne {R : px_R} {w o k : Nat} (h : ¬ (o = 76 ∧ k = 1)) : cRW R w o k = R o k := by
  unfold cRW
  rw [cR_ne h]; rfl
theorem px_tg76 : px_tg 76 1 = 0 ∧ (px_sh 76).1 ≠ 10 := by decide +kernel
theorem cRW_G {n w : Nat} {R : px_R} (hg : px_G n R) : px_G n (cRW R w) := by
  obtain ⟨h1, h2, h3⟩ := hg
  refine ⟨h1, fun o k hk => ?_, fun x hx => ?_⟩
  · rw [cRW_ne (fun q => hk (by rw [q.1, q.2]; exact px_tg76.1))]
    exact h2 o k hk
  · have hne : x ≠ 76 := fun e => by subst e; exact px_tg76.2 hx.2.2
    rw [cRW_ne (fun q => hne q.1), cRW_ne (fun q => hne q.1)]
    exact h3 x hx
theorem cRW_id {R : px_R} {w : Nat} (h : R 76 1 = some w) : cRW R w = R := by
  funext o k
  by_cases q : o = 76 ∧ k = 1
  · rw [q.1, q.2, h]; rfl
  · exact cRW_ne q
/-- a way's three numbers -/
def cWay (n w : Nat) : Prop := px_is n w 10 ∧ px_ia n (w + 1) 20 200 ∧ px_ia n (w + 2) 20 200
def cAdd (I : px_I) (w : Nat) (o v : Int32) : px_I := if I w 2 < 200 then px_u (px_u (px_u I (w + 1) (I w 2).toNatClampNeg o) (w + 2) (I w 2).toNatClampNeg v) w 2 (I w 2 + 1) else I
def cWv (I : px_I) (w : Nat) : Prop := (0 ≤ I w 2 ∧ I w 2 ≤ 200) ∧ ∀ k : Nat, 0 ≤ I (w + 2) k ∧ I (w + 2) k ≤ 1000000
def cRd (w : Nat) (I : px_I) : Prop := (w = 77 ∨ 147 ≤ w) ∧ (0 ≤ I 70 6 ∧ I 70 6 ≤ 401) ∧ cNu I ∧ (0 ≤ I 76 7 ∧ I 76 7 ≤ 8) ∧ (-1 ≤ I 76 9 ∧ I 76 9 ≤ 400) ∧ (0 ≤ I 76 12 ∧ I 76 12 ≤ 1000000) ∧ (∀ k : Nat, 0 ≤ I 80 k ∧ I 80 k ≤ 200) ∧ (∀ k : Nat, 0 ≤ I 83 k ∧ I 83 k ≤ 201) ∧ cWv I w
def cRF (w : Nat) (I I2 : px_I) : Prop := ∀ b j, ¬ (b = 76 ∧ 7 ≤ j) → (b < 80 ∨ 84 < b) → b ≠ w → b ≠ w + 1 → b ≠ w + 2 → I2 b j = I b j
def cRr (w : Nat) (I I2 : px_I) : Prop := cRd w I2 ∧ cRF w I I2
def c80 (I : px_I) : Prop := ∀ k : Nat, 0 ≤ I 80 k ∧ I 80 k ≤ 200
def c83 (I : px_I) : Prop := ∀ k : Nat, 0 ≤ I 83 k ∧ I 83 k ≤ 201
def cW2 (I : px_I) (w : Nat) : Prop := ∀ k : Nat, 0 ≤ I (w + 2) k ∧ I (w + 2) k ≤ 1000000
theorem cRd.op {w : Nat} {I : px_I} (h : cRd w I) : (w = 77 ∨ 147 ≤ w) ∧ (0 ≤ I 70 6 ∧ I 70 6 ≤ 401) ∧ cNu I ∧ (0 ≤ I 76 7 ∧ I 76 7 ≤ 8) ∧ (-1 ≤ I 76 9 ∧ I 76 9 ≤ 400) ∧ (0 ≤ I 76 12 ∧ I 76 12 ≤ 1000000) ∧ c80 I ∧ c83 I ∧ (0 ≤ I w 2 ∧ I w 2 ≤ 200) ∧ cW2 I w := by
  obtain ⟨d0, d1, d2, d3, d4, d5, d6, d7, d8, d9⟩ := h
  exact ⟨d0, d1, d2, d3, d4, d5, d6, d7, d8, d9⟩
theorem cRr.trans {w : Nat} {I I1 I2 : px_I} (h : cRr w I I1) (h2 : cRr w I1 I2) : cRr w I I2 := ⟨h2.1, fun b j h3 h4 h5 h6 h7 => (h2.2 b j h3 h4 h5 h6 h7).trans (h.2 b j h3 h4 h5 h6 h7)⟩
theorem cRr.rfl' {w : Nat} {I : px_I} (h : cRd w I) : cRr w I I := ⟨h, fun _ _ _ _ _ _ _ => rfl⟩
def cOk (w b k : Nat) (v : Int32) : Prop := (b = 76 ∧ 7 ≤ k ∧ (k = 7 → 0 ≤ v ∧ v ≤ 8) ∧ (k = 9 → -1 ≤ v ∧ v ≤ 400) ∧ (k = 12 → 0 ≤ v ∧ v ≤ 1000000)) ∨ (b = 80 ∧ 0 ≤ v ∧ v ≤ 200) ∨ b = 81 ∨ b = 82 ∨ (b = 83 ∧ 0 ≤ v ∧ v ≤ 201) ∨ b = 84 ∨ (b = w ∧ (k = 2 → 0 ≤ v ∧ v ≤ 200)) ∨ b = w + 1 ∨ (b = w + 2 ∧ 0 ≤ v ∧ v ≤ 1000000)
theorem cRr.up {w b k : Nat} {v : Int32} {I0 I : px_I} (h : cRr w I0 I) (hc : cOk w b k v) : cRr w I0 (px_u I b k v) := by
  obtain ⟨⟨h0, h1, h2, h3, h4, h5, h6, h7, h8, h9⟩, hF⟩ := h
  unfold cOk at hc
  refine ⟨⟨h0, ?_, fun q => ?_, ?_, ?_, ?_, fun q => ?_, fun q => ?_, ?_, fun q => ?_⟩, fun b2 j a1 a2 a3 a4 a5 => ?_⟩
  · rw [px_ur]; rw [if_neg (by omega)]; exact h1
  · rw [px_ur]; rw [if_neg (by omega)]; exact h2 q
  · rw [px_ur]
    by_cases hb : 76 = b
    · rw [if_pos hb]
      by_cases hk : 7 = k
      · rw [if_pos hk]
        rcases hc with hc | hc
        · exact hc.2.2.1 hk.symm
        · omega
      · rw [if_neg hk]; exact h3
    · rw [if_neg hb]; exact h3
  · rw [px_ur]
    by_cases hb : 76 = b
    · rw [if_pos hb]
      by_cases hk : 9 = k
      · rw [if_pos hk]
        rcases hc with hc | hc
        · exact hc.2.2.2.1 hk.symm
        · omega
      · rw [if_neg hk]; exact h4
    · rw [if_neg hb]; exact h4
  · rw [px_ur]
    by_cases hb : 76 = b
    · rw [if_pos hb]
      by_cases hk : 12 = k
      · rw [if_pos hk]
        rcases hc with hc | hc
        · exact hc.2.2.2.2 hk.symm
        · omega
      · rw [if_neg hk]; exact h5
    · rw [if_neg hb]; exact h5
  · rw [px_ur]
    have := h6 q
    by_cases hb : 80 = b
    · rw [if_pos hb]
      by_cases hk : q = k
      · rw [if_pos hk]
        rcases hc with hc | hc | hc
        · omega
        · exact hc.2
        · omega
      · rw [if_neg hk]; exact this
    · rw [if_neg hb]; exact this
  · rw [px_ur]
    have := h7 q
    by_cases hb : 83 = b
    · rw [if_pos hb]
      by_cases hk : q = k
      · rw [if_pos hk]
        rcases hc with hc | hc | hc | hc | hc | hc
        · omega
        · omega
        · omega
        · omega
        · exact hc.2
        · omega
      · rw [if_neg hk]; exact this
    · rw [if_neg hb]; exact this
  · rw [px_ur]
    by_cases hb : w = b
    · rw [if_pos hb]
      by_cases hk : 2 = k
      · rw [if_pos hk]
        rcases hc with hc | hc | hc | hc | hc | hc | hc | hc
        · omega
        · omega
        · omega
        · omega
        · omega
        · omega
        · exact hc.2 hk.symm
        · omega
      · rw [if_neg hk]; exact h8
    · rw [if_neg hb]; exact h8
  · rw [px_ur]
    have := h9 q
    by_cases hb : w + 2 = b
    · rw [if_pos hb]
      by_cases hk : q = k
      · rw [if_pos hk]
        rcases hc with hc | hc | hc | hc | hc | hc | hc | hc | hc
        · omega
        · omega
        · omega
        · omega
        · omega
        · omega
        · omega
        · omega
        · exact hc.2
      · rw [if_neg hk]; exact this
    · rw [if_neg hb]; exact this
  · rw [px_ur, ← hF b2 j a1 a2 a3 a4 a5]
    by_cases hb : b2 = b
    · rw [if_pos hb]
      by_cases hk : j = k
      · omega
      · rw [if_neg hk]
    · rw [if_neg hb]
theorem cRr.add {w : Nat} {o v : Int32} {I0 I I2 : px_I} (h : cRr w I0 I) (h2 : I2 = cAdd I w o v) (hv : 0 ≤ v ∧ v ≤ 1000000) : cRr w I0 I2 := by
  subst h2
  unfold cAdd
  have h8 := h.1.2.2.2.2.2.2.2.2.1
  by_cases hs : I w 2 < 200
  · rw [if_pos hs]
    exact ((h.up (by unfold cOk; omega)).up (by unfold cOk; grind)).up (by unfold cOk; grind)
  · rw [if_neg hs]; exact h

theorem q_X10_add_0 : px_bk 10 3 cX10_add 0 [(.aload_n 0, (0, 0, 0, 0, 0), 0, 0), (.getfield 18, (10, 2, 5, 0, 0), 0, 0), (.sipush 200, (0, 0, 0, 0, 0), 200, 0)] = some 7 ∧ px_t2 cX10_add 7 .ge 40 = true := by decide +kernel
theorem q_X10_add_40 : px_bk 10 3 cX10_add 40 [] = some 40 ∧ px_tr cX10_add 40 .return_ = true := by decide +kernel
theorem q_X10_add_10 : px_bk 10 3 cX10_add 10 [(.aload_n 0, (0, 0, 0, 0, 0), 0, 0), (.getfield 11, (10, 0, 6, 1, 0), 0, 0), (.aload_n 0, (0, 0, 0, 0, 0), 0, 0), (.getfield 18, (10, 2, 5, 0, 0), 0, 0), (.iload_n 1, (0, 0, 0, 0, 0), 0, 0), (.iastore, (1, 0, 0, 0, 0), 200, 0), (.aload_n 0, (0, 0, 0, 0, 0), 0, 0), (.getfield 15, (10, 1, 6, 2, 0), 0, 0), (.aload_n 0, (0, 0, 0, 0, 0), 0, 0), (.getfield 18, (10, 2, 5, 0, 0), 0, 0), (.iload_n 2, (0, 0, 0, 0, 0), 0, 0), (.iastore, (1, 0, 0, 0, 0), 200, 0), (.aload_n 0, (0, 0, 0, 0, 0), 0, 0), (.dup, (0, 0, 0, 0, 0), 0, 0), (.getfield 18, (10, 2, 5, 0, 0), 0, 0), (.iconst 1, (0, 0, 0, 0, 0), 1, 0), (.iadd, (0, 0, 0, 0, 0), 0, 0), (.putfield 18, (10, 2, 5, 0, 0), 0, 0)] = some 40 ∧ px_tr cX10_add 40 .return_ = true := by decide +kernel
set_option maxRecDepth 100000 in
theorem c_add {n : Nat} {I : px_I} {L : px_L} {R : px_R} {w : Nat} (hg : px_G n R) (hw : cWay n w) (o v : Int32) (hs : 0 ≤ I w 2) : px_KV M_X10_add [.ref w, .int o, .int v] n I L R (fun I2 L2 => L2 = L ∧ I2 = cAdd I w o v) := by
  refine px_of (plainFor_of_name np_RX10) (fun _ _ _ => trivial) rfl ?_
  refine px_ige rfl q_X10_add_0 hg rfl ⟨trivial, (by first | exact hw.1 | exact hw.2.1 | exact hw.2.2 | (simp only [px_app] at *; refine ⟨?_, ?_⟩ <;> grind) | (simp [px_app, px_ur] at *; refine ⟨?_, ?_⟩ <;> grind) | (simp [px_app, px_ur] at *; grind))⟩ (fun c7 => ?_) (fun c7 => ?_)
  · simp only [px_app] at c7
    refine px_rvW rfl q_X10_add_40 rfl rfl rfl hg rfl trivial ⟨⟨rfl, rfl⟩, ?_⟩
    first | exact ⟨rfl, by unfold cAdd; rw [if_neg (by grind)]⟩ | (refine ⟨rfl, ?_⟩; unfold cAdd; rw [if_pos (by grind)]; simp [px_app, px_ur])
  · simp only [px_app] at c7
    refine px_rvW rfl q_X10_add_10 rfl rfl rfl hg rfl ⟨⟨⟨⟨⟨⟨⟨⟨⟨⟨trivial, (by first | exact hw.1 | exact hw.2.1 | exact hw.2.2 | (simp only [px_app] at *; refine ⟨?_, ?_⟩ <;> grind) | (simp [px_app, px_ur] at *; refine ⟨?_, ?_⟩ <;> grind) | (simp [px_app, px_ur] at *; grind))⟩, (by first | exact hw.1 | exact hw.2.1 | exact hw.2.2 | (simp only [px_app] at *; refine ⟨?_, ?_⟩ <;> grind) | (simp [px_app, px_ur] at *; refine ⟨?_, ?_⟩ <;> grind) | (simp [px_app, px_ur] at *; grind))⟩, (by first | exact hw.1 | exact hw.2.1 | exact hw.2.2 | (simp only [px_app] at *; refine ⟨?_, ?_⟩ <;> grind) | (simp [px_app, px_ur] at *; refine ⟨?_, ?_⟩ <;> grind) | (simp [px_app, px_ur] at *; grind))⟩, (by first | exact hw.1 | exact hw.2.1 | exact hw.2.2 | (simp only [px_app] at *; refine ⟨?_, ?_⟩ <;> grind) | (simp [px_app, px_ur] at *; refine ⟨?_, ?_⟩ <;> grind) | (simp [px_app, px_ur] at *; grind))⟩, (by first | exact hw.1 | exact hw.2.1 | exact hw.2.2 | (simp only [px_app] at *; refine ⟨?_, ?_⟩ <;> grind) | (simp [px_app, px_ur] at *; refine ⟨?_, ?_⟩ <;> grind) | (simp [px_app, px_ur] at *; grind))⟩, (by first | exact hw.1 | exact hw.2.1 | exact hw.2.2 | (simp only [px_app] at *; refine ⟨?_, ?_⟩ <;> grind) | (simp [px_app, px_ur] at *; refine ⟨?_, ?_⟩ <;> grind) | (simp [px_app, px_ur] at *; grind))⟩, (by first | exact hw.1 | exact hw.2.1 | exact hw.2.2 | (simp only [px_app] at *; refine ⟨?_, ?_⟩ <;> grind) | (simp [px_app, px_ur] at *; refine ⟨?_, ?_⟩ <;> grind) | (simp [px_app, px_ur] at *; grind))⟩, (by first | exact hw.1 | exact hw.2.1 | exact hw.2.2 | (simp only [px_app] at *; refine ⟨?_, ?_⟩ <;> grind) | (simp [px_app, px_ur] at *; refine ⟨?_, ?_⟩ <;> grind) | (simp [px_app, px_ur] at *; grind))⟩, (by first | exact hw.1 | exact hw.2.1 | exact hw.2.2 | (simp only [px_app] at *; refine ⟨?_, ?_⟩ <;> grind) | (simp [px_app, px_ur] at *; refine ⟨?_, ?_⟩ <;> grind) | (simp [px_app, px_ur] at *; grind))⟩, (by first | exact hw.1 | exact hw.2.1 | exact hw.2.2 | (simp only [px_app] at *; refine ⟨?_, ?_⟩ <;> grind) | (simp [px_app, px_ur] at *; refine ⟨?_, ?_⟩ <;> grind) | (simp [px_app, px_ur] at *; grind))⟩ ⟨⟨rfl, rfl⟩, ?_⟩
    first | exact ⟨rfl, by unfold cAdd; rw [if_neg (by grind)]⟩ | (refine ⟨rfl, ?_⟩; unfold cAdd; rw [if_pos (by grind)]; simp [px_app, px_ur])

theorem q_X4_nextToken_0 : px_bk 4 1 cX4_nextToken 0 [(.aload_n 0, (0, 0, 0, 0, 0), 0, 0), (.getfield 41, (4, 9, 0, 0, 0), 0, 0), (.iconst 1, (0, 0, 0, 0, 0), 1, 0), (.iadd, (0, 0, 0, 0, 0), 0, 0), (.aload_n 0, (0, 0, 0, 0, 0), 0, 0), (.getfield 64, (4, 0, 3, 70, 0), 0, 0), (.getfield 74, (8, 6, 0, 0, 0), 0, 0)] = some 13 ∧ px_t2 cX4_nextToken 13 .ge 74 = true := by decide +kernel
theorem q_X4_nextToken_74 : px_bk 4 1 cX4_nextToken 74 [] = some 74 ∧ px_tr cX4_nextToken 74 .return_ = true := by decide +kernel
theorem q_X4_nextToken_16 : px_bk 4 1 cX4_nextToken 16 [(.aload_n 0, (0, 0, 0, 0, 0), 0, 0), (.dup, (0, 0, 0, 0, 0), 0, 0), (.getfield 41, (4, 9, 0, 0, 0), 0, 0), (.iconst 1, (0, 0, 0, 0, 0), 1, 0), (.iadd, (0, 0, 0, 0, 0), 0, 0), (.putfield 41, (4, 9, 0, 0, 0), 0, 0), (.aload_n 0, (0, 0, 0, 0, 0), 0, 0), (.aload_n 0, (0, 0, 0, 0, 0), 0, 0), (.getfield 64, (4, 0, 3, 70, 0), 0, 0), (.getfield 184, (8, 1, 3, 72, 0), 0, 0), (.aload_n 0, (0, 0, 0, 0, 0), 0, 0), (.getfield 41, (4, 9, 0, 0, 0), 0, 0), (.iaload, (0, 0, 0, 0, 0), 0, 0), (.putfield 46, (4, 10, 0, 0, 0), 0, 0), (.aload_n 0, (0, 0, 0, 0, 0), 0, 0), (.aload_n 0, (0, 0, 0, 0, 0), 0, 0), (.getfield 64, (4, 0, 3, 70, 0), 0, 0), (.getfield 186, (8, 2, 3, 73, 0), 0, 0), (.aload_n 0, (0, 0, 0, 0, 0), 0, 0), (.getfield 41, (4, 9, 0, 0, 0), 0, 0), (.iaload, (0, 0, 0, 0, 0), 0, 0), (.putfield 49, (4, 11, 0, 0, 0), 0, 0), (.aload_n 0, (0, 0, 0, 0, 0), 0, 0), (.aload_n 0, (0, 0, 0, 0, 0), 0, 0), (.getfield 64, (4, 0, 3, 70, 0), 0, 0), (.getfield 188, (8, 4, 3, 75, 0), 0, 0), (.aload_n 0, (0, 0, 0, 0, 0), 0, 0), (.getfield 41, (4, 9, 0, 0, 0), 0, 0), (.iaload, (0, 0, 0, 0, 0), 0, 0), (.putfield 52, (4, 12, 0, 0, 0), 0, 0)] = some 74 ∧ px_tr cX4_nextToken 74 .return_ = true := by decide +kernel
set_option maxRecDepth 100000 in
theorem c_nextToken {n : Nat} {I : px_I} {L : px_L} {R : px_R} {w : Nat} (hg : px_G n (cRW R w)) (hw : cWay n w) (hd : cRd w I) : px_KV M_X4_nextToken [.ref 76] n I L (cRW R w) (fun I2 L2 => L2 = L ∧ cRr w I I2) := by
  refine px_of (plainFor_of_name np_RX4) (fun _ _ _ => trivial) rfl ?_
  have hr := cRr.rfl' hd
  obtain ⟨d0, d1, d2, d3, d4, d5, d6, d7, d8, d9⟩ := cRd.op hd
  refine px_ige rfl q_X4_nextToken_0 hg rfl trivial (fun c13 => ?_) (fun c13 => ?_)
  · refine px_rvW rfl q_X4_nextToken_74 rfl rfl rfl hg rfl trivial ⟨⟨rfl, rfl⟩, ?_⟩
    exact ⟨rfl, by repeat (first | exact hr | refine cRr.up ?_ (by unfold cOk; (try simp only [px_app, px_ur]); grind))⟩
  · have hk : 0 ≤ I 76 9 + 1 ∧ I 76 9 + 1 < 401 := by grind
    have hn := d2 (I 76 9 + 1).toNatClampNeg
    refine px_rvW rfl q_X4_nextToken_16 rfl rfl rfl hg rfl ⟨⟨⟨trivial, (by first | (simp only [px_ur]; refine ⟨?_, ?_⟩ <;> grind) | (refine ⟨?_, ?_⟩ <;> grind))⟩, (by first | (simp only [px_ur]; refine ⟨?_, ?_⟩ <;> grind) | (refine ⟨?_, ?_⟩ <;> grind))⟩, (by first | (simp only [px_ur]; refine ⟨?_, ?_⟩ <;> grind) | (refine ⟨?_, ?_⟩ <;> grind))⟩ ⟨⟨rfl, rfl⟩, ?_⟩
    exact ⟨rfl, by repeat (first | exact hr | refine cRr.up ?_ (by unfold cOk; (try simp only [px_app, px_ur]); grind))⟩

theorem q_X4_fail_0 : px_bk 4 2 cX4_fail 0 [(.aload_n 0, (0, 0, 0, 0, 0), 0, 0), (.getfield 58, (4, 14, 0, 0, 0), 0, 0)] = some 4 ∧ px_t1 cX4_fail 4 .ne 20 = true := by decide +kernel
theorem q_X4_fail_20 : px_bk 4 2 cX4_fail 20 [] = some 20 ∧ px_tr cX4_fail 20 .return_ = true := by decide +kernel
theorem q_X4_fail_7 : px_bk 4 2 cX4_fail 7 [(.aload_n 0, (0, 0, 0, 0, 0), 0, 0), (.iload_n 1, (0, 0, 0, 0, 0), 0, 0), (.putfield 58, (4, 14, 0, 0, 0), 0, 0), (.aload_n 0, (0, 0, 0, 0, 0), 0, 0), (.aload_n 0, (0, 0, 0, 0, 0), 0, 0), (.getfield 49, (4, 11, 0, 0, 0), 0, 0), (.putfield 61, (4, 15, 0, 0, 0), 0, 0)] = some 20 ∧ px_tr cX4_fail 20 .return_ = true := by decide +kernel
set_option maxRecDepth 100000 in
theorem c_fail {n : Nat} {I : px_I} {L : px_L} {R : px_R} {w : Nat} (hg : px_G n (cRW R w)) (hw : cWay n w) (x : Int32) (hd : cRd w I) : px_KV M_X4_fail [.ref 76, .int x] n I L (cRW R w) (fun I2 L2 => L2 = L ∧ cRr w I I2) := by
  refine px_of (plainFor_of_name np_RX4) (fun _ _ _ => trivial) rfl ?_
  have hr := cRr.rfl' hd
  obtain ⟨d0, d1, d2, d3, d4, d5, d6, d7, d8, d9⟩ := cRd.op hd
  refine px_ne rfl q_X4_fail_0 hg rfl trivial (fun c4 => ?_) (fun c4 => ?_)
  · refine px_rvW rfl q_X4_fail_20 rfl rfl rfl hg rfl trivial ⟨⟨rfl, rfl⟩, ?_⟩
    exact ⟨rfl, (by repeat (first | exact hr | refine cRr.up ?_ (by unfold cOk; (try simp only [px_app, px_ur]); grind)))⟩
  · refine px_rvW rfl q_X4_fail_7 rfl rfl rfl hg rfl trivial ⟨⟨rfl, rfl⟩, ?_⟩
    exact ⟨rfl, (by repeat (first | exact hr | refine cRr.up ?_ (by unfold cOk; (try simp only [px_app, px_ur]); grind)))⟩

theorem q_X4_take_0 : px_bk 4 2 cX4_take 0 [(.aload_n 0, (0, 0, 0, 0, 0), 0, 0), (.getfield 58, (4, 14, 0, 0, 0), 0, 0)] = some 4 ∧ px_t1 cX4_take 4 .ne 24 = true := by decide +kernel
theorem q_X4_take_24 : px_bk 4 2 cX4_take 24 [] = some 24 ∧ px_tr cX4_take 24 .return_ = true := by decide +kernel
theorem q_X4_take_7 : px_bk 4 2 cX4_take 7 [(.aload_n 0, (0, 0, 0, 0, 0), 0, 0)] = some 8 ∧ px_tv cX4_take 8 77 = true := by decide +kernel
theorem q_X4_take_11 : px_bk 4 2 cX4_take 11 [(.aload_n 0, (0, 0, 0, 0, 0), 0, 0), (.getfield 46, (4, 10, 0, 0, 0), 0, 0), (.iload_n 1, (0, 0, 0, 0, 0), 0, 0)] = some 16 ∧ px_t2 cX4_take 16 .eq 24 = true := by decide +kernel
theorem q_X4_take_19 : px_bk 4 2 cX4_take 19 [(.aload_n 0, (0, 0, 0, 0, 0), 0, 0), (.iconst 1, (0, 0, 0, 0, 0), 1, 0)] = some 21 ∧ px_tv cX4_take 21 86 = true := by decide +kernel
set_option maxRecDepth 100000 in
theorem c_take {n : Nat} {I : px_I} {L : px_L} {R : px_R} {w : Nat} (hg : px_G n (cRW R w)) (hw : cWay n w) (x : Int32) (hd : cRd w I) : px_KV M_X4_take [.ref 76, .int x] n I L (cRW R w) (fun I2 L2 => L2 = L ∧ cRr w I I2) := by
  refine px_of (plainFor_of_name np_RX4) (fun _ _ _ => trivial) rfl ?_
  have hr := cRr.rfl' hd
  obtain ⟨d0, d1, d2, d3, d4, d5, d6, d7, d8, d9⟩ := cRd.op hd
  refine px_ne rfl q_X4_take_0 hg rfl trivial (fun c4 => ?_) (fun c4 => ?_)
  · refine px_rvW rfl q_X4_take_24 rfl rfl rfl hg rfl trivial ⟨⟨rfl, rfl⟩, ?_⟩
    exact ⟨rfl, hr⟩
  · refine px_cVW (ci := 4) rfl q_X4_take_7 hg rfl trivial lk_4_77 nm_X4_nextToken (c_nextToken hg hw  (show cRd w _ from (by repeat (first | exact hr | refine cRr.up ?_ (by unfold cOk; (try simp only [px_app, px_ur]); grind)) : cRr w I _).1)) rfl rfl (px_lit hg rfl) rfl rfl rfl ⟨rfl, rfl⟩ ?_
    intro I8 L8 h8
    obtain ⟨rfl, h8⟩ := h8
    replace hr : cRr w I I8 := cRr.trans (by repeat (first | exact hr | refine cRr.up ?_ (by unfold cOk; (try simp only [px_app, px_ur]); grind))) h8
    clear d0 d1 d2 d3 d4 d5 d6 d7 d8 d9
    obtain ⟨d0, d1, d2, d3, d4, d5, d6, d7, d8, d9⟩ := cRd.op hr.1
    refine px_ieq rfl q_X4_take_11 hg rfl trivial (fun c16 => ?_) (fun c16 => ?_)
    · refine px_rvW rfl q_X4_take_24 rfl rfl rfl hg rfl trivial ⟨⟨rfl, rfl⟩, ?_⟩
      exact ⟨rfl, hr⟩
    · refine px_cVW (ci := 4) rfl q_X4_take_19 hg rfl trivial lk_4_86 nm_X4_fail (c_fail hg hw _ (show cRd w _ from (by repeat (first | exact hr | refine cRr.up ?_ (by unfold cOk; (try simp only [px_app, px_ur]); grind)) : cRr w I _).1)) rfl rfl (px_lit hg rfl) rfl rfl rfl ⟨rfl, rfl⟩ ?_
      intro I21 L21 h21
      obtain ⟨rfl, h21⟩ := h21
      replace hr : cRr w I I21 := cRr.trans (by repeat (first | exact hr | refine cRr.up ?_ (by unfold cOk; (try simp only [px_app, px_ur]); grind))) h21
      clear d0 d1 d2 d3 d4 d5 d6 d7 d8 d9
      obtain ⟨d0, d1, d2, d3, d4, d5, d6, d7, d8, d9⟩ := cRd.op hr.1
      refine px_rvW rfl q_X4_take_24 rfl rfl rfl hg rfl trivial ⟨⟨rfl, rfl⟩, ?_⟩
      exact ⟨rfl, hr⟩

theorem q_X4_takeNumber_0 : px_bk 4 3 cX4_takeNumber 0 [(.aload_n 0, (0, 0, 0, 0, 0), 0, 0), (.iconst 2, (0, 0, 0, 0, 0), 2, 0)] = some 2 ∧ px_tv cX4_takeNumber 2 139 = true := by decide +kernel
theorem q_X4_takeNumber_5 : px_bk 4 3 cX4_takeNumber 5 [(.aload_n 0, (0, 0, 0, 0, 0), 0, 0), (.getfield 58, (4, 14, 0, 0, 0), 0, 0)] = some 9 ∧ px_t1 cX4_takeNumber 9 .ne 29 = true := by decide +kernel
theorem q_X4_takeNumber_29 : px_bk 4 3 cX4_takeNumber 29 [] = some 29 ∧ px_tr cX4_takeNumber 29 .return_ = true := by decide +kernel
theorem q_X4_takeNumber_12 : px_bk 4 3 cX4_takeNumber 12 [(.aload_n 0, (0, 0, 0, 0, 0), 0, 0), (.getfield 52, (4, 12, 0, 0, 0), 0, 0), (.iload_n 1, (0, 0, 0, 0, 0), 0, 0), (.iload_n 2, (0, 0, 0, 0, 0), 0, 0)] = some 18 ∧ px_tS cX4_takeNumber 18 158 = true := by decide +kernel
theorem q_X4_takeNumber_21 : px_bk 4 3 cX4_takeNumber 21 [] = some 21 ∧ px_t1 cX4_takeNumber 21 .ne 29 = true := by decide +kernel
theorem q_X4_takeNumber_24 : px_bk 4 3 cX4_takeNumber 24 [(.aload_n 0, (0, 0, 0, 0, 0), 0, 0), (.iconst 2, (0, 0, 0, 0, 0), 2, 0)] = some 26 ∧ px_tv cX4_takeNumber 26 86 = true := by decide +kernel
set_option maxRecDepth 100000 in
theorem c_takeNumber {n : Nat} {I : px_I} {L : px_L} {R : px_R} {w : Nat} (hg : px_G n (cRW R w)) (hw : cWay n w) (a b : Int32) (hd : cRd w I) : px_KV M_X4_takeNumber [.ref 76, .int a, .int b] n I L (cRW R w) (fun I2 L2 => L2 = L ∧ cRr w I I2) := by
  refine px_of (plainFor_of_name np_RX4) (fun _ _ _ => trivial) rfl ?_
  have hr := cRr.rfl' hd
  obtain ⟨d0, d1, d2, d3, d4, d5, d6, d7, d8, d9⟩ := cRd.op hd
  refine px_cVW (ci := 4) rfl q_X4_takeNumber_0 hg rfl trivial lk_4_139 nm_X4_take (c_take hg hw _ (show cRd w _ from (by repeat (first | exact hr | refine cRr.up ?_ (by unfold cOk; (try simp only [px_app, px_ur]); grind)) : cRr w I _).1)) rfl rfl (px_lit hg rfl) rfl rfl rfl ⟨rfl, rfl⟩ ?_
  intro I2 L2 h2
  obtain ⟨rfl, h2⟩ := h2
  replace hr : cRr w I I2 := cRr.trans (by repeat (first | exact hr | refine cRr.up ?_ (by unfold cOk; (try simp only [px_app, px_ur]); grind))) h2
  clear d0 d1 d2 d3 d4 d5 d6 d7 d8 d9
  obtain ⟨d0, d1, d2, d3, d4, d5, d6, d7, d8, d9⟩ := cRd.op hr.1
  refine px_ne rfl q_X4_takeNumber_5 hg rfl trivial (fun c9 => ?_) (fun c9 => ?_)
  · refine px_rvW rfl q_X4_takeNumber_29 rfl rfl rfl hg rfl trivial ⟨⟨rfl, rfl⟩, ?_⟩
    exact ⟨rfl, hr⟩
  · refine px_cSNP rfl q_X4_takeNumber_12 hg rfl trivial lk_4_158 nm_X11_within (c_within hg _ _ _) rfl rfl rfl ⟨rfl, rfl⟩ ?_
    intro x18 h18
    refine px_ne rfl q_X4_takeNumber_21 hg rfl trivial (fun c21 => ?_) (fun c21 => ?_)
    · replace h18 := px_bt h18 c21
      refine px_rvW rfl q_X4_takeNumber_29 rfl rfl rfl hg rfl trivial ⟨⟨rfl, rfl⟩, ?_⟩
      exact ⟨rfl, hr⟩
    · replace h18 := px_bf h18 c21
      refine px_cVW (ci := 4) rfl q_X4_takeNumber_24 hg rfl trivial lk_4_86 nm_X4_fail (c_fail hg hw _ (show cRd w _ from (by repeat (first | exact hr | refine cRr.up ?_ (by unfold cOk; (try simp only [px_app, px_ur]); grind)) : cRr w I _).1)) rfl rfl (px_lit hg rfl) rfl rfl rfl ⟨rfl, rfl⟩ ?_
      intro I26 L26 h26
      obtain ⟨rfl, h26⟩ := h26
      replace hr : cRr w I I26 := cRr.trans (by repeat (first | exact hr | refine cRr.up ?_ (by unfold cOk; (try simp only [px_app, px_ur]); grind))) h26
      clear d0 d1 d2 d3 d4 d5 d6 d7 d8 d9
      obtain ⟨d0, d1, d2, d3, d4, d5, d6, d7, d8, d9⟩ := cRd.op hr.1
      refine px_rvW rfl q_X4_takeNumber_29 rfl rfl rfl hg rfl trivial ⟨⟨rfl, rfl⟩, ?_⟩
      exact ⟨rfl, hr⟩

theorem q_X4_takeOpening_0 : px_bk 4 1 cX4_takeOpening 0 [(.aload_n 0, (0, 0, 0, 0, 0), 0, 0), (.iconst 4, (0, 0, 0, 0, 0), 4, 0)] = some 2 ∧ px_tv cX4_takeOpening 2 139 = true := by decide +kernel
theorem q_X4_takeOpening_5 : px_bk 4 1 cX4_takeOpening 5 [(.aload_n 0, (0, 0, 0, 0, 0), 0, 0), (.getfield 58, (4, 14, 0, 0, 0), 0, 0)] = some 9 ∧ px_t1 cX4_takeOpening 9 .ne 26 = true := by decide +kernel
theorem q_X4_takeOpening_26 : px_bk 4 1 cX4_takeOpening 26 [] = some 26 ∧ px_tr cX4_takeOpening 26 .return_ = true := by decide +kernel
theorem q_X4_takeOpening_12 : px_bk 4 1 cX4_takeOpening 12 [(.aload_n 0, (0, 0, 0, 0, 0), 0, 0), (.getfield 34, (4, 7, 0, 0, 0), 0, 0), (.bipush 8, (0, 0, 0, 0, 0), 8, 0)] = some 18 ∧ px_t2 cX4_takeOpening 18 .lt 26 = true := by decide +kernel
theorem q_X4_takeOpening_21 : px_bk 4 1 cX4_takeOpening 21 [(.aload_n 0, (0, 0, 0, 0, 0), 0, 0), (.iconst 3, (0, 0, 0, 0, 0), 3, 0)] = some 23 ∧ px_tv cX4_takeOpening 23 86 = true := by decide +kernel
set_option maxRecDepth 100000 in
theorem c_takeOpening {n : Nat} {I : px_I} {L : px_L} {R : px_R} {w : Nat} (hg : px_G n (cRW R w)) (hw : cWay n w) (hd : cRd w I) : px_KV M_X4_takeOpening [.ref 76] n I L (cRW R w) (fun I2 L2 => L2 = L ∧ cRr w I I2) := by
  refine px_of (plainFor_of_name np_RX4) (fun _ _ _ => trivial) rfl ?_
  have hr := cRr.rfl' hd
  obtain ⟨d0, d1, d2, d3, d4, d5, d6, d7, d8, d9⟩ := cRd.op hd
  refine px_cVW (ci := 4) rfl q_X4_takeOpening_0 hg rfl trivial lk_4_139 nm_X4_take (c_take hg hw _ (show cRd w _ from (by repeat (first | exact hr | refine cRr.up ?_ (by unfold cOk; (try simp only [px_app, px_ur]); grind)) : cRr w I _).1)) rfl rfl (px_lit hg rfl) rfl rfl rfl ⟨rfl, rfl⟩ ?_
  intro I2 L2 h2
  obtain ⟨rfl, h2⟩ := h2
  replace hr : cRr w I I2 := cRr.trans (by repeat (first | exact hr | refine cRr.up ?_ (by unfold cOk; (try simp only [px_app, px_ur]); grind))) h2
  clear d0 d1 d2 d3 d4 d5 d6 d7 d8 d9
  obtain ⟨d0, d1, d2, d3, d4, d5, d6, d7, d8, d9⟩ := cRd.op hr.1
  refine px_ne rfl q_X4_takeOpening_5 hg rfl trivial (fun c9 => ?_) (fun c9 => ?_)
  · refine px_rvW rfl q_X4_takeOpening_26 rfl rfl rfl hg rfl trivial ⟨⟨rfl, rfl⟩, ?_⟩
    exact ⟨rfl, hr⟩
  · refine px_ilt rfl q_X4_takeOpening_12 hg rfl trivial (fun c18 => ?_) (fun c18 => ?_)
    · refine px_rvW rfl q_X4_takeOpening_26 rfl rfl rfl hg rfl trivial ⟨⟨rfl, rfl⟩, ?_⟩
      exact ⟨rfl, hr⟩
    · refine px_cVW (ci := 4) rfl q_X4_takeOpening_21 hg rfl trivial lk_4_86 nm_X4_fail (c_fail hg hw _ (show cRd w _ from (by repeat (first | exact hr | refine cRr.up ?_ (by unfold cOk; (try simp only [px_app, px_ur]); grind)) : cRr w I _).1)) rfl rfl (px_lit hg rfl) rfl rfl rfl ⟨rfl, rfl⟩ ?_
      intro I23 L23 h23
      obtain ⟨rfl, h23⟩ := h23
      replace hr : cRr w I I23 := cRr.trans (by repeat (first | exact hr | refine cRr.up ?_ (by unfold cOk; (try simp only [px_app, px_ur]); grind))) h23
      clear d0 d1 d2 d3 d4 d5 d6 d7 d8 d9
      obtain ⟨d0, d1, d2, d3, d4, d5, d6, d7, d8, d9⟩ := cRd.op hr.1
      refine px_rvW rfl q_X4_takeOpening_26 rfl rfl rfl hg rfl trivial ⟨⟨rfl, rfl⟩, ?_⟩
      exact ⟨rfl, hr⟩

theorem q_X4_letterHere_0 : px_bk 4 1 cX4_letterHere 0 [(.aload_n 0, (0, 0, 0, 0, 0), 0, 0), (.getfield 41, (4, 9, 0, 0, 0), 0, 0), (.iconst 0, (0, 0, 0, 0, 0), 0, 0), (.aload_n 0, (0, 0, 0, 0, 0), 0, 0), (.getfield 64, (4, 0, 3, 70, 0), 0, 0), (.getfield 74, (8, 6, 0, 0, 0), 0, 0), (.iconst 1, (0, 0, 0, 0, 0), 1, 0), (.isub, (0, 0, 0, 0, 0), 0, 0)] = some 14 ∧ px_tS cX4_letterHere 14 158 = true := by decide +kernel
theorem q_X4_letterHere_17 : px_bk 4 1 cX4_letterHere 17 [] = some 17 ∧ px_t1 cX4_letterHere 17 .eq 36 = true := by decide +kernel
theorem q_X4_letterHere_36 : px_bk 4 1 cX4_letterHere 36 [(.iconst (-1), (0, 0, 0, 0, 0), -1, 0)] = some 37 ∧ px_tr cX4_letterHere 37 .ireturn = true := by decide +kernel
theorem q_X4_letterHere_20 : px_bk 4 1 cX4_letterHere 20 [(.aload_n 0, (0, 0, 0, 0, 0), 0, 0), (.getfield 64, (4, 0, 3, 70, 0), 0, 0), (.getfield 178, (8, 3, 3, 74, 0), 0, 0), (.aload_n 0, (0, 0, 0, 0, 0), 0, 0), (.getfield 41, (4, 9, 0, 0, 0), 0, 0), (.iaload, (0, 0, 0, 0, 0), 0, 0), (.iconst 1, (0, 0, 0, 0, 0), 1, 0)] = some 33 ∧ px_t2 cX4_letterHere 33 .eq 38 = true := by decide +kernel
theorem q_X4_letterHere_38 : px_bk 4 1 cX4_letterHere 38 [(.aload_n 0, (0, 0, 0, 0, 0), 0, 0), (.getfield 64, (4, 0, 3, 70, 0), 0, 0), (.aload_n 0, (0, 0, 0, 0, 0), 0, 0), (.getfield 49, (4, 11, 0, 0, 0), 0, 0)] = some 46 ∧ px_tv cX4_letterHere 46 180 = true := by decide +kernel
theorem q_X4_letterHere_49 : px_bk 4 1 cX4_letterHere 49 [(.bipush 97, (0, 0, 0, 0, 0), 97, 0), (.isub, (0, 0, 0, 0, 0), 0, 0)] = some 52 ∧ px_tr cX4_letterHere 52 .ireturn = true := by decide +kernel
set_option maxRecDepth 100000 in
theorem c_letterHere {n : Nat} {I : px_I} {L : px_L} {R : px_R} {w : Nat} (hg : px_G n (cRW R w)) (hw : cWay n w) (ht : 0 ≤ I 70 6 ∧ I 70 6 ≤ 401) : px_KP M_X4_letterHere [.ref 76] n I L (cRW R w) (fun r => True) := by
  refine px_of (plainFor_of_name np_RX4) (fun _ _ _ => trivial) rfl ?_
  refine px_cSNP rfl q_X4_letterHere_0 hg rfl trivial lk_4_158 nm_X11_within (c_within hg _ _ _) rfl rfl rfl ⟨rfl, rfl⟩ ?_
  intro x14 h14
  refine px_eq rfl q_X4_letterHere_17 hg rfl trivial (fun c17 => ?_) (fun c17 => ?_)
  · replace h14 := px_bf h14 c17
    refine px_riP rfl q_X4_letterHere_36 rfl rfl rfl hg rfl trivial ⟨⟨rfl, rfl, rfl, rfl⟩, ?_⟩
    trivial
  · replace h14 := px_bt h14 c17
    refine px_ieq rfl q_X4_letterHere_20 hg rfl ⟨trivial, (by refine ⟨?_, ?_⟩ <;> grind)⟩ (fun c33 => ?_) (fun c33 => ?_)
    · refine px_cVP (ci := 8) rfl q_X4_letterHere_38 hg rfl trivial lk_4_180 nm_X8_byteAt (c_byteAt hg _) rfl rfl (px_lit hg rfl) rfl rfl rfl ⟨rfl, rfl⟩ ?_
      intro x46 h46
      refine px_riP rfl q_X4_letterHere_49 rfl rfl rfl hg rfl trivial ⟨⟨rfl, rfl, rfl, rfl⟩, ?_⟩
      trivial
    · refine px_riP rfl q_X4_letterHere_36 rfl rfl rfl hg rfl trivial ⟨⟨rfl, rfl, rfl, rfl⟩, ?_⟩
      trivial

theorem q_X4_takeLetter_0 : px_bk 4 4 cX4_takeLetter 0 [(.aload_n 0, (0, 0, 0, 0, 0), 0, 0), (.iconst 1, (0, 0, 0, 0, 0), 1, 0)] = some 2 ∧ px_tv cX4_takeLetter 2 139 = true := by decide +kernel
theorem q_X4_takeLetter_5 : px_bk 4 4 cX4_takeLetter 5 [(.aload_n 0, (0, 0, 0, 0, 0), 0, 0), (.getfield 58, (4, 14, 0, 0, 0), 0, 0)] = some 9 ∧ px_t1 cX4_takeLetter 9 .ne 19 = true := by decide +kernel
theorem q_X4_takeLetter_19 : px_bk 4 4 cX4_takeLetter 19 [(.iconst (-1), (0, 0, 0, 0, 0), -1, 0), (.istore_n 2, (0, 0, 0, 0, 0), 0, 0), (.iload_n 2, (0, 0, 0, 0, 0), 0, 0), (.iconst 0, (0, 0, 0, 0, 0), 0, 0), (.bipush 7, (0, 0, 0, 0, 0), 7, 0)] = some 25 ∧ px_tS cX4_takeLetter 25 158 = true := by decide +kernel
theorem q_X4_takeLetter_28 : px_bk 4 4 cX4_takeLetter 28 [] = some 28 ∧ px_t1 cX4_takeLetter 28 .ne 38 = true := by decide +kernel
theorem q_X4_takeLetter_38 : px_bk 4 4 cX4_takeLetter 38 [(.aload_n 0, (0, 0, 0, 0, 0), 0, 0), (.getfield 31, (4, 6, 3, 84, 0), 0, 0), (.iload_n 2, (0, 0, 0, 0, 0), 0, 0), (.iaload, (0, 0, 0, 0, 0), 0, 0), (.iconst (-1), (0, 0, 0, 0, 0), -1, 0)] = some 45 ∧ px_t2 cX4_takeLetter 45 .eq 52 = true := by decide +kernel
theorem q_X4_takeLetter_52 : px_bk 4 4 cX4_takeLetter 52 [(.iconst 0, (0, 0, 0, 0, 0), 0, 0), (.istore_n 3, (0, 0, 0, 0, 0), 0, 0), (.iload_n 3, (0, 0, 0, 0, 0), 0, 0), (.iload_n 1, (0, 0, 0, 0, 0), 0, 0)] = some 56 ∧ px_t2 cX4_takeLetter 56 .eq 66 = true := by decide +kernel
theorem q_X4_takeLetter_66 : px_bk 4 4 cX4_takeLetter 66 [(.iload_n 2, (0, 0, 0, 0, 0), 0, 0)] = some 67 ∧ px_tr cX4_takeLetter 67 .ireturn = true := by decide +kernel
theorem q_X4_takeLetter_59 : px_bk 4 4 cX4_takeLetter 59 [(.aload_n 0, (0, 0, 0, 0, 0), 0, 0), (.iconst 4, (0, 0, 0, 0, 0), 4, 0)] = some 61 ∧ px_tv cX4_takeLetter 61 86 = true := by decide +kernel
theorem q_X4_takeLetter_64 : px_bk 4 4 cX4_takeLetter 64 [(.iconst (-1), (0, 0, 0, 0, 0), -1, 0)] = some 65 ∧ px_tr cX4_takeLetter 65 .ireturn = true := by decide +kernel
theorem q_X4_takeLetter_48 : px_bk 4 4 cX4_takeLetter 48 [(.iconst 1, (0, 0, 0, 0, 0), 1, 0), (.goto 4, (0, 0, 0, 0, 0), 0, 0), (.istore_n 3, (0, 0, 0, 0, 0), 0, 0), (.iload_n 3, (0, 0, 0, 0, 0), 0, 0), (.iload_n 1, (0, 0, 0, 0, 0), 0, 0)] = some 56 ∧ px_t2 cX4_takeLetter 56 .eq 66 = true := by decide +kernel
theorem q_X4_takeLetter_31 : px_bk 4 4 cX4_takeLetter 31 [(.aload_n 0, (0, 0, 0, 0, 0), 0, 0), (.iconst 1, (0, 0, 0, 0, 0), 1, 0)] = some 33 ∧ px_tv cX4_takeLetter 33 86 = true := by decide +kernel
theorem q_X4_takeLetter_36 : px_bk 4 4 cX4_takeLetter 36 [(.iconst (-1), (0, 0, 0, 0, 0), -1, 0)] = some 37 ∧ px_tr cX4_takeLetter 37 .ireturn = true := by decide +kernel
theorem q_X4_takeLetter_12 : px_bk 4 4 cX4_takeLetter 12 [(.aload_n 0, (0, 0, 0, 0, 0), 0, 0)] = some 13 ∧ px_tv cX4_takeLetter 13 174 = true := by decide +kernel
theorem q_X4_takeLetter_16 : px_bk 4 4 cX4_takeLetter 16 [(.goto 4, (0, 0, 0, 0, 0), 0, 0), (.istore_n 2, (0, 0, 0, 0, 0), 0, 0), (.iload_n 2, (0, 0, 0, 0, 0), 0, 0), (.iconst 0, (0, 0, 0, 0, 0), 0, 0), (.bipush 7, (0, 0, 0, 0, 0), 7, 0)] = some 25 ∧ px_tS cX4_takeLetter 25 158 = true := by decide +kernel
set_option maxRecDepth 100000 in
theorem c_takeLetter {n : Nat} {I : px_I} {L : px_L} {R : px_R} {w : Nat} (hg : px_G n (cRW R w)) (hw : cWay n w) (x : Int32) (hd : cRd w I) : px_KS M_X4_takeLetter [.ref 76, .int x] n I L (cRW R w) (fun r I2 L2 => (r = -1 ∨ (0 ≤ r ∧ r ≤ 7)) ∧ L2 = L ∧ cRr w I I2) := by
  refine px_of (plainFor_of_name np_RX4) (fun _ _ _ => trivial) rfl ?_
  have hr := cRr.rfl' hd
  obtain ⟨d0, d1, d2, d3, d4, d5, d6, d7, d8, d9⟩ := cRd.op hd
  refine px_cVW (ci := 4) rfl q_X4_takeLetter_0 hg rfl trivial lk_4_139 nm_X4_take (c_take hg hw _ (show cRd w _ from (by repeat (first | exact hr | refine cRr.up ?_ (by unfold cOk; (try simp only [px_app, px_ur]); grind)) : cRr w I _).1)) rfl rfl (px_lit hg rfl) rfl rfl rfl ⟨rfl, rfl⟩ ?_
  intro I2 L2 h2
  obtain ⟨rfl, h2⟩ := h2
  replace hr : cRr w I I2 := cRr.trans (by repeat (first | exact hr | refine cRr.up ?_ (by unfold cOk; (try simp only [px_app, px_ur]); grind))) h2
  clear d0 d1 d2 d3 d4 d5 d6 d7 d8 d9
  obtain ⟨d0, d1, d2, d3, d4, d5, d6, d7, d8, d9⟩ := cRd.op hr.1
  refine px_ne rfl q_X4_takeLetter_5 hg rfl trivial (fun c9 => ?_) (fun c9 => ?_)
  · refine px_cSNP rfl q_X4_takeLetter_19 hg rfl trivial lk_4_158 nm_X11_within (c_within hg _ _ _) rfl rfl rfl ⟨rfl, rfl⟩ ?_
    intro x25 h25
    refine px_ne rfl q_X4_takeLetter_28 hg rfl trivial (fun c28 => ?_) (fun c28 => ?_)
    · replace h25 := px_bt h25 c28
      refine px_ieq rfl q_X4_takeLetter_38 hg rfl ⟨trivial, (by first | exact hw.1 | exact hw.2.1 | exact hw.2.2 | with_reducible assumption | decide | (refine ⟨?_, ?_⟩ <;> grind) | (simp only [px_ur]; refine ⟨?_, ?_⟩ <;> grind))⟩ (fun c45 => ?_) (fun c45 => ?_)
      · refine px_ieq rfl q_X4_takeLetter_52 hg rfl trivial (fun c56 => ?_) (fun c56 => ?_)
        · refine px_riS rfl q_X4_takeLetter_66 rfl rfl rfl hg rfl trivial ⟨⟨rfl, rfl⟩, ?_⟩
          first | exact ⟨Or.inl rfl, rfl, hr⟩ | exact ⟨Or.inr (by assumption), rfl, hr⟩
        · refine px_cVW (ci := 4) rfl q_X4_takeLetter_59 hg rfl trivial lk_4_86 nm_X4_fail (c_fail hg hw _ (show cRd w _ from (by repeat (first | exact hr | refine cRr.up ?_ (by unfold cOk; (try simp only [px_app, px_ur]); grind)) : cRr w I _).1)) rfl rfl (px_lit hg rfl) rfl rfl rfl ⟨rfl, rfl⟩ ?_
          intro I61 L61 h61
          obtain ⟨rfl, h61⟩ := h61
          replace hr : cRr w I I61 := cRr.trans (by repeat (first | exact hr | refine cRr.up ?_ (by unfold cOk; (try simp only [px_app, px_ur]); grind))) h61
          clear d0 d1 d2 d3 d4 d5 d6 d7 d8 d9
          obtain ⟨d0, d1, d2, d3, d4, d5, d6, d7, d8, d9⟩ := cRd.op hr.1
          refine px_riS rfl q_X4_takeLetter_64 rfl rfl rfl hg rfl trivial ⟨⟨rfl, rfl⟩, ?_⟩
          first | exact ⟨Or.inl rfl, rfl, hr⟩ | exact ⟨Or.inr (by assumption), rfl, hr⟩
      · refine px_ieq rfl q_X4_takeLetter_48 hg rfl trivial (fun c56 => ?_) (fun c56 => ?_)
        · refine px_riS rfl q_X4_takeLetter_66 rfl rfl rfl hg rfl trivial ⟨⟨rfl, rfl⟩, ?_⟩
          first | exact ⟨Or.inl rfl, rfl, hr⟩ | exact ⟨Or.inr (by assumption), rfl, hr⟩
        · refine px_cVW (ci := 4) rfl q_X4_takeLetter_59 hg rfl trivial lk_4_86 nm_X4_fail (c_fail hg hw _ (show cRd w _ from (by repeat (first | exact hr | refine cRr.up ?_ (by unfold cOk; (try simp only [px_app, px_ur]); grind)) : cRr w I _).1)) rfl rfl (px_lit hg rfl) rfl rfl rfl ⟨rfl, rfl⟩ ?_
          intro I61 L61 h61
          obtain ⟨rfl, h61⟩ := h61
          replace hr : cRr w I I61 := cRr.trans (by repeat (first | exact hr | refine cRr.up ?_ (by unfold cOk; (try simp only [px_app, px_ur]); grind))) h61
          clear d0 d1 d2 d3 d4 d5 d6 d7 d8 d9
          obtain ⟨d0, d1, d2, d3, d4, d5, d6, d7, d8, d9⟩ := cRd.op hr.1
          refine px_riS rfl q_X4_takeLetter_64 rfl rfl rfl hg rfl trivial ⟨⟨rfl, rfl⟩, ?_⟩
          first | exact ⟨Or.inl rfl, rfl, hr⟩ | exact ⟨Or.inr (by assumption), rfl, hr⟩
    · replace h25 := px_bf h25 c28
      refine px_cVW (ci := 4) rfl q_X4_takeLetter_31 hg rfl trivial lk_4_86 nm_X4_fail (c_fail hg hw _ (show cRd w _ from (by repeat (first | exact hr | refine cRr.up ?_ (by unfold cOk; (try simp only [px_app, px_ur]); grind)) : cRr w I _).1)) rfl rfl (px_lit hg rfl) rfl rfl rfl ⟨rfl, rfl⟩ ?_
      intro I33 L33 h33
      obtain ⟨rfl, h33⟩ := h33
      replace hr : cRr w I I33 := cRr.trans (by repeat (first | exact hr | refine cRr.up ?_ (by unfold cOk; (try simp only [px_app, px_ur]); grind))) h33
      clear d0 d1 d2 d3 d4 d5 d6 d7 d8 d9
      obtain ⟨d0, d1, d2, d3, d4, d5, d6, d7, d8, d9⟩ := cRd.op hr.1
      refine px_riS rfl q_X4_takeLetter_36 rfl rfl rfl hg rfl trivial ⟨⟨rfl, rfl⟩, ?_⟩
      first | exact ⟨Or.inl rfl, rfl, hr⟩ | exact ⟨Or.inr (by assumption), rfl, hr⟩
  · refine px_cVP (ci := 4) rfl q_X4_takeLetter_12 hg rfl trivial lk_4_174 nm_X4_letterHere (c_letterHere hg hw d1) rfl rfl (px_lit hg rfl) rfl rfl rfl ⟨rfl, rfl⟩ ?_
    intro x13 h13
    refine px_cSNP rfl q_X4_takeLetter_16 hg rfl trivial lk_4_158 nm_X11_within (c_within hg _ _ _) rfl rfl rfl ⟨rfl, rfl⟩ ?_
    intro x25 h25
    refine px_ne rfl q_X4_takeLetter_28 hg rfl trivial (fun c28 => ?_) (fun c28 => ?_)
    · replace h25 := px_bt h25 c28
      refine px_ieq rfl q_X4_takeLetter_38 hg rfl ⟨trivial, (by first | exact hw.1 | exact hw.2.1 | exact hw.2.2 | with_reducible assumption | decide | (refine ⟨?_, ?_⟩ <;> grind) | (simp only [px_ur]; refine ⟨?_, ?_⟩ <;> grind))⟩ (fun c45 => ?_) (fun c45 => ?_)
      · refine px_ieq rfl q_X4_takeLetter_52 hg rfl trivial (fun c56 => ?_) (fun c56 => ?_)
        · refine px_riS rfl q_X4_takeLetter_66 rfl rfl rfl hg rfl trivial ⟨⟨rfl, rfl⟩, ?_⟩
          first | exact ⟨Or.inl rfl, rfl, hr⟩ | exact ⟨Or.inr (by assumption), rfl, hr⟩
        · refine px_cVW (ci := 4) rfl q_X4_takeLetter_59 hg rfl trivial lk_4_86 nm_X4_fail (c_fail hg hw _ (show cRd w _ from (by repeat (first | exact hr | refine cRr.up ?_ (by unfold cOk; (try simp only [px_app, px_ur]); grind)) : cRr w I _).1)) rfl rfl (px_lit hg rfl) rfl rfl rfl ⟨rfl, rfl⟩ ?_
          intro I61 L61 h61
          obtain ⟨rfl, h61⟩ := h61
          replace hr : cRr w I I61 := cRr.trans (by repeat (first | exact hr | refine cRr.up ?_ (by unfold cOk; (try simp only [px_app, px_ur]); grind))) h61
          clear d0 d1 d2 d3 d4 d5 d6 d7 d8 d9
          obtain ⟨d0, d1, d2, d3, d4, d5, d6, d7, d8, d9⟩ := cRd.op hr.1
          refine px_riS rfl q_X4_takeLetter_64 rfl rfl rfl hg rfl trivial ⟨⟨rfl, rfl⟩, ?_⟩
          first | exact ⟨Or.inl rfl, rfl, hr⟩ | exact ⟨Or.inr (by assumption), rfl, hr⟩
      · refine px_ieq rfl q_X4_takeLetter_48 hg rfl trivial (fun c56 => ?_) (fun c56 => ?_)
        · refine px_riS rfl q_X4_takeLetter_66 rfl rfl rfl hg rfl trivial ⟨⟨rfl, rfl⟩, ?_⟩
          first | exact ⟨Or.inl rfl, rfl, hr⟩ | exact ⟨Or.inr (by assumption), rfl, hr⟩
        · refine px_cVW (ci := 4) rfl q_X4_takeLetter_59 hg rfl trivial lk_4_86 nm_X4_fail (c_fail hg hw _ (show cRd w _ from (by repeat (first | exact hr | refine cRr.up ?_ (by unfold cOk; (try simp only [px_app, px_ur]); grind)) : cRr w I _).1)) rfl rfl (px_lit hg rfl) rfl rfl rfl ⟨rfl, rfl⟩ ?_
          intro I61 L61 h61
          obtain ⟨rfl, h61⟩ := h61
          replace hr : cRr w I I61 := cRr.trans (by repeat (first | exact hr | refine cRr.up ?_ (by unfold cOk; (try simp only [px_app, px_ur]); grind))) h61
          clear d0 d1 d2 d3 d4 d5 d6 d7 d8 d9
          obtain ⟨d0, d1, d2, d3, d4, d5, d6, d7, d8, d9⟩ := cRd.op hr.1
          refine px_riS rfl q_X4_takeLetter_64 rfl rfl rfl hg rfl trivial ⟨⟨rfl, rfl⟩, ?_⟩
          first | exact ⟨Or.inl rfl, rfl, hr⟩ | exact ⟨Or.inr (by assumption), rfl, hr⟩
    · replace h25 := px_bf h25 c28
      refine px_cVW (ci := 4) rfl q_X4_takeLetter_31 hg rfl trivial lk_4_86 nm_X4_fail (c_fail hg hw _ (show cRd w _ from (by repeat (first | exact hr | refine cRr.up ?_ (by unfold cOk; (try simp only [px_app, px_ur]); grind)) : cRr w I _).1)) rfl rfl (px_lit hg rfl) rfl rfl rfl ⟨rfl, rfl⟩ ?_
      intro I33 L33 h33
      obtain ⟨rfl, h33⟩ := h33
      replace hr : cRr w I I33 := cRr.trans (by repeat (first | exact hr | refine cRr.up ?_ (by unfold cOk; (try simp only [px_app, px_ur]); grind))) h33
      clear d0 d1 d2 d3 d4 d5 d6 d7 d8 d9
      obtain ⟨d0, d1, d2, d3, d4, d5, d6, d7, d8, d9⟩ := cRd.op hr.1
      refine px_riS rfl q_X4_takeLetter_36 rfl rfl rfl hg rfl trivial ⟨⟨rfl, rfl⟩, ?_⟩
      first | exact ⟨Or.inl rfl, rfl, hr⟩ | exact ⟨Or.inr (by assumption), rfl, hr⟩

theorem q_X4_addSteps_0 : px_bk 4 2 cX4_addSteps 0 [(.aload_n 0, (0, 0, 0, 0, 0), 0, 0), (.getfield 34, (4, 7, 0, 0, 0), 0, 0), (.iconst 0, (0, 0, 0, 0, 0), 0, 0), (.bipush 8, (0, 0, 0, 0, 0), 8, 0)] = some 7 ∧ px_tS cX4_addSteps 7 158 = true := by decide +kernel
theorem q_X4_addSteps_10 : px_bk 4 2 cX4_addSteps 10 [] = some 10 ∧ px_t1 cX4_addSteps 10 .eq 39 = true := by decide +kernel
theorem q_X4_addSteps_39 : px_bk 4 2 cX4_addSteps 39 [] = some 39 ∧ px_tr cX4_addSteps 39 .return_ = true := by decide +kernel
theorem q_X4_addSteps_13 : px_bk 4 2 cX4_addSteps 13 [(.aload_n 0, (0, 0, 0, 0, 0), 0, 0), (.getfield 25, (4, 4, 3, 82, 0), 0, 0), (.aload_n 0, (0, 0, 0, 0, 0), 0, 0), (.getfield 34, (4, 7, 0, 0, 0), 0, 0), (.aload_n 0, (0, 0, 0, 0, 0), 0, 0), (.getfield 25, (4, 4, 3, 82, 0), 0, 0), (.aload_n 0, (0, 0, 0, 0, 0), 0, 0), (.getfield 34, (4, 7, 0, 0, 0), 0, 0), (.iaload, (0, 0, 0, 0, 0), 0, 0), (.iload_n 1, (0, 0, 0, 0, 0), 0, 0), (.iadd, (0, 0, 0, 0, 0), 0, 0), (.sipush 5001, (0, 0, 0, 0, 0), 5001, 0)] = some 35 ∧ px_tS cX4_addSteps 35 168 = true := by decide +kernel
theorem q_X4_addSteps_38 : px_bk 4 2 cX4_addSteps 38 [(.iastore, (0, 0, 0, 0, 0), 0, 0)] = some 39 ∧ px_tr cX4_addSteps 39 .return_ = true := by decide +kernel
set_option maxRecDepth 100000 in
theorem c_addSteps {n : Nat} {I : px_I} {L : px_L} {R : px_R} {w : Nat} (hg : px_G n (cRW R w)) (hw : cWay n w) (x : Int32) (hd : cRd w I) : px_KV M_X4_addSteps [.ref 76, .int x] n I L (cRW R w) (fun I2 L2 => L2 = L ∧ cRr w I I2) := by
  refine px_of (plainFor_of_name np_RX4) (fun _ _ _ => trivial) rfl ?_
  have hr := cRr.rfl' hd
  obtain ⟨d0, d1, d2, d3, d4, d5, d6, d7, d8, d9⟩ := cRd.op hd
  refine px_cSNP rfl q_X4_addSteps_0 hg rfl trivial lk_4_158 nm_X11_within (c_within hg _ _ _) rfl rfl rfl ⟨rfl, rfl⟩ ?_
  intro x7 h7
  refine px_eq rfl q_X4_addSteps_10 hg rfl trivial (fun c10 => ?_) (fun c10 => ?_)
  · replace h7 := px_bf h7 c10
    refine px_rvW rfl q_X4_addSteps_39 rfl rfl rfl hg rfl trivial ⟨⟨rfl, rfl⟩, ?_⟩
    exact ⟨rfl, (by repeat (first | exact hr | refine cRr.up ?_ (by unfold cOk; (try simp only [px_app, px_ur]); grind)))⟩
  · replace h7 := px_bt h7 c10
    refine px_cSP rfl q_X4_addSteps_13 hg rfl ⟨trivial, (by first | exact hw.1 | exact hw.2.1 | exact hw.2.2 | with_reducible assumption | decide | (refine ⟨?_, ?_⟩ <;> grind) | (simp only [px_ur]; refine ⟨?_, ?_⟩ <;> grind))⟩ lk_4_168 nm_J9_min_7cf53 (j_min hg _ _) rfl rfl rfl ⟨rfl, rfl⟩ ?_
    intro x35 h35
    refine px_rvW rfl q_X4_addSteps_38 rfl rfl rfl hg rfl ⟨trivial, (by first | exact hw.1 | exact hw.2.1 | exact hw.2.2 | with_reducible assumption | decide | (refine ⟨?_, ?_⟩ <;> grind) | (simp only [px_ur]; refine ⟨?_, ?_⟩ <;> grind))⟩ ⟨⟨rfl, rfl⟩, ?_⟩
    exact ⟨rfl, (by repeat (first | exact hr | refine cRr.up ?_ (by unfold cOk; (try simp only [px_app, px_ur]); grind)))⟩

theorem q_X4_readStep_0 : px_bk 4 5 cX4_readStep 0 [(.aload_n 0, (0, 0, 0, 0, 0), 0, 0), (.iload_n 2, (0, 0, 0, 0, 0), 0, 0), (.iload_n 3, (0, 0, 0, 0, 0), 0, 0)] = some 3 ∧ px_tv cX4_readStep 3 135 = true := by decide +kernel
theorem q_X4_readStep_6 : px_bk 4 5 cX4_readStep 6 [(.aload_n 0, (0, 0, 0, 0, 0), 0, 0), (.getfield 52, (4, 12, 0, 0, 0), 0, 0), (.istore 4, (0, 0, 0, 0, 0), 0, 0), (.aload_n 0, (0, 0, 0, 0, 0), 0, 0), (.iconst 3, (0, 0, 0, 0, 0), 3, 0)] = some 14 ∧ px_tv cX4_readStep 14 139 = true := by decide +kernel
theorem q_X4_readStep_17 : px_bk 4 5 cX4_readStep 17 [(.aload_n 0, (0, 0, 0, 0, 0), 0, 0), (.getfield 12, (4, 1, 4, 0, 0), 0, 0), (.iload_n 1, (0, 0, 0, 0, 0), 0, 0), (.iload 4, (0, 0, 0, 0, 0), 0, 0)] = some 24 ∧ px_tv cX4_readStep 24 142 = true := by decide +kernel
theorem q_X4_readStep_27 : px_bk 4 5 cX4_readStep 27 [(.aload_n 0, (0, 0, 0, 0, 0), 0, 0), (.iconst 1, (0, 0, 0, 0, 0), 1, 0)] = some 29 ∧ px_tv cX4_readStep 29 145 = true := by decide +kernel
theorem q_X4_readStep_32 : px_bk 4 5 cX4_readStep 32 [] = some 32 ∧ px_tr cX4_readStep 32 .return_ = true := by decide +kernel
set_option maxRecDepth 100000 in
theorem c_readStep {n : Nat} {I : px_I} {L : px_L} {R : px_R} {w : Nat} (hg : px_G n (cRW R w)) (hw : cWay n w) (o a b : Int32) (hd : cRd w I) : px_KV M_X4_readStep [.ref 76, .int o, .int a, .int b] n I L (cRW R w) (fun I2 L2 => L2 = L ∧ cRr w I I2) := by
  refine px_of (plainFor_of_name np_RX4) (fun _ _ _ => trivial) rfl ?_
  have hr := cRr.rfl' hd
  obtain ⟨d0, d1, d2, d3, d4, d5, d6, d7, d8, d9⟩ := cRd.op hd
  refine px_cVW (ci := 4) rfl q_X4_readStep_0 hg rfl trivial lk_4_135 nm_X4_takeNumber (c_takeNumber hg hw _ _ (show cRd w _ from (by repeat (first | exact hr | refine cRr.up ?_ (by unfold cOk; (try simp only [px_app, px_ur]); grind)) : cRr w I _).1)) rfl rfl (px_lit hg rfl) rfl rfl rfl ⟨rfl, rfl⟩ ?_
  intro I3 L3 h3
  obtain ⟨rfl, h3⟩ := h3
  replace hr : cRr w I I3 := cRr.trans (by repeat (first | exact hr | refine cRr.up ?_ (by unfold cOk; (try simp only [px_app, px_ur]); grind))) h3
  clear d0 d1 d2 d3 d4 d5 d6 d7 d8 d9
  obtain ⟨d0, d1, d2, d3, d4, d5, d6, d7, d8, d9⟩ := cRd.op hr.1
  have hn := d5
  refine px_cVW (ci := 4) rfl q_X4_readStep_6 hg rfl trivial lk_4_139 nm_X4_take (c_take hg hw _ (show cRd w _ from (by repeat (first | exact hr | refine cRr.up ?_ (by unfold cOk; (try simp only [px_app, px_ur]); grind)) : cRr w I _).1)) rfl rfl (px_lit hg rfl) rfl rfl rfl ⟨rfl, rfl⟩ ?_
  intro I14 L14 h14
  obtain ⟨rfl, h14⟩ := h14
  replace hr : cRr w I I14 := cRr.trans (by repeat (first | exact hr | refine cRr.up ?_ (by unfold cOk; (try simp only [px_app, px_ur]); grind))) h14
  clear d0 d1 d2 d3 d4 d5 d6 d7 d8 d9
  obtain ⟨d0, d1, d2, d3, d4, d5, d6, d7, d8, d9⟩ := cRd.op hr.1
  refine px_cVW (ci := 10) rfl q_X4_readStep_17 hg rfl trivial lk_4_142 nm_X10_add (c_add hg hw _ _ d8.1) rfl rfl hw.1 rfl rfl rfl ⟨rfl, rfl⟩ ?_
  intro I24 L24 h24
  obtain ⟨rfl, h24⟩ := h24
  replace hr : cRr w I I24 := cRr.add hr h24 (by first | assumption | grind)
  clear d0 d1 d2 d3 d4 d5 d6 d7 d8 d9
  obtain ⟨d0, d1, d2, d3, d4, d5, d6, d7, d8, d9⟩ := cRd.op hr.1
  refine px_cVW (ci := 4) rfl q_X4_readStep_27 hg rfl trivial lk_4_145 nm_X4_addSteps (c_addSteps hg hw _ (show cRd w _ from (by repeat (first | exact hr | refine cRr.up ?_ (by unfold cOk; (try simp only [px_app, px_ur]); grind)) : cRr w I _).1)) rfl rfl (px_lit hg rfl) rfl rfl rfl ⟨rfl, rfl⟩ ?_
  intro I29 L29 h29
  obtain ⟨rfl, h29⟩ := h29
  replace hr : cRr w I I29 := cRr.trans (by repeat (first | exact hr | refine cRr.up ?_ (by unfold cOk; (try simp only [px_app, px_ur]); grind))) h29
  clear d0 d1 d2 d3 d4 d5 d6 d7 d8 d9
  obtain ⟨d0, d1, d2, d3, d4, d5, d6, d7, d8, d9⟩ := cRd.op hr.1
  refine px_rvW rfl q_X4_readStep_32 rfl rfl rfl hg rfl trivial ⟨⟨rfl, rfl⟩, ?_⟩
  exact ⟨rfl, hr⟩

theorem q_X4_readBareStep_0 : px_bk 4 2 cX4_readBareStep 0 [(.aload_n 0, (0, 0, 0, 0, 0), 0, 0), (.iconst 3, (0, 0, 0, 0, 0), 3, 0)] = some 2 ∧ px_tv cX4_readBareStep 2 139 = true := by decide +kernel
theorem q_X4_readBareStep_5 : px_bk 4 2 cX4_readBareStep 5 [(.aload_n 0, (0, 0, 0, 0, 0), 0, 0), (.getfield 12, (4, 1, 4, 0, 0), 0, 0), (.iload_n 1, (0, 0, 0, 0, 0), 0, 0), (.iconst 0, (0, 0, 0, 0, 0), 0, 0)] = some 11 ∧ px_tv cX4_readBareStep 11 142 = true := by decide +kernel
theorem q_X4_readBareStep_14 : px_bk 4 2 cX4_readBareStep 14 [(.aload_n 0, (0, 0, 0, 0, 0), 0, 0), (.iconst 1, (0, 0, 0, 0, 0), 1, 0)] = some 16 ∧ px_tv cX4_readBareStep 16 145 = true := by decide +kernel
theorem q_X4_readBareStep_19 : px_bk 4 2 cX4_readBareStep 19 [] = some 19 ∧ px_tr cX4_readBareStep 19 .return_ = true := by decide +kernel
set_option maxRecDepth 100000 in
theorem c_readBareStep {n : Nat} {I : px_I} {L : px_L} {R : px_R} {w : Nat} (hg : px_G n (cRW R w)) (hw : cWay n w) (o : Int32) (hd : cRd w I) : px_KV M_X4_readBareStep [.ref 76, .int o] n I L (cRW R w) (fun I2 L2 => L2 = L ∧ cRr w I I2) := by
  refine px_of (plainFor_of_name np_RX4) (fun _ _ _ => trivial) rfl ?_
  have hr := cRr.rfl' hd
  obtain ⟨d0, d1, d2, d3, d4, d5, d6, d7, d8, d9⟩ := cRd.op hd
  refine px_cVW (ci := 4) rfl q_X4_readBareStep_0 hg rfl trivial lk_4_139 nm_X4_take (c_take hg hw _ (show cRd w _ from (by repeat (first | exact hr | refine cRr.up ?_ (by unfold cOk; (try simp only [px_app, px_ur]); grind)) : cRr w I _).1)) rfl rfl (px_lit hg rfl) rfl rfl rfl ⟨rfl, rfl⟩ ?_
  intro I2 L2 h2
  obtain ⟨rfl, h2⟩ := h2
  replace hr : cRr w I I2 := cRr.trans (by repeat (first | exact hr | refine cRr.up ?_ (by unfold cOk; (try simp only [px_app, px_ur]); grind))) h2
  clear d0 d1 d2 d3 d4 d5 d6 d7 d8 d9
  obtain ⟨d0, d1, d2, d3, d4, d5, d6, d7, d8, d9⟩ := cRd.op hr.1
  refine px_cVW (ci := 10) rfl q_X4_readBareStep_5 hg rfl trivial lk_4_142 nm_X10_add (c_add hg hw _ _ d8.1) rfl rfl hw.1 rfl rfl rfl ⟨rfl, rfl⟩ ?_
  intro I11 L11 h11
  obtain ⟨rfl, h11⟩ := h11
  replace hr : cRr w I I11 := cRr.add hr h11 (by decide)
  clear d0 d1 d2 d3 d4 d5 d6 d7 d8 d9
  obtain ⟨d0, d1, d2, d3, d4, d5, d6, d7, d8, d9⟩ := cRd.op hr.1
  refine px_cVW (ci := 4) rfl q_X4_readBareStep_14 hg rfl trivial lk_4_145 nm_X4_addSteps (c_addSteps hg hw _ (show cRd w _ from (by repeat (first | exact hr | refine cRr.up ?_ (by unfold cOk; (try simp only [px_app, px_ur]); grind)) : cRr w I _).1)) rfl rfl (px_lit hg rfl) rfl rfl rfl ⟨rfl, rfl⟩ ?_
  intro I16 L16 h16
  obtain ⟨rfl, h16⟩ := h16
  replace hr : cRr w I I16 := cRr.trans (by repeat (first | exact hr | refine cRr.up ?_ (by unfold cOk; (try simp only [px_app, px_ur]); grind))) h16
  clear d0 d1 d2 d3 d4 d5 d6 d7 d8 d9
  obtain ⟨d0, d1, d2, d3, d4, d5, d6, d7, d8, d9⟩ := cRd.op hr.1
  refine px_rvW rfl q_X4_readBareStep_19 rfl rfl rfl hg rfl trivial ⟨⟨rfl, rfl⟩, ?_⟩
  exact ⟨rfl, hr⟩

theorem q_X4_readDo_0 : px_bk 4 2 cX4_readDo 0 [(.aload_n 0, (0, 0, 0, 0, 0), 0, 0), (.iconst 1, (0, 0, 0, 0, 0), 1, 0)] = some 2 ∧ px_tv cX4_readDo 2 148 = true := by decide +kernel
theorem q_X4_readDo_5 : px_bk 4 2 cX4_readDo 5 [(.istore_n 1, (0, 0, 0, 0, 0), 0, 0), (.aload_n 0, (0, 0, 0, 0, 0), 0, 0), (.iconst 3, (0, 0, 0, 0, 0), 3, 0)] = some 8 ∧ px_tv cX4_readDo 8 139 = true := by decide +kernel
theorem q_X4_readDo_11 : px_bk 4 2 cX4_readDo 11 [(.iload_n 1, (0, 0, 0, 0, 0), 0, 0), (.iconst (-1), (0, 0, 0, 0, 0), -1, 0)] = some 13 ∧ px_t2 cX4_readDo 13 .eq 50 = true := by decide +kernel
theorem q_X4_readDo_50 : px_bk 4 2 cX4_readDo 50 [] = some 50 ∧ px_tr cX4_readDo 50 .return_ = true := by decide +kernel
theorem q_X4_readDo_16 : px_bk 4 2 cX4_readDo 16 [(.aload_n 0, (0, 0, 0, 0, 0), 0, 0), (.getfield 31, (4, 6, 3, 84, 0), 0, 0), (.iload_n 1, (0, 0, 0, 0, 0), 0, 0), (.iaload, (0, 0, 0, 0, 0), 0, 0)] = some 22 ∧ px_t1 cX4_readDo 22 .le 50 = true := by decide +kernel
theorem q_X4_readDo_25 : px_bk 4 2 cX4_readDo 25 [(.aload_n 0, (0, 0, 0, 0, 0), 0, 0), (.getfield 12, (4, 1, 4, 0, 0), 0, 0), (.bipush 8, (0, 0, 0, 0, 0), 8, 0), (.aload_n 0, (0, 0, 0, 0, 0), 0, 0), (.getfield 28, (4, 5, 3, 83, 0), 0, 0), (.iload_n 1, (0, 0, 0, 0, 0), 0, 0), (.iaload, (0, 0, 0, 0, 0), 0, 0)] = some 37 ∧ px_tv cX4_readDo 37 142 = true := by decide +kernel
theorem q_X4_readDo_40 : px_bk 4 2 cX4_readDo 40 [(.aload_n 0, (0, 0, 0, 0, 0), 0, 0), (.aload_n 0, (0, 0, 0, 0, 0), 0, 0), (.getfield 31, (4, 6, 3, 84, 0), 0, 0), (.iload_n 1, (0, 0, 0, 0, 0), 0, 0), (.iaload, (0, 0, 0, 0, 0), 0, 0)] = some 47 ∧ px_tv cX4_readDo 47 145 = true := by decide +kernel
set_option maxRecDepth 100000 in
theorem c_readDo {n : Nat} {I : px_I} {L : px_L} {R : px_R} {w : Nat} (hg : px_G n (cRW R w)) (hw : cWay n w) (hd : cRd w I) : px_KV M_X4_readDo [.ref 76] n I L (cRW R w) (fun I2 L2 => L2 = L ∧ cRr w I I2) := by
  refine px_of (plainFor_of_name np_RX4) (fun _ _ _ => trivial) rfl ?_
  have hr := cRr.rfl' hd
  obtain ⟨d0, d1, d2, d3, d4, d5, d6, d7, d8, d9⟩ := cRd.op hd
  refine px_cVS (ci := 4) rfl q_X4_readDo_0 hg rfl trivial lk_4_148 nm_X4_takeLetter (c_takeLetter hg hw _ (show cRd w _ from (by repeat (first | exact hr | refine cRr.up ?_ (by unfold cOk; (try simp only [px_app, px_ur]); grind)) : cRr w I _).1)) rfl rfl (px_lit hg rfl) rfl rfl rfl ⟨rfl, rfl⟩ ?_
  intro x2 I2 L2 h2
  obtain ⟨e2, rfl, h2⟩ := h2
  replace hr : cRr w I I2 := cRr.trans (by repeat (first | exact hr | refine cRr.up ?_ (by unfold cOk; (try simp only [px_app, px_ur]); grind))) h2
  clear d0 d1 d2 d3 d4 d5 d6 d7 d8 d9
  obtain ⟨d0, d1, d2, d3, d4, d5, d6, d7, d8, d9⟩ := cRd.op hr.1
  refine px_cVW (ci := 4) rfl q_X4_readDo_5 hg rfl trivial lk_4_139 nm_X4_take (c_take hg hw _ (show cRd w _ from (by repeat (first | exact hr | refine cRr.up ?_ (by unfold cOk; (try simp only [px_app, px_ur]); grind)) : cRr w I _).1)) rfl rfl (px_lit hg rfl) rfl rfl rfl ⟨rfl, rfl⟩ ?_
  intro I8 L8 h8
  obtain ⟨rfl, h8⟩ := h8
  replace hr : cRr w I I8 := cRr.trans (by repeat (first | exact hr | refine cRr.up ?_ (by unfold cOk; (try simp only [px_app, px_ur]); grind))) h8
  clear d0 d1 d2 d3 d4 d5 d6 d7 d8 d9
  obtain ⟨d0, d1, d2, d3, d4, d5, d6, d7, d8, d9⟩ := cRd.op hr.1
  refine px_ieq rfl q_X4_readDo_11 hg rfl trivial (fun c13 => ?_) (fun c13 => ?_)
  · refine px_rvW rfl q_X4_readDo_50 rfl rfl rfl hg rfl trivial ⟨⟨rfl, rfl⟩, ?_⟩
    exact ⟨rfl, hr⟩
  · have hx : 0 ≤ x2 ∧ x2 < 8 := by grind
    refine px_le rfl q_X4_readDo_16 hg rfl ⟨trivial, (by first | exact hw.1 | exact hw.2.1 | exact hw.2.2 | with_reducible assumption | decide | (refine ⟨?_, ?_⟩ <;> grind) | (simp only [px_ur]; refine ⟨?_, ?_⟩ <;> grind))⟩ (fun c22 => ?_) (fun c22 => ?_)
    · refine px_rvW rfl q_X4_readDo_50 rfl rfl rfl hg rfl trivial ⟨⟨rfl, rfl⟩, ?_⟩
      exact ⟨rfl, hr⟩
    · refine px_cVW (ci := 10) rfl q_X4_readDo_25 hg rfl ⟨trivial, (by first | exact hw.1 | exact hw.2.1 | exact hw.2.2 | with_reducible assumption | decide | (refine ⟨?_, ?_⟩ <;> grind) | (simp only [px_ur]; refine ⟨?_, ?_⟩ <;> grind))⟩ lk_4_142 nm_X10_add (c_add hg hw _ _ d8.1) rfl rfl hw.1 rfl rfl rfl ⟨rfl, rfl⟩ ?_
      intro I37 L37 h37
      obtain ⟨rfl, h37⟩ := h37
      replace hr : cRr w I I37 := cRr.add hr h37 (by have := d7 x2.toNatClampNeg; grind)
      clear d0 d1 d2 d3 d4 d5 d6 d7 d8 d9
      obtain ⟨d0, d1, d2, d3, d4, d5, d6, d7, d8, d9⟩ := cRd.op hr.1
      refine px_cVW (ci := 4) rfl q_X4_readDo_40 hg rfl ⟨trivial, (by first | exact hw.1 | exact hw.2.1 | exact hw.2.2 | with_reducible assumption | decide | (refine ⟨?_, ?_⟩ <;> grind) | (simp only [px_ur]; refine ⟨?_, ?_⟩ <;> grind))⟩ lk_4_145 nm_X4_addSteps (c_addSteps hg hw _ (show cRd w _ from (by repeat (first | exact hr | refine cRr.up ?_ (by unfold cOk; (try simp only [px_app, px_ur]); grind)) : cRr w I _).1)) rfl rfl (px_lit hg rfl) rfl rfl rfl ⟨rfl, rfl⟩ ?_
      intro I47 L47 h47
      obtain ⟨rfl, h47⟩ := h47
      replace hr : cRr w I I47 := cRr.trans (by repeat (first | exact hr | refine cRr.up ?_ (by unfold cOk; (try simp only [px_app, px_ur]); grind))) h47
      clear d0 d1 d2 d3 d4 d5 d6 d7 d8 d9
      obtain ⟨d0, d1, d2, d3, d4, d5, d6, d7, d8, d9⟩ := cRd.op hr.1
      refine px_rvW rfl q_X4_readDo_50 rfl rfl rfl hg rfl trivial ⟨⟨rfl, rfl⟩, ?_⟩
      exact ⟨rfl, hr⟩

theorem q_X4_openBlock_0 : px_bk 4 2 cX4_openBlock 0 [(.aload_n 0, (0, 0, 0, 0, 0), 0, 0), (.getfield 34, (4, 7, 0, 0, 0), 0, 0), (.bipush 8, (0, 0, 0, 0, 0), 8, 0)] = some 6 ∧ px_t2 cX4_openBlock 6 .ge 55 = true := by decide +kernel
theorem q_X4_openBlock_55 : px_bk 4 2 cX4_openBlock 55 [] = some 55 ∧ px_tr cX4_openBlock 55 .return_ = true := by decide +kernel
theorem q_X4_openBlock_9 : px_bk 4 2 cX4_openBlock 9 [(.aload_n 0, (0, 0, 0, 0, 0), 0, 0), (.dup, (0, 0, 0, 0, 0), 0, 0), (.getfield 34, (4, 7, 0, 0, 0), 0, 0), (.iconst 1, (0, 0, 0, 0, 0), 1, 0), (.iadd, (0, 0, 0, 0, 0), 0, 0), (.putfield 34, (4, 7, 0, 0, 0), 0, 0), (.aload_n 0, (0, 0, 0, 0, 0), 0, 0), (.getfield 18, (4, 2, 3, 80, 0), 0, 0), (.aload_n 0, (0, 0, 0, 0, 0), 0, 0), (.getfield 34, (4, 7, 0, 0, 0), 0, 0), (.aload_n 0, (0, 0, 0, 0, 0), 0, 0), (.getfield 12, (4, 1, 4, 0, 0), 0, 0), (.getfield 93, (10, 2, 5, 0, 0), 0, 0), (.iastore, (0, 0, 0, 0, 0), 0, 0), (.aload_n 0, (0, 0, 0, 0, 0), 0, 0), (.getfield 22, (4, 3, 3, 81, 0), 0, 0), (.aload_n 0, (0, 0, 0, 0, 0), 0, 0), (.getfield 34, (4, 7, 0, 0, 0), 0, 0), (.iload_n 1, (0, 0, 0, 0, 0), 0, 0), (.iastore, (0, 0, 0, 0, 0), 0, 0), (.aload_n 0, (0, 0, 0, 0, 0), 0, 0), (.getfield 25, (4, 4, 3, 82, 0), 0, 0), (.aload_n 0, (0, 0, 0, 0, 0), 0, 0), (.getfield 34, (4, 7, 0, 0, 0), 0, 0), (.iconst 0, (0, 0, 0, 0, 0), 0, 0), (.iastore, (0, 0, 0, 0, 0), 0, 0)] = some 55 ∧ px_tr cX4_openBlock 55 .return_ = true := by decide +kernel
set_option maxRecDepth 100000 in
theorem c_openBlock {n : Nat} {I : px_I} {L : px_L} {R : px_R} {w : Nat} (hg : px_G n (cRW R w)) (hw : cWay n w) (x : Int32) (hd : cRd w I) : px_KV M_X4_openBlock [.ref 76, .int x] n I L (cRW R w) (fun I2 L2 => L2 = L ∧ cRr w I I2) := by
  refine px_of (plainFor_of_name np_RX4) (fun _ _ _ => trivial) rfl ?_
  have hr := cRr.rfl' hd
  obtain ⟨d0, d1, d2, d3, d4, d5, d6, d7, d8, d9⟩ := cRd.op hd
  refine px_ige rfl q_X4_openBlock_0 hg rfl trivial (fun c6 => ?_) (fun c6 => ?_)
  · refine px_rvW rfl q_X4_openBlock_55 rfl rfl rfl hg rfl trivial ⟨⟨rfl, rfl⟩, ?_⟩
    exact ⟨rfl, (by repeat (first | exact hr | refine cRr.up ?_ (by unfold cOk; (try simp only [px_app, px_ur]); grind)))⟩
  · refine px_rvW rfl q_X4_openBlock_9 rfl rfl rfl hg rfl ⟨⟨⟨⟨trivial, (by first | exact hw.1 | exact hw.2.1 | exact hw.2.2 | with_reducible assumption | decide | (refine ⟨?_, ?_⟩ <;> grind) | (simp only [px_ur]; refine ⟨?_, ?_⟩ <;> grind))⟩, (by first | exact hw.1 | exact hw.2.1 | exact hw.2.2 | with_reducible assumption | decide | (refine ⟨?_, ?_⟩ <;> grind) | (simp only [px_ur]; refine ⟨?_, ?_⟩ <;> grind))⟩, (by first | exact hw.1 | exact hw.2.1 | exact hw.2.2 | with_reducible assumption | decide | (refine ⟨?_, ?_⟩ <;> grind) | (simp only [px_ur]; refine ⟨?_, ?_⟩ <;> grind))⟩, (by first | exact hw.1 | exact hw.2.1 | exact hw.2.2 | with_reducible assumption | decide | (refine ⟨?_, ?_⟩ <;> grind) | (simp only [px_ur]; refine ⟨?_, ?_⟩ <;> grind))⟩ ⟨⟨rfl, rfl⟩, ?_⟩
    exact ⟨rfl, (by repeat (first | exact hr | refine cRr.up ?_ (by unfold cOk; (try simp only [px_app, px_ur]); grind)))⟩

theorem q_X4_readRepeat_0 : px_bk 4 2 cX4_readRepeat 0 [(.aload_n 0, (0, 0, 0, 0, 0), 0, 0), (.iconst 1, (0, 0, 0, 0, 0), 1, 0), (.bipush 99, (0, 0, 0, 0, 0), 99, 0)] = some 4 ∧ px_tv cX4_readRepeat 4 135 = true := by decide +kernel
theorem q_X4_readRepeat_7 : px_bk 4 2 cX4_readRepeat 7 [(.aload_n 0, (0, 0, 0, 0, 0), 0, 0), (.getfield 52, (4, 12, 0, 0, 0), 0, 0), (.istore_n 1, (0, 0, 0, 0, 0), 0, 0), (.aload_n 0, (0, 0, 0, 0, 0), 0, 0)] = some 13 ∧ px_tv cX4_readRepeat 13 152 = true := by decide +kernel
theorem q_X4_readRepeat_16 : px_bk 4 2 cX4_readRepeat 16 [(.aload_n 0, (0, 0, 0, 0, 0), 0, 0), (.getfield 58, (4, 14, 0, 0, 0), 0, 0)] = some 20 ∧ px_t1 cX4_readRepeat 20 .ne 43 = true := by decide +kernel
theorem q_X4_readRepeat_43 : px_bk 4 2 cX4_readRepeat 43 [] = some 43 ∧ px_tr cX4_readRepeat 43 .return_ = true := by decide +kernel
theorem q_X4_readRepeat_23 : px_bk 4 2 cX4_readRepeat 23 [(.aload_n 0, (0, 0, 0, 0, 0), 0, 0), (.iload_n 1, (0, 0, 0, 0, 0), 0, 0)] = some 25 ∧ px_tv cX4_readRepeat 25 155 = true := by decide +kernel
theorem q_X4_readRepeat_28 : px_bk 4 2 cX4_readRepeat 28 [(.iload_n 1, (0, 0, 0, 0, 0), 0, 0), (.iconst 1, (0, 0, 0, 0, 0), 1, 0)] = some 30 ∧ px_t2 cX4_readRepeat 30 .le 43 = true := by decide +kernel
theorem q_X4_readRepeat_33 : px_bk 4 2 cX4_readRepeat 33 [(.aload_n 0, (0, 0, 0, 0, 0), 0, 0), (.getfield 12, (4, 1, 4, 0, 0), 0, 0), (.bipush 6, (0, 0, 0, 0, 0), 6, 0), (.iload_n 1, (0, 0, 0, 0, 0), 0, 0)] = some 40 ∧ px_tv cX4_readRepeat 40 142 = true := by decide +kernel
set_option maxRecDepth 100000 in
theorem c_readRepeat {n : Nat} {I : px_I} {L : px_L} {R : px_R} {w : Nat} (hg : px_G n (cRW R w)) (hw : cWay n w) (hd : cRd w I) : px_KV M_X4_readRepeat [.ref 76] n I L (cRW R w) (fun I2 L2 => L2 = L ∧ cRr w I I2) := by
  refine px_of (plainFor_of_name np_RX4) (fun _ _ _ => trivial) rfl ?_
  have hr := cRr.rfl' hd
  obtain ⟨d0, d1, d2, d3, d4, d5, d6, d7, d8, d9⟩ := cRd.op hd
  refine px_cVW (ci := 4) rfl q_X4_readRepeat_0 hg rfl trivial lk_4_135 nm_X4_takeNumber (c_takeNumber hg hw _ _ (show cRd w _ from (by repeat (first | exact hr | refine cRr.up ?_ (by unfold cOk; (try simp only [px_app, px_ur]); grind)) : cRr w I _).1)) rfl rfl (px_lit hg rfl) rfl rfl rfl ⟨rfl, rfl⟩ ?_
  intro I4 L4 h4
  obtain ⟨rfl, h4⟩ := h4
  replace hr : cRr w I I4 := cRr.trans (by repeat (first | exact hr | refine cRr.up ?_ (by unfold cOk; (try simp only [px_app, px_ur]); grind))) h4
  clear d0 d1 d2 d3 d4 d5 d6 d7 d8 d9
  obtain ⟨d0, d1, d2, d3, d4, d5, d6, d7, d8, d9⟩ := cRd.op hr.1
  have hn := d5
  refine px_cVW (ci := 4) rfl q_X4_readRepeat_7 hg rfl trivial lk_4_152 nm_X4_takeOpening (c_takeOpening hg hw  (show cRd w _ from (by repeat (first | exact hr | refine cRr.up ?_ (by unfold cOk; (try simp only [px_app, px_ur]); grind)) : cRr w I _).1)) rfl rfl (px_lit hg rfl) rfl rfl rfl ⟨rfl, rfl⟩ ?_
  intro I13 L13 h13
  obtain ⟨rfl, h13⟩ := h13
  replace hr : cRr w I I13 := cRr.trans (by repeat (first | exact hr | refine cRr.up ?_ (by unfold cOk; (try simp only [px_app, px_ur]); grind))) h13
  clear d0 d1 d2 d3 d4 d5 d6 d7 d8 d9
  obtain ⟨d0, d1, d2, d3, d4, d5, d6, d7, d8, d9⟩ := cRd.op hr.1
  refine px_ne rfl q_X4_readRepeat_16 hg rfl trivial (fun c20 => ?_) (fun c20 => ?_)
  · refine px_rvW rfl q_X4_readRepeat_43 rfl rfl rfl hg rfl trivial ⟨⟨rfl, rfl⟩, ?_⟩
    exact ⟨rfl, hr⟩
  · refine px_cVW (ci := 4) rfl q_X4_readRepeat_23 hg rfl trivial lk_4_155 nm_X4_openBlock (c_openBlock hg hw _ (show cRd w _ from (by repeat (first | exact hr | refine cRr.up ?_ (by unfold cOk; (try simp only [px_app, px_ur]); grind)) : cRr w I _).1)) rfl rfl (px_lit hg rfl) rfl rfl rfl ⟨rfl, rfl⟩ ?_
    intro I25 L25 h25
    obtain ⟨rfl, h25⟩ := h25
    replace hr : cRr w I I25 := cRr.trans (by repeat (first | exact hr | refine cRr.up ?_ (by unfold cOk; (try simp only [px_app, px_ur]); grind))) h25
    clear d0 d1 d2 d3 d4 d5 d6 d7 d8 d9
    obtain ⟨d0, d1, d2, d3, d4, d5, d6, d7, d8, d9⟩ := cRd.op hr.1
    refine px_ile rfl q_X4_readRepeat_28 hg rfl trivial (fun c30 => ?_) (fun c30 => ?_)
    · refine px_rvW rfl q_X4_readRepeat_43 rfl rfl rfl hg rfl trivial ⟨⟨rfl, rfl⟩, ?_⟩
      exact ⟨rfl, hr⟩
    · refine px_cVW (ci := 10) rfl q_X4_readRepeat_33 hg rfl trivial lk_4_142 nm_X10_add (c_add hg hw _ _ d8.1) rfl rfl hw.1 rfl rfl rfl ⟨rfl, rfl⟩ ?_
      intro I40 L40 h40
      obtain ⟨rfl, h40⟩ := h40
      replace hr : cRr w I I40 := cRr.add hr h40 (by first | assumption | grind)
      clear d0 d1 d2 d3 d4 d5 d6 d7 d8 d9
      obtain ⟨d0, d1, d2, d3, d4, d5, d6, d7, d8, d9⟩ := cRd.op hr.1
      refine px_rvW rfl q_X4_readRepeat_43 rfl rfl rfl hg rfl trivial ⟨⟨rfl, rfl⟩, ?_⟩
      exact ⟨rfl, hr⟩

theorem q_X4_readDef_0 : px_bk 4 2 cX4_readDef 0 [(.aload_n 0, (0, 0, 0, 0, 0), 0, 0), (.iconst 0, (0, 0, 0, 0, 0), 0, 0)] = some 2 ∧ px_tv cX4_readDef 2 148 = true := by decide +kernel
theorem q_X4_readDef_5 : px_bk 4 2 cX4_readDef 5 [(.istore_n 1, (0, 0, 0, 0, 0), 0, 0), (.aload_n 0, (0, 0, 0, 0, 0), 0, 0)] = some 7 ∧ px_tv cX4_readDef 7 152 = true := by decide +kernel
theorem q_X4_readDef_10 : px_bk 4 2 cX4_readDef 10 [(.aload_n 0, (0, 0, 0, 0, 0), 0, 0), (.getfield 58, (4, 14, 0, 0, 0), 0, 0)] = some 14 ∧ px_t1 cX4_readDef 14 .ne 37 = true := by decide +kernel
theorem q_X4_readDef_37 : px_bk 4 2 cX4_readDef 37 [] = some 37 ∧ px_tr cX4_readDef 37 .return_ = true := by decide +kernel
theorem q_X4_readDef_17 : px_bk 4 2 cX4_readDef 17 [(.aload_n 0, (0, 0, 0, 0, 0), 0, 0), (.iload_n 1, (0, 0, 0, 0, 0), 0, 0), (.putfield 38, (4, 8, 0, 0, 0), 0, 0), (.aload_n 0, (0, 0, 0, 0, 0), 0, 0), (.iconst 1, (0, 0, 0, 0, 0), 1, 0)] = some 24 ∧ px_tv cX4_readDef 24 155 = true := by decide +kernel
theorem q_X4_readDef_27 : px_bk 4 2 cX4_readDef 27 [(.aload_n 0, (0, 0, 0, 0, 0), 0, 0), (.getfield 12, (4, 1, 4, 0, 0), 0, 0), (.bipush 10, (0, 0, 0, 0, 0), 10, 0), (.iconst 0, (0, 0, 0, 0, 0), 0, 0)] = some 34 ∧ px_tv cX4_readDef 34 142 = true := by decide +kernel
set_option maxRecDepth 100000 in
theorem c_readDef {n : Nat} {I : px_I} {L : px_L} {R : px_R} {w : Nat} (hg : px_G n (cRW R w)) (hw : cWay n w) (hd : cRd w I) : px_KV M_X4_readDef [.ref 76] n I L (cRW R w) (fun I2 L2 => L2 = L ∧ cRr w I I2) := by
  refine px_of (plainFor_of_name np_RX4) (fun _ _ _ => trivial) rfl ?_
  have hr := cRr.rfl' hd
  obtain ⟨d0, d1, d2, d3, d4, d5, d6, d7, d8, d9⟩ := cRd.op hd
  refine px_cVS (ci := 4) rfl q_X4_readDef_0 hg rfl trivial lk_4_148 nm_X4_takeLetter (c_takeLetter hg hw _ (show cRd w _ from (by repeat (first | exact hr | refine cRr.up ?_ (by unfold cOk; (try simp only [px_app, px_ur]); grind)) : cRr w I _).1)) rfl rfl (px_lit hg rfl) rfl rfl rfl ⟨rfl, rfl⟩ ?_
  intro x2 I2 L2 h2
  obtain ⟨e2, rfl, h2⟩ := h2
  replace hr : cRr w I I2 := cRr.trans (by repeat (first | exact hr | refine cRr.up ?_ (by unfold cOk; (try simp only [px_app, px_ur]); grind))) h2
  clear d0 d1 d2 d3 d4 d5 d6 d7 d8 d9
  obtain ⟨d0, d1, d2, d3, d4, d5, d6, d7, d8, d9⟩ := cRd.op hr.1
  refine px_cVW (ci := 4) rfl q_X4_readDef_5 hg rfl trivial lk_4_152 nm_X4_takeOpening (c_takeOpening hg hw  (show cRd w _ from (by repeat (first | exact hr | refine cRr.up ?_ (by unfold cOk; (try simp only [px_app, px_ur]); grind)) : cRr w I _).1)) rfl rfl (px_lit hg rfl) rfl rfl rfl ⟨rfl, rfl⟩ ?_
  intro I7 L7 h7
  obtain ⟨rfl, h7⟩ := h7
  replace hr : cRr w I I7 := cRr.trans (by repeat (first | exact hr | refine cRr.up ?_ (by unfold cOk; (try simp only [px_app, px_ur]); grind))) h7
  clear d0 d1 d2 d3 d4 d5 d6 d7 d8 d9
  obtain ⟨d0, d1, d2, d3, d4, d5, d6, d7, d8, d9⟩ := cRd.op hr.1
  refine px_ne rfl q_X4_readDef_10 hg rfl trivial (fun c14 => ?_) (fun c14 => ?_)
  · refine px_rvW rfl q_X4_readDef_37 rfl rfl rfl hg rfl trivial ⟨⟨rfl, rfl⟩, ?_⟩
    exact ⟨rfl, hr⟩
  · refine px_cVW (ci := 4) rfl q_X4_readDef_17 hg rfl trivial lk_4_155 nm_X4_openBlock (c_openBlock hg hw _ (show cRd w _ from (by repeat (first | exact hr | refine cRr.up ?_ (by unfold cOk; (try simp only [px_app, px_ur]); grind)) : cRr w I _).1)) rfl rfl (px_lit hg rfl) rfl rfl rfl ⟨rfl, rfl⟩ ?_
    intro I24 L24 h24
    obtain ⟨rfl, h24⟩ := h24
    replace hr : cRr w I I24 := cRr.trans (by repeat (first | exact hr | refine cRr.up ?_ (by unfold cOk; (try simp only [px_app, px_ur]); grind))) h24
    clear d0 d1 d2 d3 d4 d5 d6 d7 d8 d9
    obtain ⟨d0, d1, d2, d3, d4, d5, d6, d7, d8, d9⟩ := cRd.op hr.1
    refine px_cVW (ci := 10) rfl q_X4_readDef_27 hg rfl trivial lk_4_142 nm_X10_add (c_add hg hw _ _ d8.1) rfl rfl hw.1 rfl rfl rfl ⟨rfl, rfl⟩ ?_
    intro I34 L34 h34
    obtain ⟨rfl, h34⟩ := h34
    replace hr : cRr w I I34 := cRr.add hr h34 (by decide)
    clear d0 d1 d2 d3 d4 d5 d6 d7 d8 d9
    obtain ⟨d0, d1, d2, d3, d4, d5, d6, d7, d8, d9⟩ := cRd.op hr.1
    refine px_rvW rfl q_X4_readDef_37 rfl rfl rfl hg rfl trivial ⟨⟨rfl, rfl⟩, ?_⟩
    exact ⟨rfl, hr⟩

theorem q_X4_closeDef_0 : px_bk 4 3 cX4_closeDef 0 [(.aload_n 0, (0, 0, 0, 0, 0), 0, 0), (.getfield 18, (4, 2, 3, 80, 0), 0, 0), (.iload_n 1, (0, 0, 0, 0, 0), 0, 0), (.iaload, (0, 0, 0, 0, 0), 0, 0), (.istore_n 2, (0, 0, 0, 0, 0), 0, 0), (.aload_n 0, (0, 0, 0, 0, 0), 0, 0), (.getfield 25, (4, 4, 3, 82, 0), 0, 0), (.iload_n 1, (0, 0, 0, 0, 0), 0, 0), (.iaload, (0, 0, 0, 0, 0), 0, 0)] = some 13 ∧ px_t1 cX4_closeDef 13 .le 53 = true := by decide +kernel
theorem q_X4_closeDef_53 : px_bk 4 3 cX4_closeDef 53 [(.aload_n 0, (0, 0, 0, 0, 0), 0, 0), (.getfield 38, (4, 8, 0, 0, 0), 0, 0), (.iconst 0, (0, 0, 0, 0, 0), 0, 0), (.bipush 7, (0, 0, 0, 0, 0), 7, 0)] = some 60 ∧ px_tS cX4_closeDef 60 158 = true := by decide +kernel
theorem q_X4_closeDef_63 : px_bk 4 3 cX4_closeDef 63 [] = some 63 ∧ px_t1 cX4_closeDef 63 .eq 93 = true := by decide +kernel
theorem q_X4_closeDef_93 : px_bk 4 3 cX4_closeDef 93 [(.aload_n 0, (0, 0, 0, 0, 0), 0, 0), (.iconst (-1), (0, 0, 0, 0, 0), -1, 0), (.putfield 38, (4, 8, 0, 0, 0), 0, 0)] = some 98 ∧ px_tr cX4_closeDef 98 .return_ = true := by decide +kernel
theorem q_X4_closeDef_66 : px_bk 4 3 cX4_closeDef 66 [(.aload_n 0, (0, 0, 0, 0, 0), 0, 0), (.getfield 28, (4, 5, 3, 83, 0), 0, 0), (.aload_n 0, (0, 0, 0, 0, 0), 0, 0), (.getfield 38, (4, 8, 0, 0, 0), 0, 0), (.iload_n 2, (0, 0, 0, 0, 0), 0, 0), (.iconst 1, (0, 0, 0, 0, 0), 1, 0), (.iadd, (0, 0, 0, 0, 0), 0, 0), (.iastore, (0, 0, 0, 0, 0), 0, 0), (.aload_n 0, (0, 0, 0, 0, 0), 0, 0), (.getfield 31, (4, 6, 3, 84, 0), 0, 0), (.aload_n 0, (0, 0, 0, 0, 0), 0, 0), (.getfield 38, (4, 8, 0, 0, 0), 0, 0), (.aload_n 0, (0, 0, 0, 0, 0), 0, 0), (.getfield 25, (4, 4, 3, 82, 0), 0, 0), (.iload_n 1, (0, 0, 0, 0, 0), 0, 0), (.iaload, (0, 0, 0, 0, 0), 0, 0), (.iastore, (0, 0, 0, 0, 0), 0, 0), (.aload_n 0, (0, 0, 0, 0, 0), 0, 0), (.iconst (-1), (0, 0, 0, 0, 0), -1, 0), (.putfield 38, (4, 8, 0, 0, 0), 0, 0)] = some 98 ∧ px_tr cX4_closeDef 98 .return_ = true := by decide +kernel
theorem q_X4_closeDef_16 : px_bk 4 3 cX4_closeDef 16 [(.iload_n 2, (0, 0, 0, 0, 0), 0, 0), (.iconst 0, (0, 0, 0, 0, 0), 0, 0), (.sipush 199, (0, 0, 0, 0, 0), 199, 0)] = some 21 ∧ px_tS cX4_closeDef 21 158 = true := by decide +kernel
theorem q_X4_closeDef_24 : px_bk 4 3 cX4_closeDef 24 [] = some 24 ∧ px_t1 cX4_closeDef 24 .eq 53 = true := by decide +kernel
theorem q_X4_closeDef_27 : px_bk 4 3 cX4_closeDef 27 [(.aload_n 0, (0, 0, 0, 0, 0), 0, 0), (.getfield 12, (4, 1, 4, 0, 0), 0, 0), (.bipush 9, (0, 0, 0, 0, 0), 9, 0), (.iconst 0, (0, 0, 0, 0, 0), 0, 0)] = some 34 ∧ px_tv cX4_closeDef 34 142 = true := by decide +kernel
theorem q_X4_closeDef_37 : px_bk 4 3 cX4_closeDef 37 [(.aload_n 0, (0, 0, 0, 0, 0), 0, 0), (.getfield 12, (4, 1, 4, 0, 0), 0, 0), (.getfield 165, (10, 1, 6, 2, 0), 0, 0), (.iload_n 2, (0, 0, 0, 0, 0), 0, 0), (.aload_n 0, (0, 0, 0, 0, 0), 0, 0), (.getfield 12, (4, 1, 4, 0, 0), 0, 0), (.getfield 93, (10, 2, 5, 0, 0), 0, 0), (.iastore, (1, 0, 0, 0, 0), 200, 0), (.aload_n 0, (0, 0, 0, 0, 0), 0, 0), (.getfield 38, (4, 8, 0, 0, 0), 0, 0), (.iconst 0, (0, 0, 0, 0, 0), 0, 0), (.bipush 7, (0, 0, 0, 0, 0), 7, 0)] = some 60 ∧ px_tS cX4_closeDef 60 158 = true := by decide +kernel
set_option maxRecDepth 100000 in
theorem c_closeDef {n : Nat} {I : px_I} {L : px_L} {R : px_R} {w : Nat} (hg : px_G n (cRW R w)) (hw : cWay n w) (b : Int32) (hb : 0 ≤ b ∧ b ≤ 8) (hd : cRd w I) : px_KV M_X4_closeDef [.ref 76, .int b] n I L (cRW R w) (fun I2 L2 => L2 = L ∧ cRr w I I2) := by
  refine px_of (plainFor_of_name np_RX4) (fun _ _ _ => trivial) rfl ?_
  have hr := cRr.rfl' hd
  obtain ⟨d0, d1, d2, d3, d4, d5, d6, d7, d8, d9⟩ := cRd.op hd
  have hb2 : 0 ≤ b ∧ b < 9 := by grind
  have hs := d6 b.toNatClampNeg
  refine px_le rfl q_X4_closeDef_0 hg rfl ⟨⟨trivial, (by first | exact hw.1 | exact hw.2.1 | exact hw.2.2 | with_reducible assumption | decide | (refine ⟨?_, ?_⟩ <;> grind) | (simp only [px_ur]; refine ⟨?_, ?_⟩ <;> grind))⟩, (by first | exact hw.1 | exact hw.2.1 | exact hw.2.2 | with_reducible assumption | decide | (refine ⟨?_, ?_⟩ <;> grind) | (simp only [px_ur]; refine ⟨?_, ?_⟩ <;> grind))⟩ (fun c13 => ?_) (fun c13 => ?_)
  · refine px_cSNP rfl q_X4_closeDef_53 hg rfl trivial lk_4_158 nm_X11_within (c_within hg _ _ _) rfl rfl rfl ⟨rfl, rfl⟩ ?_
    intro x60 h60
    refine px_eq rfl q_X4_closeDef_63 hg rfl trivial (fun c63 => ?_) (fun c63 => ?_)
    · replace h60 := px_bf h60 c63
      refine px_rvW rfl q_X4_closeDef_93 rfl rfl rfl hg rfl trivial ⟨⟨rfl, rfl⟩, ?_⟩
      exact ⟨rfl, (by repeat (first | exact hr | refine cRr.up ?_ (by unfold cOk; (try simp only [px_app, px_ur]); grind)))⟩
    · replace h60 := px_bt h60 c63
      refine px_rvW rfl q_X4_closeDef_66 rfl rfl rfl hg rfl ⟨⟨⟨trivial, (by first | exact hw.1 | exact hw.2.1 | exact hw.2.2 | with_reducible assumption | decide | (refine ⟨?_, ?_⟩ <;> grind) | (simp only [px_ur]; refine ⟨?_, ?_⟩ <;> grind))⟩, (by first | exact hw.1 | exact hw.2.1 | exact hw.2.2 | with_reducible assumption | decide | (refine ⟨?_, ?_⟩ <;> grind) | (simp only [px_ur]; refine ⟨?_, ?_⟩ <;> grind))⟩, (by first | exact hw.1 | exact hw.2.1 | exact hw.2.2 | with_reducible assumption | decide | (refine ⟨?_, ?_⟩ <;> grind) | (simp only [px_ur]; refine ⟨?_, ?_⟩ <;> grind))⟩ ⟨⟨rfl, rfl⟩, ?_⟩
      exact ⟨rfl, (by repeat (first | exact hr | refine cRr.up ?_ (by unfold cOk; (try simp only [px_app, px_ur]); grind)))⟩
  · refine px_cSNP rfl q_X4_closeDef_16 hg rfl trivial lk_4_158 nm_X11_within (c_within hg _ _ _) rfl rfl rfl ⟨rfl, rfl⟩ ?_
    intro x21 h21
    refine px_eq rfl q_X4_closeDef_24 hg rfl trivial (fun c24 => ?_) (fun c24 => ?_)
    · replace h21 := px_bf h21 c24
      refine px_cSNP rfl q_X4_closeDef_53 hg rfl trivial lk_4_158 nm_X11_within (c_within hg _ _ _) rfl rfl rfl ⟨rfl, rfl⟩ ?_
      intro x60 h60
      refine px_eq rfl q_X4_closeDef_63 hg rfl trivial (fun c63 => ?_) (fun c63 => ?_)
      · replace h60 := px_bf h60 c63
        refine px_rvW rfl q_X4_closeDef_93 rfl rfl rfl hg rfl trivial ⟨⟨rfl, rfl⟩, ?_⟩
        exact ⟨rfl, (by repeat (first | exact hr | refine cRr.up ?_ (by unfold cOk; (try simp only [px_app, px_ur]); grind)))⟩
      · replace h60 := px_bt h60 c63
        refine px_rvW rfl q_X4_closeDef_66 rfl rfl rfl hg rfl ⟨⟨⟨trivial, (by first | exact hw.1 | exact hw.2.1 | exact hw.2.2 | with_reducible assumption | decide | (refine ⟨?_, ?_⟩ <;> grind) | (simp only [px_ur]; refine ⟨?_, ?_⟩ <;> grind))⟩, (by first | exact hw.1 | exact hw.2.1 | exact hw.2.2 | with_reducible assumption | decide | (refine ⟨?_, ?_⟩ <;> grind) | (simp only [px_ur]; refine ⟨?_, ?_⟩ <;> grind))⟩, (by first | exact hw.1 | exact hw.2.1 | exact hw.2.2 | with_reducible assumption | decide | (refine ⟨?_, ?_⟩ <;> grind) | (simp only [px_ur]; refine ⟨?_, ?_⟩ <;> grind))⟩ ⟨⟨rfl, rfl⟩, ?_⟩
        exact ⟨rfl, (by repeat (first | exact hr | refine cRr.up ?_ (by unfold cOk; (try simp only [px_app, px_ur]); grind)))⟩
    · replace h21 := px_bt h21 c24
      refine px_cVW (ci := 10) rfl q_X4_closeDef_27 hg rfl trivial lk_4_142 nm_X10_add (c_add hg hw _ _ d8.1) rfl rfl hw.1 rfl rfl rfl ⟨rfl, rfl⟩ ?_
      intro I34 L34 h34
      obtain ⟨rfl, h34⟩ := h34
      replace hr : cRr w I I34 := cRr.add hr h34 (by decide)
      clear d0 d1 d2 d3 d4 d5 d6 d7 d8 d9
      obtain ⟨d0, d1, d2, d3, d4, d5, d6, d7, d8, d9⟩ := cRd.op hr.1
      refine px_cSNP rfl q_X4_closeDef_37 hg rfl ⟨⟨⟨⟨trivial, (by first | exact hw.1 | exact hw.2.1 | exact hw.2.2 | with_reducible assumption | decide | (refine ⟨?_, ?_⟩ <;> grind) | (simp only [px_ur]; refine ⟨?_, ?_⟩ <;> grind))⟩, (by first | exact hw.1 | exact hw.2.1 | exact hw.2.2 | with_reducible assumption | decide | (refine ⟨?_, ?_⟩ <;> grind) | (simp only [px_ur]; refine ⟨?_, ?_⟩ <;> grind))⟩, (by first | exact hw.1 | exact hw.2.1 | exact hw.2.2 | with_reducible assumption | decide | (refine ⟨?_, ?_⟩ <;> grind) | (simp only [px_ur]; refine ⟨?_, ?_⟩ <;> grind))⟩, (by first | exact hw.1 | exact hw.2.1 | exact hw.2.2 | with_reducible assumption | decide | (refine ⟨?_, ?_⟩ <;> grind) | (simp only [px_ur]; refine ⟨?_, ?_⟩ <;> grind))⟩ lk_4_158 nm_X11_within (c_within hg _ _ _) rfl rfl rfl ⟨rfl, rfl⟩ ?_
      intro x60 h60
      refine px_eq rfl q_X4_closeDef_63 hg rfl trivial (fun c63 => ?_) (fun c63 => ?_)
      · replace h60 := px_bf h60 c63
        refine px_rvW rfl q_X4_closeDef_93 rfl rfl rfl hg rfl trivial ⟨⟨rfl, rfl⟩, ?_⟩
        exact ⟨rfl, (by repeat (first | exact hr | refine cRr.up ?_ (by unfold cOk; (try simp only [px_app, px_ur]); grind)))⟩
      · replace h60 := px_bt h60 c63
        refine px_rvW rfl q_X4_closeDef_66 rfl rfl rfl hg rfl ⟨⟨⟨trivial, (by first | exact hw.1 | exact hw.2.1 | exact hw.2.2 | with_reducible assumption | decide | (refine ⟨?_, ?_⟩ <;> grind) | (simp only [px_ur]; refine ⟨?_, ?_⟩ <;> grind))⟩, (by first | exact hw.1 | exact hw.2.1 | exact hw.2.2 | with_reducible assumption | decide | (refine ⟨?_, ?_⟩ <;> grind) | (simp only [px_ur]; refine ⟨?_, ?_⟩ <;> grind))⟩, (by first | exact hw.1 | exact hw.2.1 | exact hw.2.2 | with_reducible assumption | decide | (refine ⟨?_, ?_⟩ <;> grind) | (simp only [px_ur]; refine ⟨?_, ?_⟩ <;> grind))⟩ ⟨⟨rfl, rfl⟩, ?_⟩
        exact ⟨rfl, (by repeat (first | exact hr | refine cRr.up ?_ (by unfold cOk; (try simp only [px_app, px_ur]); grind)))⟩

theorem q_X4_closeBlock_0 : px_bk 4 2 cX4_closeBlock 0 [(.aload_n 0, (0, 0, 0, 0, 0), 0, 0), (.getfield 34, (4, 7, 0, 0, 0), 0, 0), (.iconst 1, (0, 0, 0, 0, 0), 1, 0), (.bipush 8, (0, 0, 0, 0, 0), 8, 0)] = some 7 ∧ px_tS cX4_closeBlock 7 158 = true := by decide +kernel
theorem q_X4_closeBlock_10 : px_bk 4 2 cX4_closeBlock 10 [] = some 10 ∧ px_t1 cX4_closeBlock 10 .ne 19 = true := by decide +kernel
theorem q_X4_closeBlock_19 : px_bk 4 2 cX4_closeBlock 19 [(.aload_n 0, (0, 0, 0, 0, 0), 0, 0), (.getfield 34, (4, 7, 0, 0, 0), 0, 0), (.istore_n 1, (0, 0, 0, 0, 0), 0, 0), (.aload_n 0, (0, 0, 0, 0, 0), 0, 0), (.dup, (0, 0, 0, 0, 0), 0, 0), (.getfield 34, (4, 7, 0, 0, 0), 0, 0), (.iconst 1, (0, 0, 0, 0, 0), 1, 0), (.isub, (0, 0, 0, 0, 0), 0, 0), (.putfield 34, (4, 7, 0, 0, 0), 0, 0), (.aload_n 0, (0, 0, 0, 0, 0), 0, 0), (.getfield 25, (4, 4, 3, 82, 0), 0, 0), (.iload_n 1, (0, 0, 0, 0, 0), 0, 0), (.iaload, (0, 0, 0, 0, 0), 0, 0)] = some 40 ∧ px_t1 cX4_closeBlock 40 .ne 56 = true := by decide +kernel
theorem q_X4_closeBlock_56 : px_bk 4 2 cX4_closeBlock 56 [(.aload_n 0, (0, 0, 0, 0, 0), 0, 0), (.getfield 34, (4, 7, 0, 0, 0), 0, 0)] = some 60 ∧ px_t1 cX4_closeBlock 60 .ne 79 = true := by decide +kernel
theorem q_X4_closeBlock_79 : px_bk 4 2 cX4_closeBlock 79 [(.aload_n 0, (0, 0, 0, 0, 0), 0, 0), (.getfield 25, (4, 4, 3, 82, 0), 0, 0), (.iload_n 1, (0, 0, 0, 0, 0), 0, 0), (.iaload, (0, 0, 0, 0, 0), 0, 0)] = some 85 ∧ px_t1 cX4_closeBlock 85 .le 125 = true := by decide +kernel
theorem q_X4_closeBlock_125 : px_bk 4 2 cX4_closeBlock 125 [] = some 125 ∧ px_tr cX4_closeBlock 125 .return_ = true := by decide +kernel
theorem q_X4_closeBlock_88 : px_bk 4 2 cX4_closeBlock 88 [(.aload_n 0, (0, 0, 0, 0, 0), 0, 0), (.getfield 22, (4, 3, 3, 81, 0), 0, 0), (.iload_n 1, (0, 0, 0, 0, 0), 0, 0), (.iaload, (0, 0, 0, 0, 0), 0, 0), (.iconst 1, (0, 0, 0, 0, 0), 1, 0)] = some 95 ∧ px_t2 cX4_closeBlock 95 .le 108 = true := by decide +kernel
theorem q_X4_closeBlock_108 : px_bk 4 2 cX4_closeBlock 108 [(.aload_n 0, (0, 0, 0, 0, 0), 0, 0), (.aload_n 0, (0, 0, 0, 0, 0), 0, 0), (.getfield 22, (4, 3, 3, 81, 0), 0, 0), (.iload_n 1, (0, 0, 0, 0, 0), 0, 0), (.iaload, (0, 0, 0, 0, 0), 0, 0), (.aload_n 0, (0, 0, 0, 0, 0), 0, 0), (.getfield 25, (4, 4, 3, 82, 0), 0, 0), (.iload_n 1, (0, 0, 0, 0, 0), 0, 0), (.iaload, (0, 0, 0, 0, 0), 0, 0), (.imul, (0, 0, 0, 0, 0), 0, 0)] = some 122 ∧ px_tv cX4_closeBlock 122 145 = true := by decide +kernel
theorem q_X4_closeBlock_98 : px_bk 4 2 cX4_closeBlock 98 [(.aload_n 0, (0, 0, 0, 0, 0), 0, 0), (.getfield 12, (4, 1, 4, 0, 0), 0, 0), (.bipush 7, (0, 0, 0, 0, 0), 7, 0), (.iconst 0, (0, 0, 0, 0, 0), 0, 0)] = some 105 ∧ px_tv cX4_closeBlock 105 142 = true := by decide +kernel
theorem q_X4_closeBlock_63 : px_bk 4 2 cX4_closeBlock 63 [(.aload_n 0, (0, 0, 0, 0, 0), 0, 0), (.getfield 38, (4, 8, 0, 0, 0), 0, 0), (.iconst (-1), (0, 0, 0, 0, 0), -1, 0)] = some 68 ∧ px_t2 cX4_closeBlock 68 .eq 79 = true := by decide +kernel
theorem q_X4_closeBlock_71 : px_bk 4 2 cX4_closeBlock 71 [(.aload_n 0, (0, 0, 0, 0, 0), 0, 0), (.iload_n 1, (0, 0, 0, 0, 0), 0, 0)] = some 73 ∧ px_tv cX4_closeBlock 73 162 = true := by decide +kernel
theorem q_X4_closeBlock_76 : px_bk 4 2 cX4_closeBlock 76 [(.goto 49, (0, 0, 0, 0, 0), 0, 0)] = some 125 ∧ px_tr cX4_closeBlock 125 .return_ = true := by decide +kernel
theorem q_X4_closeBlock_43 : px_bk 4 2 cX4_closeBlock 43 [(.aload_n 0, (0, 0, 0, 0, 0), 0, 0), (.getfield 12, (4, 1, 4, 0, 0), 0, 0), (.aload_n 0, (0, 0, 0, 0, 0), 0, 0), (.getfield 18, (4, 2, 3, 80, 0), 0, 0), (.iload_n 1, (0, 0, 0, 0, 0), 0, 0), (.iaload, (0, 0, 0, 0, 0), 0, 0), (.putfield 93, (10, 2, 5, 0, 0), 0, 0), (.aload_n 0, (0, 0, 0, 0, 0), 0, 0), (.getfield 34, (4, 7, 0, 0, 0), 0, 0)] = some 60 ∧ px_t1 cX4_closeBlock 60 .ne 79 = true := by decide +kernel
theorem q_X4_closeBlock_13 : px_bk 4 2 cX4_closeBlock 13 [(.aload_n 0, (0, 0, 0, 0, 0), 0, 0), (.iconst 1, (0, 0, 0, 0, 0), 1, 0)] = some 15 ∧ px_tv cX4_closeBlock 15 86 = true := by decide +kernel
theorem q_X4_closeBlock_18 : px_bk 4 2 cX4_closeBlock 18 [] = some 18 ∧ px_tr cX4_closeBlock 18 .return_ = true := by decide +kernel
set_option maxRecDepth 100000 in
theorem c_closeBlock {n : Nat} {I : px_I} {L : px_L} {R : px_R} {w : Nat} (hg : px_G n (cRW R w)) (hw : cWay n w) (hd : cRd w I) : px_KV M_X4_closeBlock [.ref 76] n I L (cRW R w) (fun I2 L2 => L2 = L ∧ cRr w I I2) := by
  refine px_of (plainFor_of_name np_RX4) (fun _ _ _ => trivial) rfl ?_
  have hr := cRr.rfl' hd
  obtain ⟨d0, d1, d2, d3, d4, d5, d6, d7, d8, d9⟩ := cRd.op hd
  refine px_cSNP rfl q_X4_closeBlock_0 hg rfl trivial lk_4_158 nm_X11_within (c_within hg _ _ _) rfl rfl rfl ⟨rfl, rfl⟩ ?_
  intro x7 h7
  refine px_ne rfl q_X4_closeBlock_10 hg rfl trivial (fun c10 => ?_) (fun c10 => ?_)
  · replace h7 := px_bt h7 c10
    have hb2 : 0 ≤ I 76 7 ∧ I 76 7 < 9 := by grind
    have hs := d6 (I 76 7).toNatClampNeg
    refine px_ne rfl q_X4_closeBlock_19 hg rfl ⟨trivial, (by first | exact hw.1 | exact hw.2.1 | exact hw.2.2 | with_reducible assumption | decide | (refine ⟨?_, ?_⟩ <;> grind) | (simp only [px_ur]; refine ⟨?_, ?_⟩ <;> grind))⟩ (fun c40 => ?_) (fun c40 => ?_)
    · refine px_ne rfl q_X4_closeBlock_56 hg rfl trivial (fun c60 => ?_) (fun c60 => ?_)
      · refine px_le rfl q_X4_closeBlock_79 hg rfl ⟨trivial, (by first | exact hw.1 | exact hw.2.1 | exact hw.2.2 | with_reducible assumption | decide | (refine ⟨?_, ?_⟩ <;> grind) | (simp only [px_ur]; refine ⟨?_, ?_⟩ <;> grind))⟩ (fun c85 => ?_) (fun c85 => ?_)
        · refine px_rvW rfl q_X4_closeBlock_125 rfl rfl rfl hg rfl trivial ⟨⟨rfl, rfl⟩, ?_⟩
          exact ⟨rfl, (by repeat (first | exact hr | refine cRr.up ?_ (by unfold cOk; (try simp only [px_app, px_ur]); grind)))⟩
        · refine px_ile rfl q_X4_closeBlock_88 hg rfl ⟨trivial, (by first | exact hw.1 | exact hw.2.1 | exact hw.2.2 | with_reducible assumption | decide | (refine ⟨?_, ?_⟩ <;> grind) | (simp only [px_ur]; refine ⟨?_, ?_⟩ <;> grind))⟩ (fun c95 => ?_) (fun c95 => ?_)
          · refine px_cVW (ci := 4) rfl q_X4_closeBlock_108 hg rfl ⟨⟨trivial, (by first | exact hw.1 | exact hw.2.1 | exact hw.2.2 | with_reducible assumption | decide | (refine ⟨?_, ?_⟩ <;> grind) | (simp only [px_ur]; refine ⟨?_, ?_⟩ <;> grind))⟩, (by first | exact hw.1 | exact hw.2.1 | exact hw.2.2 | with_reducible assumption | decide | (refine ⟨?_, ?_⟩ <;> grind) | (simp only [px_ur]; refine ⟨?_, ?_⟩ <;> grind))⟩ lk_4_145 nm_X4_addSteps (c_addSteps hg hw _ (show cRd w _ from (by repeat (first | exact hr | refine cRr.up ?_ (by unfold cOk; (try simp only [px_app, px_ur]); grind)) : cRr w I _).1)) rfl rfl (px_lit hg rfl) rfl rfl rfl ⟨rfl, rfl⟩ ?_
            intro I122 L122 h122
            obtain ⟨rfl, h122⟩ := h122
            replace hr : cRr w I I122 := cRr.trans (by repeat (first | exact hr | refine cRr.up ?_ (by unfold cOk; (try simp only [px_app, px_ur]); grind))) h122
            clear d0 d1 d2 d3 d4 d5 d6 d7 d8 d9
            obtain ⟨d0, d1, d2, d3, d4, d5, d6, d7, d8, d9⟩ := cRd.op hr.1
            refine px_rvW rfl q_X4_closeBlock_125 rfl rfl rfl hg rfl trivial ⟨⟨rfl, rfl⟩, ?_⟩
            exact ⟨rfl, (by repeat (first | exact hr | refine cRr.up ?_ (by unfold cOk; (try simp only [px_app, px_ur]); grind)))⟩
          · refine px_cVW (ci := 10) rfl q_X4_closeBlock_98 hg rfl trivial lk_4_142 nm_X10_add (c_add hg hw _ _ (by first | exact d8.1 | (simp only [px_ur]; grind))) rfl rfl hw.1 rfl rfl rfl ⟨rfl, rfl⟩ ?_
            intro I105 L105 h105
            obtain ⟨rfl, h105⟩ := h105
            replace hr : cRr w I I105 := cRr.add (by repeat (first | exact hr | refine cRr.up ?_ (by unfold cOk; (try simp only [px_app, px_ur]); grind))) h105 (by decide)
            clear d0 d1 d2 d3 d4 d5 d6 d7 d8 d9
            obtain ⟨d0, d1, d2, d3, d4, d5, d6, d7, d8, d9⟩ := cRd.op hr.1
            refine px_cVW (ci := 4) rfl q_X4_closeBlock_108 hg rfl ⟨⟨trivial, (by first | exact hw.1 | exact hw.2.1 | exact hw.2.2 | with_reducible assumption | decide | (refine ⟨?_, ?_⟩ <;> grind) | (simp only [px_ur]; refine ⟨?_, ?_⟩ <;> grind))⟩, (by first | exact hw.1 | exact hw.2.1 | exact hw.2.2 | with_reducible assumption | decide | (refine ⟨?_, ?_⟩ <;> grind) | (simp only [px_ur]; refine ⟨?_, ?_⟩ <;> grind))⟩ lk_4_145 nm_X4_addSteps (c_addSteps hg hw _ (show cRd w _ from (by repeat (first | exact hr | refine cRr.up ?_ (by unfold cOk; (try simp only [px_app, px_ur]); grind)) : cRr w I _).1)) rfl rfl (px_lit hg rfl) rfl rfl rfl ⟨rfl, rfl⟩ ?_
            intro I122 L122 h122
            obtain ⟨rfl, h122⟩ := h122
            replace hr : cRr w I I122 := cRr.trans (by repeat (first | exact hr | refine cRr.up ?_ (by unfold cOk; (try simp only [px_app, px_ur]); grind))) h122
            clear d0 d1 d2 d3 d4 d5 d6 d7 d8 d9
            obtain ⟨d0, d1, d2, d3, d4, d5, d6, d7, d8, d9⟩ := cRd.op hr.1
            refine px_rvW rfl q_X4_closeBlock_125 rfl rfl rfl hg rfl trivial ⟨⟨rfl, rfl⟩, ?_⟩
            exact ⟨rfl, (by repeat (first | exact hr | refine cRr.up ?_ (by unfold cOk; (try simp only [px_app, px_ur]); grind)))⟩
      · refine px_ieq rfl q_X4_closeBlock_63 hg rfl trivial (fun c68 => ?_) (fun c68 => ?_)
        · refine px_le rfl q_X4_closeBlock_79 hg rfl ⟨trivial, (by first | exact hw.1 | exact hw.2.1 | exact hw.2.2 | with_reducible assumption | decide | (refine ⟨?_, ?_⟩ <;> grind) | (simp only [px_ur]; refine ⟨?_, ?_⟩ <;> grind))⟩ (fun c85 => ?_) (fun c85 => ?_)
          · refine px_rvW rfl q_X4_closeBlock_125 rfl rfl rfl hg rfl trivial ⟨⟨rfl, rfl⟩, ?_⟩
            exact ⟨rfl, (by repeat (first | exact hr | refine cRr.up ?_ (by unfold cOk; (try simp only [px_app, px_ur]); grind)))⟩
          · refine px_ile rfl q_X4_closeBlock_88 hg rfl ⟨trivial, (by first | exact hw.1 | exact hw.2.1 | exact hw.2.2 | with_reducible assumption | decide | (refine ⟨?_, ?_⟩ <;> grind) | (simp only [px_ur]; refine ⟨?_, ?_⟩ <;> grind))⟩ (fun c95 => ?_) (fun c95 => ?_)
            · refine px_cVW (ci := 4) rfl q_X4_closeBlock_108 hg rfl ⟨⟨trivial, (by first | exact hw.1 | exact hw.2.1 | exact hw.2.2 | with_reducible assumption | decide | (refine ⟨?_, ?_⟩ <;> grind) | (simp only [px_ur]; refine ⟨?_, ?_⟩ <;> grind))⟩, (by first | exact hw.1 | exact hw.2.1 | exact hw.2.2 | with_reducible assumption | decide | (refine ⟨?_, ?_⟩ <;> grind) | (simp only [px_ur]; refine ⟨?_, ?_⟩ <;> grind))⟩ lk_4_145 nm_X4_addSteps (c_addSteps hg hw _ (show cRd w _ from (by repeat (first | exact hr | refine cRr.up ?_ (by unfold cOk; (try simp only [px_app, px_ur]); grind)) : cRr w I _).1)) rfl rfl (px_lit hg rfl) rfl rfl rfl ⟨rfl, rfl⟩ ?_
              intro I122 L122 h122
              obtain ⟨rfl, h122⟩ := h122
              replace hr : cRr w I I122 := cRr.trans (by repeat (first | exact hr | refine cRr.up ?_ (by unfold cOk; (try simp only [px_app, px_ur]); grind))) h122
              clear d0 d1 d2 d3 d4 d5 d6 d7 d8 d9
              obtain ⟨d0, d1, d2, d3, d4, d5, d6, d7, d8, d9⟩ := cRd.op hr.1
              refine px_rvW rfl q_X4_closeBlock_125 rfl rfl rfl hg rfl trivial ⟨⟨rfl, rfl⟩, ?_⟩
              exact ⟨rfl, (by repeat (first | exact hr | refine cRr.up ?_ (by unfold cOk; (try simp only [px_app, px_ur]); grind)))⟩
            · refine px_cVW (ci := 10) rfl q_X4_closeBlock_98 hg rfl trivial lk_4_142 nm_X10_add (c_add hg hw _ _ (by first | exact d8.1 | (simp only [px_ur]; grind))) rfl rfl hw.1 rfl rfl rfl ⟨rfl, rfl⟩ ?_
              intro I105 L105 h105
              obtain ⟨rfl, h105⟩ := h105
              replace hr : cRr w I I105 := cRr.add (by repeat (first | exact hr | refine cRr.up ?_ (by unfold cOk; (try simp only [px_app, px_ur]); grind))) h105 (by decide)
              clear d0 d1 d2 d3 d4 d5 d6 d7 d8 d9
              obtain ⟨d0, d1, d2, d3, d4, d5, d6, d7, d8, d9⟩ := cRd.op hr.1
              refine px_cVW (ci := 4) rfl q_X4_closeBlock_108 hg rfl ⟨⟨trivial, (by first | exact hw.1 | exact hw.2.1 | exact hw.2.2 | with_reducible assumption | decide | (refine ⟨?_, ?_⟩ <;> grind) | (simp only [px_ur]; refine ⟨?_, ?_⟩ <;> grind))⟩, (by first | exact hw.1 | exact hw.2.1 | exact hw.2.2 | with_reducible assumption | decide | (refine ⟨?_, ?_⟩ <;> grind) | (simp only [px_ur]; refine ⟨?_, ?_⟩ <;> grind))⟩ lk_4_145 nm_X4_addSteps (c_addSteps hg hw _ (show cRd w _ from (by repeat (first | exact hr | refine cRr.up ?_ (by unfold cOk; (try simp only [px_app, px_ur]); grind)) : cRr w I _).1)) rfl rfl (px_lit hg rfl) rfl rfl rfl ⟨rfl, rfl⟩ ?_
              intro I122 L122 h122
              obtain ⟨rfl, h122⟩ := h122
              replace hr : cRr w I I122 := cRr.trans (by repeat (first | exact hr | refine cRr.up ?_ (by unfold cOk; (try simp only [px_app, px_ur]); grind))) h122
              clear d0 d1 d2 d3 d4 d5 d6 d7 d8 d9
              obtain ⟨d0, d1, d2, d3, d4, d5, d6, d7, d8, d9⟩ := cRd.op hr.1
              refine px_rvW rfl q_X4_closeBlock_125 rfl rfl rfl hg rfl trivial ⟨⟨rfl, rfl⟩, ?_⟩
              exact ⟨rfl, (by repeat (first | exact hr | refine cRr.up ?_ (by unfold cOk; (try simp only [px_app, px_ur]); grind)))⟩
        · refine px_cVW (ci := 4) rfl q_X4_closeBlock_71 hg rfl trivial lk_4_162 nm_X4_closeDef (c_closeDef hg hw _ (by grind) (show cRd w _ from (by repeat (first | exact hr | refine cRr.up ?_ (by unfold cOk; (try simp only [px_app, px_ur]); grind)) : cRr w I _).1)) rfl rfl (px_lit hg rfl) rfl rfl rfl ⟨rfl, rfl⟩ ?_
          intro I73 L73 h73
          obtain ⟨rfl, h73⟩ := h73
          replace hr : cRr w I I73 := cRr.trans (by repeat (first | exact hr | refine cRr.up ?_ (by unfold cOk; (try simp only [px_app, px_ur]); grind))) h73
          clear d0 d1 d2 d3 d4 d5 d6 d7 d8 d9
          obtain ⟨d0, d1, d2, d3, d4, d5, d6, d7, d8, d9⟩ := cRd.op hr.1
          refine px_rvW rfl q_X4_closeBlock_76 rfl rfl rfl hg rfl trivial ⟨⟨rfl, rfl⟩, ?_⟩
          exact ⟨rfl, (by repeat (first | exact hr | refine cRr.up ?_ (by unfold cOk; (try simp only [px_app, px_ur]); grind)))⟩
    · refine px_ne rfl q_X4_closeBlock_43 hg rfl ⟨⟨trivial, (by first | exact hw.1 | exact hw.2.1 | exact hw.2.2 | with_reducible assumption | decide | (refine ⟨?_, ?_⟩ <;> grind) | (simp only [px_ur]; refine ⟨?_, ?_⟩ <;> grind))⟩, (by first | exact hw.1 | exact hw.2.1 | exact hw.2.2 | with_reducible assumption | decide | (refine ⟨?_, ?_⟩ <;> grind) | (simp only [px_ur]; refine ⟨?_, ?_⟩ <;> grind))⟩ (fun c60 => ?_) (fun c60 => ?_)
      · refine px_le rfl q_X4_closeBlock_79 hg rfl ⟨trivial, (by first | exact hw.1 | exact hw.2.1 | exact hw.2.2 | with_reducible assumption | decide | (refine ⟨?_, ?_⟩ <;> grind) | (simp only [px_ur]; refine ⟨?_, ?_⟩ <;> grind))⟩ (fun c85 => ?_) (fun c85 => ?_)
        · refine px_rvW rfl q_X4_closeBlock_125 rfl rfl rfl hg rfl trivial ⟨⟨rfl, rfl⟩, ?_⟩
          exact ⟨rfl, (by repeat (first | exact hr | refine cRr.up ?_ (by unfold cOk; (try simp only [px_app, px_ur]); grind)))⟩
        · refine px_ile rfl q_X4_closeBlock_88 hg rfl ⟨trivial, (by first | exact hw.1 | exact hw.2.1 | exact hw.2.2 | with_reducible assumption | decide | (refine ⟨?_, ?_⟩ <;> grind) | (simp only [px_ur]; refine ⟨?_, ?_⟩ <;> grind))⟩ (fun c95 => ?_) (fun c95 => ?_)
          · refine px_cVW (ci := 4) rfl q_X4_closeBlock_108 hg rfl ⟨⟨trivial, (by first | exact hw.1 | exact hw.2.1 | exact hw.2.2 | with_reducible assumption | decide | (refine ⟨?_, ?_⟩ <;> grind) | (simp only [px_ur]; refine ⟨?_, ?_⟩ <;> grind))⟩, (by first | exact hw.1 | exact hw.2.1 | exact hw.2.2 | with_reducible assumption | decide | (refine ⟨?_, ?_⟩ <;> grind) | (simp only [px_ur]; refine ⟨?_, ?_⟩ <;> grind))⟩ lk_4_145 nm_X4_addSteps (c_addSteps hg hw _ (show cRd w _ from (by repeat (first | exact hr | refine cRr.up ?_ (by unfold cOk; (try simp only [px_app, px_ur]); grind)) : cRr w I _).1)) rfl rfl (px_lit hg rfl) rfl rfl rfl ⟨rfl, rfl⟩ ?_
            intro I122 L122 h122
            obtain ⟨rfl, h122⟩ := h122
            replace hr : cRr w I I122 := cRr.trans (by repeat (first | exact hr | refine cRr.up ?_ (by unfold cOk; (try simp only [px_app, px_ur]); grind))) h122
            clear d0 d1 d2 d3 d4 d5 d6 d7 d8 d9
            obtain ⟨d0, d1, d2, d3, d4, d5, d6, d7, d8, d9⟩ := cRd.op hr.1
            refine px_rvW rfl q_X4_closeBlock_125 rfl rfl rfl hg rfl trivial ⟨⟨rfl, rfl⟩, ?_⟩
            exact ⟨rfl, (by repeat (first | exact hr | refine cRr.up ?_ (by unfold cOk; (try simp only [px_app, px_ur]); grind)))⟩
          · refine px_cVW (ci := 10) rfl q_X4_closeBlock_98 hg rfl trivial lk_4_142 nm_X10_add (c_add hg hw _ _ (by first | exact d8.1 | (simp only [px_ur]; grind))) rfl rfl hw.1 rfl rfl rfl ⟨rfl, rfl⟩ ?_
            intro I105 L105 h105
            obtain ⟨rfl, h105⟩ := h105
            replace hr : cRr w I I105 := cRr.add (by repeat (first | exact hr | refine cRr.up ?_ (by unfold cOk; (try simp only [px_app, px_ur]); grind))) h105 (by decide)
            clear d0 d1 d2 d3 d4 d5 d6 d7 d8 d9
            obtain ⟨d0, d1, d2, d3, d4, d5, d6, d7, d8, d9⟩ := cRd.op hr.1
            refine px_cVW (ci := 4) rfl q_X4_closeBlock_108 hg rfl ⟨⟨trivial, (by first | exact hw.1 | exact hw.2.1 | exact hw.2.2 | with_reducible assumption | decide | (refine ⟨?_, ?_⟩ <;> grind) | (simp only [px_ur]; refine ⟨?_, ?_⟩ <;> grind))⟩, (by first | exact hw.1 | exact hw.2.1 | exact hw.2.2 | with_reducible assumption | decide | (refine ⟨?_, ?_⟩ <;> grind) | (simp only [px_ur]; refine ⟨?_, ?_⟩ <;> grind))⟩ lk_4_145 nm_X4_addSteps (c_addSteps hg hw _ (show cRd w _ from (by repeat (first | exact hr | refine cRr.up ?_ (by unfold cOk; (try simp only [px_app, px_ur]); grind)) : cRr w I _).1)) rfl rfl (px_lit hg rfl) rfl rfl rfl ⟨rfl, rfl⟩ ?_
            intro I122 L122 h122
            obtain ⟨rfl, h122⟩ := h122
            replace hr : cRr w I I122 := cRr.trans (by repeat (first | exact hr | refine cRr.up ?_ (by unfold cOk; (try simp only [px_app, px_ur]); grind))) h122
            clear d0 d1 d2 d3 d4 d5 d6 d7 d8 d9
            obtain ⟨d0, d1, d2, d3, d4, d5, d6, d7, d8, d9⟩ := cRd.op hr.1
            refine px_rvW rfl q_X4_closeBlock_125 rfl rfl rfl hg rfl trivial ⟨⟨rfl, rfl⟩, ?_⟩
            exact ⟨rfl, (by repeat (first | exact hr | refine cRr.up ?_ (by unfold cOk; (try simp only [px_app, px_ur]); grind)))⟩
      · refine px_ieq rfl q_X4_closeBlock_63 hg rfl trivial (fun c68 => ?_) (fun c68 => ?_)
        · refine px_le rfl q_X4_closeBlock_79 hg rfl ⟨trivial, (by first | exact hw.1 | exact hw.2.1 | exact hw.2.2 | with_reducible assumption | decide | (refine ⟨?_, ?_⟩ <;> grind) | (simp only [px_ur]; refine ⟨?_, ?_⟩ <;> grind))⟩ (fun c85 => ?_) (fun c85 => ?_)
          · refine px_rvW rfl q_X4_closeBlock_125 rfl rfl rfl hg rfl trivial ⟨⟨rfl, rfl⟩, ?_⟩
            exact ⟨rfl, (by repeat (first | exact hr | refine cRr.up ?_ (by unfold cOk; (try simp only [px_app, px_ur]); grind)))⟩
          · refine px_ile rfl q_X4_closeBlock_88 hg rfl ⟨trivial, (by first | exact hw.1 | exact hw.2.1 | exact hw.2.2 | with_reducible assumption | decide | (refine ⟨?_, ?_⟩ <;> grind) | (simp only [px_ur]; refine ⟨?_, ?_⟩ <;> grind))⟩ (fun c95 => ?_) (fun c95 => ?_)
            · refine px_cVW (ci := 4) rfl q_X4_closeBlock_108 hg rfl ⟨⟨trivial, (by first | exact hw.1 | exact hw.2.1 | exact hw.2.2 | with_reducible assumption | decide | (refine ⟨?_, ?_⟩ <;> grind) | (simp only [px_ur]; refine ⟨?_, ?_⟩ <;> grind))⟩, (by first | exact hw.1 | exact hw.2.1 | exact hw.2.2 | with_reducible assumption | decide | (refine ⟨?_, ?_⟩ <;> grind) | (simp only [px_ur]; refine ⟨?_, ?_⟩ <;> grind))⟩ lk_4_145 nm_X4_addSteps (c_addSteps hg hw _ (show cRd w _ from (by repeat (first | exact hr | refine cRr.up ?_ (by unfold cOk; (try simp only [px_app, px_ur]); grind)) : cRr w I _).1)) rfl rfl (px_lit hg rfl) rfl rfl rfl ⟨rfl, rfl⟩ ?_
              intro I122 L122 h122
              obtain ⟨rfl, h122⟩ := h122
              replace hr : cRr w I I122 := cRr.trans (by repeat (first | exact hr | refine cRr.up ?_ (by unfold cOk; (try simp only [px_app, px_ur]); grind))) h122
              clear d0 d1 d2 d3 d4 d5 d6 d7 d8 d9
              obtain ⟨d0, d1, d2, d3, d4, d5, d6, d7, d8, d9⟩ := cRd.op hr.1
              refine px_rvW rfl q_X4_closeBlock_125 rfl rfl rfl hg rfl trivial ⟨⟨rfl, rfl⟩, ?_⟩
              exact ⟨rfl, (by repeat (first | exact hr | refine cRr.up ?_ (by unfold cOk; (try simp only [px_app, px_ur]); grind)))⟩
            · refine px_cVW (ci := 10) rfl q_X4_closeBlock_98 hg rfl trivial lk_4_142 nm_X10_add (c_add hg hw _ _ (by first | exact d8.1 | (simp only [px_ur]; grind))) rfl rfl hw.1 rfl rfl rfl ⟨rfl, rfl⟩ ?_
              intro I105 L105 h105
              obtain ⟨rfl, h105⟩ := h105
              replace hr : cRr w I I105 := cRr.add (by repeat (first | exact hr | refine cRr.up ?_ (by unfold cOk; (try simp only [px_app, px_ur]); grind))) h105 (by decide)
              clear d0 d1 d2 d3 d4 d5 d6 d7 d8 d9
              obtain ⟨d0, d1, d2, d3, d4, d5, d6, d7, d8, d9⟩ := cRd.op hr.1
              refine px_cVW (ci := 4) rfl q_X4_closeBlock_108 hg rfl ⟨⟨trivial, (by first | exact hw.1 | exact hw.2.1 | exact hw.2.2 | with_reducible assumption | decide | (refine ⟨?_, ?_⟩ <;> grind) | (simp only [px_ur]; refine ⟨?_, ?_⟩ <;> grind))⟩, (by first | exact hw.1 | exact hw.2.1 | exact hw.2.2 | with_reducible assumption | decide | (refine ⟨?_, ?_⟩ <;> grind) | (simp only [px_ur]; refine ⟨?_, ?_⟩ <;> grind))⟩ lk_4_145 nm_X4_addSteps (c_addSteps hg hw _ (show cRd w _ from (by repeat (first | exact hr | refine cRr.up ?_ (by unfold cOk; (try simp only [px_app, px_ur]); grind)) : cRr w I _).1)) rfl rfl (px_lit hg rfl) rfl rfl rfl ⟨rfl, rfl⟩ ?_
              intro I122 L122 h122
              obtain ⟨rfl, h122⟩ := h122
              replace hr : cRr w I I122 := cRr.trans (by repeat (first | exact hr | refine cRr.up ?_ (by unfold cOk; (try simp only [px_app, px_ur]); grind))) h122
              clear d0 d1 d2 d3 d4 d5 d6 d7 d8 d9
              obtain ⟨d0, d1, d2, d3, d4, d5, d6, d7, d8, d9⟩ := cRd.op hr.1
              refine px_rvW rfl q_X4_closeBlock_125 rfl rfl rfl hg rfl trivial ⟨⟨rfl, rfl⟩, ?_⟩
              exact ⟨rfl, (by repeat (first | exact hr | refine cRr.up ?_ (by unfold cOk; (try simp only [px_app, px_ur]); grind)))⟩
        · refine px_cVW (ci := 4) rfl q_X4_closeBlock_71 hg rfl trivial lk_4_162 nm_X4_closeDef (c_closeDef hg hw _ (by grind) (show cRd w _ from (by repeat (first | exact hr | refine cRr.up ?_ (by unfold cOk; (try simp only [px_app, px_ur]); grind)) : cRr w I _).1)) rfl rfl (px_lit hg rfl) rfl rfl rfl ⟨rfl, rfl⟩ ?_
          intro I73 L73 h73
          obtain ⟨rfl, h73⟩ := h73
          replace hr : cRr w I I73 := cRr.trans (by repeat (first | exact hr | refine cRr.up ?_ (by unfold cOk; (try simp only [px_app, px_ur]); grind))) h73
          clear d0 d1 d2 d3 d4 d5 d6 d7 d8 d9
          obtain ⟨d0, d1, d2, d3, d4, d5, d6, d7, d8, d9⟩ := cRd.op hr.1
          refine px_rvW rfl q_X4_closeBlock_76 rfl rfl rfl hg rfl trivial ⟨⟨rfl, rfl⟩, ?_⟩
          exact ⟨rfl, (by repeat (first | exact hr | refine cRr.up ?_ (by unfold cOk; (try simp only [px_app, px_ur]); grind)))⟩
  · replace h7 := px_bf h7 c10
    refine px_cVW (ci := 4) rfl q_X4_closeBlock_13 hg rfl trivial lk_4_86 nm_X4_fail (c_fail hg hw _ (show cRd w _ from (by repeat (first | exact hr | refine cRr.up ?_ (by unfold cOk; (try simp only [px_app, px_ur]); grind)) : cRr w I _).1)) rfl rfl (px_lit hg rfl) rfl rfl rfl ⟨rfl, rfl⟩ ?_
    intro I15 L15 h15
    obtain ⟨rfl, h15⟩ := h15
    replace hr : cRr w I I15 := cRr.trans (by repeat (first | exact hr | refine cRr.up ?_ (by unfold cOk; (try simp only [px_app, px_ur]); grind))) h15
    clear d0 d1 d2 d3 d4 d5 d6 d7 d8 d9
    obtain ⟨d0, d1, d2, d3, d4, d5, d6, d7, d8, d9⟩ := cRd.op hr.1
    refine px_rvW rfl q_X4_closeBlock_18 rfl rfl rfl hg rfl trivial ⟨⟨rfl, rfl⟩, ?_⟩
    exact ⟨rfl, (by repeat (first | exact hr | refine cRr.up ?_ (by unfold cOk; (try simp only [px_app, px_ur]); grind)))⟩

theorem q_X4_readPart_0 : px_bk 4 1 cX4_readPart 0 [(.aload_n 0, (0, 0, 0, 0, 0), 0, 0), (.getfield 34, (4, 7, 0, 0, 0), 0, 0)] = some 4 ∧ px_t1 cX4_readPart 4 .ne 17 = true := by decide +kernel
theorem q_X4_readPart_17 : px_bk 4 1 cX4_readPart 17 [(.aload_n 0, (0, 0, 0, 0, 0), 0, 0), (.getfield 64, (4, 0, 3, 70, 0), 0, 0), (.aload_n 0, (0, 0, 0, 0, 0), 0, 0), (.getfield 41, (4, 9, 0, 0, 0), 0, 0)] = some 25 := by decide +kernel
theorem q_X4_readPart_27 : px_bk 4 1 cX4_readPart 27 [] = some 27 ∧ px_tv cX4_readPart 27 98 = true := by decide +kernel
theorem q_X4_readPart_30 : px_bk 4 1 cX4_readPart 30 [] = some 30 ∧ px_t1 cX4_readPart 30 .eq 45 = true := by decide +kernel
theorem q_X4_readPart_45 : px_bk 4 1 cX4_readPart 45 [(.aload_n 0, (0, 0, 0, 0, 0), 0, 0), (.getfield 64, (4, 0, 3, 70, 0), 0, 0), (.aload_n 0, (0, 0, 0, 0, 0), 0, 0), (.getfield 41, (4, 9, 0, 0, 0), 0, 0)] = some 53 := by decide +kernel
theorem q_X4_readPart_55 : px_bk 4 1 cX4_readPart 55 [] = some 55 ∧ px_tv cX4_readPart 55 98 = true := by decide +kernel
theorem q_X4_readPart_58 : px_bk 4 1 cX4_readPart 58 [] = some 58 ∧ px_t1 cX4_readPart 58 .eq 72 = true := by decide +kernel
theorem q_X4_readPart_72 : px_bk 4 1 cX4_readPart 72 [(.aload_n 0, (0, 0, 0, 0, 0), 0, 0), (.getfield 64, (4, 0, 3, 70, 0), 0, 0), (.aload_n 0, (0, 0, 0, 0, 0), 0, 0), (.getfield 41, (4, 9, 0, 0, 0), 0, 0)] = some 80 := by decide +kernel
theorem q_X4_readPart_82 : px_bk 4 1 cX4_readPart 82 [] = some 82 ∧ px_tv cX4_readPart 82 98 = true := by decide +kernel
theorem q_X4_readPart_85 : px_bk 4 1 cX4_readPart 85 [] = some 85 ∧ px_t1 cX4_readPart 85 .eq 99 = true := by decide +kernel
theorem q_X4_readPart_99 : px_bk 4 1 cX4_readPart 99 [(.aload_n 0, (0, 0, 0, 0, 0), 0, 0), (.getfield 64, (4, 0, 3, 70, 0), 0, 0), (.aload_n 0, (0, 0, 0, 0, 0), 0, 0), (.getfield 41, (4, 9, 0, 0, 0), 0, 0)] = some 107 := by decide +kernel
theorem q_X4_readPart_109 : px_bk 4 1 cX4_readPart 109 [] = some 109 ∧ px_tv cX4_readPart 109 98 = true := by decide +kernel
theorem q_X4_readPart_112 : px_bk 4 1 cX4_readPart 112 [] = some 112 ∧ px_t1 cX4_readPart 112 .eq 126 = true := by decide +kernel
theorem q_X4_readPart_126 : px_bk 4 1 cX4_readPart 126 [(.aload_n 0, (0, 0, 0, 0, 0), 0, 0), (.getfield 64, (4, 0, 3, 70, 0), 0, 0), (.aload_n 0, (0, 0, 0, 0, 0), 0, 0), (.getfield 41, (4, 9, 0, 0, 0), 0, 0)] = some 134 := by decide +kernel
theorem q_X4_readPart_136 : px_bk 4 1 cX4_readPart 136 [] = some 136 ∧ px_tv cX4_readPart 136 98 = true := by decide +kernel
theorem q_X4_readPart_139 : px_bk 4 1 cX4_readPart 139 [] = some 139 ∧ px_t1 cX4_readPart 139 .eq 150 = true := by decide +kernel
theorem q_X4_readPart_150 : px_bk 4 1 cX4_readPart 150 [(.aload_n 0, (0, 0, 0, 0, 0), 0, 0), (.getfield 64, (4, 0, 3, 70, 0), 0, 0), (.aload_n 0, (0, 0, 0, 0, 0), 0, 0), (.getfield 41, (4, 9, 0, 0, 0), 0, 0)] = some 158 := by decide +kernel
theorem q_X4_readPart_160 : px_bk 4 1 cX4_readPart 160 [] = some 160 ∧ px_tv cX4_readPart 160 98 = true := by decide +kernel
theorem q_X4_readPart_163 : px_bk 4 1 cX4_readPart 163 [] = some 163 ∧ px_t1 cX4_readPart 163 .eq 174 = true := by decide +kernel
theorem q_X4_readPart_174 : px_bk 4 1 cX4_readPart 174 [(.aload_n 0, (0, 0, 0, 0, 0), 0, 0), (.getfield 64, (4, 0, 3, 70, 0), 0, 0), (.aload_n 0, (0, 0, 0, 0, 0), 0, 0), (.getfield 41, (4, 9, 0, 0, 0), 0, 0)] = some 182 := by decide +kernel
theorem q_X4_readPart_184 : px_bk 4 1 cX4_readPart 184 [] = some 184 ∧ px_tv cX4_readPart 184 98 = true := by decide +kernel
theorem q_X4_readPart_187 : px_bk 4 1 cX4_readPart 187 [] = some 187 ∧ px_t1 cX4_readPart 187 .eq 197 = true := by decide +kernel
theorem q_X4_readPart_197 : px_bk 4 1 cX4_readPart 197 [(.aload_n 0, (0, 0, 0, 0, 0), 0, 0), (.getfield 64, (4, 0, 3, 70, 0), 0, 0), (.aload_n 0, (0, 0, 0, 0, 0), 0, 0), (.getfield 41, (4, 9, 0, 0, 0), 0, 0)] = some 205 := by decide +kernel
theorem q_X4_readPart_207 : px_bk 4 1 cX4_readPart 207 [] = some 207 ∧ px_tv cX4_readPart 207 98 = true := by decide +kernel
theorem q_X4_readPart_210 : px_bk 4 1 cX4_readPart 210 [] = some 210 ∧ px_t1 cX4_readPart 210 .eq 220 = true := by decide +kernel
theorem q_X4_readPart_220 : px_bk 4 1 cX4_readPart 220 [(.aload_n 0, (0, 0, 0, 0, 0), 0, 0), (.getfield 64, (4, 0, 3, 70, 0), 0, 0), (.aload_n 0, (0, 0, 0, 0, 0), 0, 0), (.getfield 41, (4, 9, 0, 0, 0), 0, 0)] = some 228 := by decide +kernel
theorem q_X4_readPart_230 : px_bk 4 1 cX4_readPart 230 [] = some 230 ∧ px_tv cX4_readPart 230 98 = true := by decide +kernel
theorem q_X4_readPart_233 : px_bk 4 1 cX4_readPart 233 [] = some 233 ∧ px_t1 cX4_readPart 233 .eq 250 = true := by decide +kernel
theorem q_X4_readPart_250 : px_bk 4 1 cX4_readPart 250 [(.aload_n 0, (0, 0, 0, 0, 0), 0, 0), (.iconst 1, (0, 0, 0, 0, 0), 1, 0)] = some 252 ∧ px_tv cX4_readPart 252 86 = true := by decide +kernel
theorem q_X4_readPart_255 : px_bk 4 1 cX4_readPart 255 [] = some 255 ∧ px_tr cX4_readPart 255 .return_ = true := by decide +kernel
theorem q_X4_readPart_236 : px_bk 4 1 cX4_readPart 236 [(.aload_n 0, (0, 0, 0, 0, 0), 0, 0), (.getfield 34, (4, 7, 0, 0, 0), 0, 0)] = some 240 ∧ px_t1 cX4_readPart 240 .ne 250 = true := by decide +kernel
theorem q_X4_readPart_243 : px_bk 4 1 cX4_readPart 243 [(.aload_n 0, (0, 0, 0, 0, 0), 0, 0)] = some 244 ∧ px_tv cX4_readPart 244 132 = true := by decide +kernel
theorem q_X4_readPart_247 : px_bk 4 1 cX4_readPart 247 [(.goto 8, (0, 0, 0, 0, 0), 0, 0)] = some 255 ∧ px_tr cX4_readPart 255 .return_ = true := by decide +kernel
theorem q_X4_readPart_213 : px_bk 4 1 cX4_readPart 213 [(.aload_n 0, (0, 0, 0, 0, 0), 0, 0)] = some 214 ∧ px_tv cX4_readPart 214 127 = true := by decide +kernel
theorem q_X4_readPart_217 : px_bk 4 1 cX4_readPart 217 [(.goto 38, (0, 0, 0, 0, 0), 0, 0)] = some 255 ∧ px_tr cX4_readPart 255 .return_ = true := by decide +kernel
theorem q_X4_readPart_190 : px_bk 4 1 cX4_readPart 190 [(.aload_n 0, (0, 0, 0, 0, 0), 0, 0)] = some 191 ∧ px_tv cX4_readPart 191 122 = true := by decide +kernel
theorem q_X4_readPart_194 : px_bk 4 1 cX4_readPart 194 [(.goto 61, (0, 0, 0, 0, 0), 0, 0)] = some 255 ∧ px_tr cX4_readPart 255 .return_ = true := by decide +kernel
theorem q_X4_readPart_166 : px_bk 4 1 cX4_readPart 166 [(.aload_n 0, (0, 0, 0, 0, 0), 0, 0), (.iconst 5, (0, 0, 0, 0, 0), 5, 0)] = some 168 ∧ px_tv cX4_readPart 168 115 = true := by decide +kernel
theorem q_X4_readPart_171 : px_bk 4 1 cX4_readPart 171 [(.goto 84, (0, 0, 0, 0, 0), 0, 0)] = some 255 ∧ px_tr cX4_readPart 255 .return_ = true := by decide +kernel
theorem q_X4_readPart_142 : px_bk 4 1 cX4_readPart 142 [(.aload_n 0, (0, 0, 0, 0, 0), 0, 0), (.iconst 4, (0, 0, 0, 0, 0), 4, 0)] = some 144 ∧ px_tv cX4_readPart 144 115 = true := by decide +kernel
theorem q_X4_readPart_147 : px_bk 4 1 cX4_readPart 147 [(.goto 108, (0, 0, 0, 0, 0), 0, 0)] = some 255 ∧ px_tr cX4_readPart 255 .return_ = true := by decide +kernel
theorem q_X4_readPart_115 : px_bk 4 1 cX4_readPart 115 [(.aload_n 0, (0, 0, 0, 0, 0), 0, 0), (.iconst 3, (0, 0, 0, 0, 0), 3, 0), (.iconst 0, (0, 0, 0, 0, 0), 0, 0), (.ldc 110, (0, 0, 0, 0, 0), 100000, 0)] = some 120 ∧ px_tv cX4_readPart 120 102 = true := by decide +kernel
theorem q_X4_readPart_123 : px_bk 4 1 cX4_readPart 123 [(.goto 132, (0, 0, 0, 0, 0), 0, 0)] = some 255 ∧ px_tr cX4_readPart 255 .return_ = true := by decide +kernel
theorem q_X4_readPart_88 : px_bk 4 1 cX4_readPart 88 [(.aload_n 0, (0, 0, 0, 0, 0), 0, 0), (.iconst 2, (0, 0, 0, 0, 0), 2, 0), (.iconst 0, (0, 0, 0, 0, 0), 0, 0), (.ldc 110, (0, 0, 0, 0, 0), 100000, 0)] = some 93 ∧ px_tv cX4_readPart 93 102 = true := by decide +kernel
theorem q_X4_readPart_96 : px_bk 4 1 cX4_readPart 96 [(.goto 159, (0, 0, 0, 0, 0), 0, 0)] = some 255 ∧ px_tr cX4_readPart 255 .return_ = true := by decide +kernel
theorem q_X4_readPart_61 : px_bk 4 1 cX4_readPart 61 [(.aload_n 0, (0, 0, 0, 0, 0), 0, 0), (.iconst 1, (0, 0, 0, 0, 0), 1, 0), (.iconst 1, (0, 0, 0, 0, 0), 1, 0), (.bipush 15, (0, 0, 0, 0, 0), 15, 0)] = some 66 ∧ px_tv cX4_readPart 66 102 = true := by decide +kernel
theorem q_X4_readPart_69 : px_bk 4 1 cX4_readPart 69 [(.goto 186, (0, 0, 0, 0, 0), 0, 0)] = some 255 ∧ px_tr cX4_readPart 255 .return_ = true := by decide +kernel
theorem q_X4_readPart_33 : px_bk 4 1 cX4_readPart 33 [(.aload_n 0, (0, 0, 0, 0, 0), 0, 0), (.iconst 0, (0, 0, 0, 0, 0), 0, 0), (.iconst 1, (0, 0, 0, 0, 0), 1, 0), (.sipush 9999, (0, 0, 0, 0, 0), 9999, 0)] = some 39 ∧ px_tv cX4_readPart 39 102 = true := by decide +kernel
theorem q_X4_readPart_42 : px_bk 4 1 cX4_readPart 42 [(.goto 213, (0, 0, 0, 0, 0), 0, 0)] = some 255 ∧ px_tr cX4_readPart 255 .return_ = true := by decide +kernel
theorem q_X4_readPart_7 : px_bk 4 1 cX4_readPart 7 [(.aload_n 0, (0, 0, 0, 0, 0), 0, 0), (.dup, (0, 0, 0, 0, 0), 0, 0), (.getfield 55, (4, 13, 0, 0, 0), 0, 0), (.iconst 1, (0, 0, 0, 0, 0), 1, 0), (.iadd, (0, 0, 0, 0, 0), 0, 0), (.putfield 55, (4, 13, 0, 0, 0), 0, 0), (.aload_n 0, (0, 0, 0, 0, 0), 0, 0), (.getfield 64, (4, 0, 3, 70, 0), 0, 0), (.aload_n 0, (0, 0, 0, 0, 0), 0, 0), (.getfield 41, (4, 9, 0, 0, 0), 0, 0)] = some 25 := by decide +kernel
set_option maxRecDepth 100000 in
theorem c_readPart {n : Nat} {I : px_I} {L : px_L} {R : px_R} {w : Nat} (hg : px_G n (cRW R w)) (hw : cWay n w) (hd : cRd w I) : px_KV M_X4_readPart [.ref 76] n I L (cRW R w) (fun I2 L2 => L2 = L ∧ cRr w I I2) := by
  refine px_of (plainFor_of_name np_RX4) (fun _ _ _ => trivial) rfl ?_
  have hr := cRr.rfl' hd
  obtain ⟨d0, d1, d2, d3, d4, d5, d6, d7, d8, d9⟩ := cRd.op hd
  refine px_ne rfl q_X4_readPart_0 hg rfl trivial (fun c4 => ?_) (fun c4 => ?_)
  · refine px_b rfl q_X4_readPart_17 hg rfl trivial ?_
    refine px_ldS (i := 0) (by decide) rfl (by decide +kernel) ?_
    refine px_cVP (ci := 8) rfl q_X4_readPart_27 hg rfl trivial lk_4_98 nm_X8_isWord (c_isWord hg _ _ (by decide) (by first | exact d1 | (simp only [px_ur]; grind))) rfl rfl (px_lit hg rfl) rfl rfl rfl ⟨rfl, rfl⟩ ?_
    intro x27 h27
    refine px_eq rfl q_X4_readPart_30 hg rfl trivial (fun c30 => ?_) (fun c30 => ?_)
    · refine px_b rfl q_X4_readPart_45 hg rfl trivial ?_
      refine px_ldS (i := 1) (by decide) rfl (by decide +kernel) ?_
      refine px_cVP (ci := 8) rfl q_X4_readPart_55 hg rfl trivial lk_4_98 nm_X8_isWord (c_isWord hg _ _ (by decide) (by first | exact d1 | (simp only [px_ur]; grind))) rfl rfl (px_lit hg rfl) rfl rfl rfl ⟨rfl, rfl⟩ ?_
      intro x55 h55
      refine px_eq rfl q_X4_readPart_58 hg rfl trivial (fun c58 => ?_) (fun c58 => ?_)
      · refine px_b rfl q_X4_readPart_72 hg rfl trivial ?_
        refine px_ldS (i := 2) (by decide) rfl (by decide +kernel) ?_
        refine px_cVP (ci := 8) rfl q_X4_readPart_82 hg rfl trivial lk_4_98 nm_X8_isWord (c_isWord hg _ _ (by decide) (by first | exact d1 | (simp only [px_ur]; grind))) rfl rfl (px_lit hg rfl) rfl rfl rfl ⟨rfl, rfl⟩ ?_
        intro x82 h82
        refine px_eq rfl q_X4_readPart_85 hg rfl trivial (fun c85 => ?_) (fun c85 => ?_)
        · refine px_b rfl q_X4_readPart_99 hg rfl trivial ?_
          refine px_ldS (i := 3) (by decide) rfl (by decide +kernel) ?_
          refine px_cVP (ci := 8) rfl q_X4_readPart_109 hg rfl trivial lk_4_98 nm_X8_isWord (c_isWord hg _ _ (by decide) (by first | exact d1 | (simp only [px_ur]; grind))) rfl rfl (px_lit hg rfl) rfl rfl rfl ⟨rfl, rfl⟩ ?_
          intro x109 h109
          refine px_eq rfl q_X4_readPart_112 hg rfl trivial (fun c112 => ?_) (fun c112 => ?_)
          · refine px_b rfl q_X4_readPart_126 hg rfl trivial ?_
            refine px_ldS (i := 4) (by decide) rfl (by decide +kernel) ?_
            refine px_cVP (ci := 8) rfl q_X4_readPart_136 hg rfl trivial lk_4_98 nm_X8_isWord (c_isWord hg _ _ (by decide) (by first | exact d1 | (simp only [px_ur]; grind))) rfl rfl (px_lit hg rfl) rfl rfl rfl ⟨rfl, rfl⟩ ?_
            intro x136 h136
            refine px_eq rfl q_X4_readPart_139 hg rfl trivial (fun c139 => ?_) (fun c139 => ?_)
            · refine px_b rfl q_X4_readPart_150 hg rfl trivial ?_
              refine px_ldS (i := 5) (by decide) rfl (by decide +kernel) ?_
              refine px_cVP (ci := 8) rfl q_X4_readPart_160 hg rfl trivial lk_4_98 nm_X8_isWord (c_isWord hg _ _ (by decide) (by first | exact d1 | (simp only [px_ur]; grind))) rfl rfl (px_lit hg rfl) rfl rfl rfl ⟨rfl, rfl⟩ ?_
              intro x160 h160
              refine px_eq rfl q_X4_readPart_163 hg rfl trivial (fun c163 => ?_) (fun c163 => ?_)
              · refine px_b rfl q_X4_readPart_174 hg rfl trivial ?_
                refine px_ldS (i := 6) (by decide) rfl (by decide +kernel) ?_
                refine px_cVP (ci := 8) rfl q_X4_readPart_184 hg rfl trivial lk_4_98 nm_X8_isWord (c_isWord hg _ _ (by decide) (by first | exact d1 | (simp only [px_ur]; grind))) rfl rfl (px_lit hg rfl) rfl rfl rfl ⟨rfl, rfl⟩ ?_
                intro x184 h184
                refine px_eq rfl q_X4_readPart_187 hg rfl trivial (fun c187 => ?_) (fun c187 => ?_)
                · refine px_b rfl q_X4_readPart_197 hg rfl trivial ?_
                  refine px_ldS (i := 7) (by decide) rfl (by decide +kernel) ?_
                  refine px_cVP (ci := 8) rfl q_X4_readPart_207 hg rfl trivial lk_4_98 nm_X8_isWord (c_isWord hg _ _ (by decide) (by first | exact d1 | (simp only [px_ur]; grind))) rfl rfl (px_lit hg rfl) rfl rfl rfl ⟨rfl, rfl⟩ ?_
                  intro x207 h207
                  refine px_eq rfl q_X4_readPart_210 hg rfl trivial (fun c210 => ?_) (fun c210 => ?_)
                  · refine px_b rfl q_X4_readPart_220 hg rfl trivial ?_
                    refine px_ldS (i := 8) (by decide) rfl (by decide +kernel) ?_
                    refine px_cVP (ci := 8) rfl q_X4_readPart_230 hg rfl trivial lk_4_98 nm_X8_isWord (c_isWord hg _ _ (by decide) (by first | exact d1 | (simp only [px_ur]; grind))) rfl rfl (px_lit hg rfl) rfl rfl rfl ⟨rfl, rfl⟩ ?_
                    intro x230 h230
                    refine px_eq rfl q_X4_readPart_233 hg rfl trivial (fun c233 => ?_) (fun c233 => ?_)
                    · refine px_cVW (ci := 4) rfl q_X4_readPart_250 hg rfl trivial lk_4_86 nm_X4_fail (c_fail hg hw _ (show cRd w _ from (by repeat (first | exact hr | refine cRr.up ?_ (by unfold cOk; (try simp only [px_app, px_ur]); grind)) : cRr w I _).1)) rfl rfl (px_lit hg rfl) rfl rfl rfl ⟨rfl, rfl⟩ ?_
                      intro I252 L252 h252
                      obtain ⟨rfl, h252⟩ := h252
                      replace hr : cRr w I I252 := cRr.trans (by repeat (first | exact hr | refine cRr.up ?_ (by unfold cOk; (try simp only [px_app, px_ur]); grind))) h252
                      clear d0 d1 d2 d3 d4 d5 d6 d7 d8 d9
                      obtain ⟨d0, d1, d2, d3, d4, d5, d6, d7, d8, d9⟩ := cRd.op hr.1
                      refine px_rvW rfl q_X4_readPart_255 rfl rfl rfl hg rfl trivial ⟨⟨rfl, rfl⟩, ?_⟩
                      exact ⟨rfl, (by repeat (first | exact hr | refine cRr.up ?_ (by unfold cOk; (try simp only [px_app, px_ur]); grind)))⟩
                    · refine px_ne rfl q_X4_readPart_236 hg rfl trivial (fun c240 => ?_) (fun c240 => ?_)
                      · refine px_cVW (ci := 4) rfl q_X4_readPart_250 hg rfl trivial lk_4_86 nm_X4_fail (c_fail hg hw _ (show cRd w _ from (by repeat (first | exact hr | refine cRr.up ?_ (by unfold cOk; (try simp only [px_app, px_ur]); grind)) : cRr w I _).1)) rfl rfl (px_lit hg rfl) rfl rfl rfl ⟨rfl, rfl⟩ ?_
                        intro I252 L252 h252
                        obtain ⟨rfl, h252⟩ := h252
                        replace hr : cRr w I I252 := cRr.trans (by repeat (first | exact hr | refine cRr.up ?_ (by unfold cOk; (try simp only [px_app, px_ur]); grind))) h252
                        clear d0 d1 d2 d3 d4 d5 d6 d7 d8 d9
                        obtain ⟨d0, d1, d2, d3, d4, d5, d6, d7, d8, d9⟩ := cRd.op hr.1
                        refine px_rvW rfl q_X4_readPart_255 rfl rfl rfl hg rfl trivial ⟨⟨rfl, rfl⟩, ?_⟩
                        exact ⟨rfl, (by repeat (first | exact hr | refine cRr.up ?_ (by unfold cOk; (try simp only [px_app, px_ur]); grind)))⟩
                      · refine px_cVW (ci := 4) rfl q_X4_readPart_243 hg rfl trivial lk_4_132 nm_X4_readDef (c_readDef hg hw  (show cRd w _ from (by repeat (first | exact hr | refine cRr.up ?_ (by unfold cOk; (try simp only [px_app, px_ur]); grind)) : cRr w I _).1)) rfl rfl (px_lit hg rfl) rfl rfl rfl ⟨rfl, rfl⟩ ?_
                        intro I244 L244 h244
                        obtain ⟨rfl, h244⟩ := h244
                        replace hr : cRr w I I244 := cRr.trans (by repeat (first | exact hr | refine cRr.up ?_ (by unfold cOk; (try simp only [px_app, px_ur]); grind))) h244
                        clear d0 d1 d2 d3 d4 d5 d6 d7 d8 d9
                        obtain ⟨d0, d1, d2, d3, d4, d5, d6, d7, d8, d9⟩ := cRd.op hr.1
                        refine px_rvW rfl q_X4_readPart_247 rfl rfl rfl hg rfl trivial ⟨⟨rfl, rfl⟩, ?_⟩
                        exact ⟨rfl, (by repeat (first | exact hr | refine cRr.up ?_ (by unfold cOk; (try simp only [px_app, px_ur]); grind)))⟩
                  · refine px_cVW (ci := 4) rfl q_X4_readPart_213 hg rfl trivial lk_4_127 nm_X4_readRepeat (c_readRepeat hg hw  (show cRd w _ from (by repeat (first | exact hr | refine cRr.up ?_ (by unfold cOk; (try simp only [px_app, px_ur]); grind)) : cRr w I _).1)) rfl rfl (px_lit hg rfl) rfl rfl rfl ⟨rfl, rfl⟩ ?_
                    intro I214 L214 h214
                    obtain ⟨rfl, h214⟩ := h214
                    replace hr : cRr w I I214 := cRr.trans (by repeat (first | exact hr | refine cRr.up ?_ (by unfold cOk; (try simp only [px_app, px_ur]); grind))) h214
                    clear d0 d1 d2 d3 d4 d5 d6 d7 d8 d9
                    obtain ⟨d0, d1, d2, d3, d4, d5, d6, d7, d8, d9⟩ := cRd.op hr.1
                    refine px_rvW rfl q_X4_readPart_217 rfl rfl rfl hg rfl trivial ⟨⟨rfl, rfl⟩, ?_⟩
                    exact ⟨rfl, (by repeat (first | exact hr | refine cRr.up ?_ (by unfold cOk; (try simp only [px_app, px_ur]); grind)))⟩
                · refine px_cVW (ci := 4) rfl q_X4_readPart_190 hg rfl trivial lk_4_122 nm_X4_readDo (c_readDo hg hw  (show cRd w _ from (by repeat (first | exact hr | refine cRr.up ?_ (by unfold cOk; (try simp only [px_app, px_ur]); grind)) : cRr w I _).1)) rfl rfl (px_lit hg rfl) rfl rfl rfl ⟨rfl, rfl⟩ ?_
                  intro I191 L191 h191
                  obtain ⟨rfl, h191⟩ := h191
                  replace hr : cRr w I I191 := cRr.trans (by repeat (first | exact hr | refine cRr.up ?_ (by unfold cOk; (try simp only [px_app, px_ur]); grind))) h191
                  clear d0 d1 d2 d3 d4 d5 d6 d7 d8 d9
                  obtain ⟨d0, d1, d2, d3, d4, d5, d6, d7, d8, d9⟩ := cRd.op hr.1
                  refine px_rvW rfl q_X4_readPart_194 rfl rfl rfl hg rfl trivial ⟨⟨rfl, rfl⟩, ?_⟩
                  exact ⟨rfl, (by repeat (first | exact hr | refine cRr.up ?_ (by unfold cOk; (try simp only [px_app, px_ur]); grind)))⟩
              · refine px_cVW (ci := 4) rfl q_X4_readPart_166 hg rfl trivial lk_4_115 nm_X4_readBareStep (c_readBareStep hg hw _ (show cRd w _ from (by repeat (first | exact hr | refine cRr.up ?_ (by unfold cOk; (try simp only [px_app, px_ur]); grind)) : cRr w I _).1)) rfl rfl (px_lit hg rfl) rfl rfl rfl ⟨rfl, rfl⟩ ?_
                intro I168 L168 h168
                obtain ⟨rfl, h168⟩ := h168
                replace hr : cRr w I I168 := cRr.trans (by repeat (first | exact hr | refine cRr.up ?_ (by unfold cOk; (try simp only [px_app, px_ur]); grind))) h168
                clear d0 d1 d2 d3 d4 d5 d6 d7 d8 d9
                obtain ⟨d0, d1, d2, d3, d4, d5, d6, d7, d8, d9⟩ := cRd.op hr.1
                refine px_rvW rfl q_X4_readPart_171 rfl rfl rfl hg rfl trivial ⟨⟨rfl, rfl⟩, ?_⟩
                exact ⟨rfl, (by repeat (first | exact hr | refine cRr.up ?_ (by unfold cOk; (try simp only [px_app, px_ur]); grind)))⟩
            · refine px_cVW (ci := 4) rfl q_X4_readPart_142 hg rfl trivial lk_4_115 nm_X4_readBareStep (c_readBareStep hg hw _ (show cRd w _ from (by repeat (first | exact hr | refine cRr.up ?_ (by unfold cOk; (try simp only [px_app, px_ur]); grind)) : cRr w I _).1)) rfl rfl (px_lit hg rfl) rfl rfl rfl ⟨rfl, rfl⟩ ?_
              intro I144 L144 h144
              obtain ⟨rfl, h144⟩ := h144
              replace hr : cRr w I I144 := cRr.trans (by repeat (first | exact hr | refine cRr.up ?_ (by unfold cOk; (try simp only [px_app, px_ur]); grind))) h144
              clear d0 d1 d2 d3 d4 d5 d6 d7 d8 d9
              obtain ⟨d0, d1, d2, d3, d4, d5, d6, d7, d8, d9⟩ := cRd.op hr.1
              refine px_rvW rfl q_X4_readPart_147 rfl rfl rfl hg rfl trivial ⟨⟨rfl, rfl⟩, ?_⟩
              exact ⟨rfl, (by repeat (first | exact hr | refine cRr.up ?_ (by unfold cOk; (try simp only [px_app, px_ur]); grind)))⟩
          · refine px_cVW (ci := 4) rfl q_X4_readPart_115 hg rfl trivial lk_4_102 nm_X4_readStep (c_readStep hg hw _ _ _ (show cRd w _ from (by repeat (first | exact hr | refine cRr.up ?_ (by unfold cOk; (try simp only [px_app, px_ur]); grind)) : cRr w I _).1)) rfl rfl (px_lit hg rfl) rfl rfl rfl ⟨rfl, rfl⟩ ?_
            intro I120 L120 h120
            obtain ⟨rfl, h120⟩ := h120
            replace hr : cRr w I I120 := cRr.trans (by repeat (first | exact hr | refine cRr.up ?_ (by unfold cOk; (try simp only [px_app, px_ur]); grind))) h120
            clear d0 d1 d2 d3 d4 d5 d6 d7 d8 d9
            obtain ⟨d0, d1, d2, d3, d4, d5, d6, d7, d8, d9⟩ := cRd.op hr.1
            refine px_rvW rfl q_X4_readPart_123 rfl rfl rfl hg rfl trivial ⟨⟨rfl, rfl⟩, ?_⟩
            exact ⟨rfl, (by repeat (first | exact hr | refine cRr.up ?_ (by unfold cOk; (try simp only [px_app, px_ur]); grind)))⟩
        · refine px_cVW (ci := 4) rfl q_X4_readPart_88 hg rfl trivial lk_4_102 nm_X4_readStep (c_readStep hg hw _ _ _ (show cRd w _ from (by repeat (first | exact hr | refine cRr.up ?_ (by unfold cOk; (try simp only [px_app, px_ur]); grind)) : cRr w I _).1)) rfl rfl (px_lit hg rfl) rfl rfl rfl ⟨rfl, rfl⟩ ?_
          intro I93 L93 h93
          obtain ⟨rfl, h93⟩ := h93
          replace hr : cRr w I I93 := cRr.trans (by repeat (first | exact hr | refine cRr.up ?_ (by unfold cOk; (try simp only [px_app, px_ur]); grind))) h93
          clear d0 d1 d2 d3 d4 d5 d6 d7 d8 d9
          obtain ⟨d0, d1, d2, d3, d4, d5, d6, d7, d8, d9⟩ := cRd.op hr.1
          refine px_rvW rfl q_X4_readPart_96 rfl rfl rfl hg rfl trivial ⟨⟨rfl, rfl⟩, ?_⟩
          exact ⟨rfl, (by repeat (first | exact hr | refine cRr.up ?_ (by unfold cOk; (try simp only [px_app, px_ur]); grind)))⟩
      · refine px_cVW (ci := 4) rfl q_X4_readPart_61 hg rfl trivial lk_4_102 nm_X4_readStep (c_readStep hg hw _ _ _ (show cRd w _ from (by repeat (first | exact hr | refine cRr.up ?_ (by unfold cOk; (try simp only [px_app, px_ur]); grind)) : cRr w I _).1)) rfl rfl (px_lit hg rfl) rfl rfl rfl ⟨rfl, rfl⟩ ?_
        intro I66 L66 h66
        obtain ⟨rfl, h66⟩ := h66
        replace hr : cRr w I I66 := cRr.trans (by repeat (first | exact hr | refine cRr.up ?_ (by unfold cOk; (try simp only [px_app, px_ur]); grind))) h66
        clear d0 d1 d2 d3 d4 d5 d6 d7 d8 d9
        obtain ⟨d0, d1, d2, d3, d4, d5, d6, d7, d8, d9⟩ := cRd.op hr.1
        refine px_rvW rfl q_X4_readPart_69 rfl rfl rfl hg rfl trivial ⟨⟨rfl, rfl⟩, ?_⟩
        exact ⟨rfl, (by repeat (first | exact hr | refine cRr.up ?_ (by unfold cOk; (try simp only [px_app, px_ur]); grind)))⟩
    · refine px_cVW (ci := 4) rfl q_X4_readPart_33 hg rfl trivial lk_4_102 nm_X4_readStep (c_readStep hg hw _ _ _ (show cRd w _ from (by repeat (first | exact hr | refine cRr.up ?_ (by unfold cOk; (try simp only [px_app, px_ur]); grind)) : cRr w I _).1)) rfl rfl (px_lit hg rfl) rfl rfl rfl ⟨rfl, rfl⟩ ?_
      intro I39 L39 h39
      obtain ⟨rfl, h39⟩ := h39
      replace hr : cRr w I I39 := cRr.trans (by repeat (first | exact hr | refine cRr.up ?_ (by unfold cOk; (try simp only [px_app, px_ur]); grind))) h39
      clear d0 d1 d2 d3 d4 d5 d6 d7 d8 d9
      obtain ⟨d0, d1, d2, d3, d4, d5, d6, d7, d8, d9⟩ := cRd.op hr.1
      refine px_rvW rfl q_X4_readPart_42 rfl rfl rfl hg rfl trivial ⟨⟨rfl, rfl⟩, ?_⟩
      exact ⟨rfl, (by repeat (first | exact hr | refine cRr.up ?_ (by unfold cOk; (try simp only [px_app, px_ur]); grind)))⟩
  · refine px_b rfl q_X4_readPart_7 hg rfl trivial ?_
    refine px_ldS (i := 0) (by decide) rfl (by decide +kernel) ?_
    refine px_cVP (ci := 8) rfl q_X4_readPart_27 hg rfl trivial lk_4_98 nm_X8_isWord (c_isWord hg _ _ (by decide) (by first | exact d1 | (simp only [px_ur]; grind))) rfl rfl (px_lit hg rfl) rfl rfl rfl ⟨rfl, rfl⟩ ?_
    intro x27 h27
    refine px_eq rfl q_X4_readPart_30 hg rfl trivial (fun c30 => ?_) (fun c30 => ?_)
    · refine px_b rfl q_X4_readPart_45 hg rfl trivial ?_
      refine px_ldS (i := 1) (by decide) rfl (by decide +kernel) ?_
      refine px_cVP (ci := 8) rfl q_X4_readPart_55 hg rfl trivial lk_4_98 nm_X8_isWord (c_isWord hg _ _ (by decide) (by first | exact d1 | (simp only [px_ur]; grind))) rfl rfl (px_lit hg rfl) rfl rfl rfl ⟨rfl, rfl⟩ ?_
      intro x55 h55
      refine px_eq rfl q_X4_readPart_58 hg rfl trivial (fun c58 => ?_) (fun c58 => ?_)
      · refine px_b rfl q_X4_readPart_72 hg rfl trivial ?_
        refine px_ldS (i := 2) (by decide) rfl (by decide +kernel) ?_
        refine px_cVP (ci := 8) rfl q_X4_readPart_82 hg rfl trivial lk_4_98 nm_X8_isWord (c_isWord hg _ _ (by decide) (by first | exact d1 | (simp only [px_ur]; grind))) rfl rfl (px_lit hg rfl) rfl rfl rfl ⟨rfl, rfl⟩ ?_
        intro x82 h82
        refine px_eq rfl q_X4_readPart_85 hg rfl trivial (fun c85 => ?_) (fun c85 => ?_)
        · refine px_b rfl q_X4_readPart_99 hg rfl trivial ?_
          refine px_ldS (i := 3) (by decide) rfl (by decide +kernel) ?_
          refine px_cVP (ci := 8) rfl q_X4_readPart_109 hg rfl trivial lk_4_98 nm_X8_isWord (c_isWord hg _ _ (by decide) (by first | exact d1 | (simp only [px_ur]; grind))) rfl rfl (px_lit hg rfl) rfl rfl rfl ⟨rfl, rfl⟩ ?_
          intro x109 h109
          refine px_eq rfl q_X4_readPart_112 hg rfl trivial (fun c112 => ?_) (fun c112 => ?_)
          · refine px_b rfl q_X4_readPart_126 hg rfl trivial ?_
            refine px_ldS (i := 4) (by decide) rfl (by decide +kernel) ?_
            refine px_cVP (ci := 8) rfl q_X4_readPart_136 hg rfl trivial lk_4_98 nm_X8_isWord (c_isWord hg _ _ (by decide) (by first | exact d1 | (simp only [px_ur]; grind))) rfl rfl (px_lit hg rfl) rfl rfl rfl ⟨rfl, rfl⟩ ?_
            intro x136 h136
            refine px_eq rfl q_X4_readPart_139 hg rfl trivial (fun c139 => ?_) (fun c139 => ?_)
            · refine px_b rfl q_X4_readPart_150 hg rfl trivial ?_
              refine px_ldS (i := 5) (by decide) rfl (by decide +kernel) ?_
              refine px_cVP (ci := 8) rfl q_X4_readPart_160 hg rfl trivial lk_4_98 nm_X8_isWord (c_isWord hg _ _ (by decide) (by first | exact d1 | (simp only [px_ur]; grind))) rfl rfl (px_lit hg rfl) rfl rfl rfl ⟨rfl, rfl⟩ ?_
              intro x160 h160
              refine px_eq rfl q_X4_readPart_163 hg rfl trivial (fun c163 => ?_) (fun c163 => ?_)
              · refine px_b rfl q_X4_readPart_174 hg rfl trivial ?_
                refine px_ldS (i := 6) (by decide) rfl (by decide +kernel) ?_
                refine px_cVP (ci := 8) rfl q_X4_readPart_184 hg rfl trivial lk_4_98 nm_X8_isWord (c_isWord hg _ _ (by decide) (by first | exact d1 | (simp only [px_ur]; grind))) rfl rfl (px_lit hg rfl) rfl rfl rfl ⟨rfl, rfl⟩ ?_
                intro x184 h184
                refine px_eq rfl q_X4_readPart_187 hg rfl trivial (fun c187 => ?_) (fun c187 => ?_)
                · refine px_b rfl q_X4_readPart_197 hg rfl trivial ?_
                  refine px_ldS (i := 7) (by decide) rfl (by decide +kernel) ?_
                  refine px_cVP (ci := 8) rfl q_X4_readPart_207 hg rfl trivial lk_4_98 nm_X8_isWord (c_isWord hg _ _ (by decide) (by first | exact d1 | (simp only [px_ur]; grind))) rfl rfl (px_lit hg rfl) rfl rfl rfl ⟨rfl, rfl⟩ ?_
                  intro x207 h207
                  refine px_eq rfl q_X4_readPart_210 hg rfl trivial (fun c210 => ?_) (fun c210 => ?_)
                  · refine px_b rfl q_X4_readPart_220 hg rfl trivial ?_
                    refine px_ldS (i := 8) (by decide) rfl (by decide +kernel) ?_
                    refine px_cVP (ci := 8) rfl q_X4_readPart_230 hg rfl trivial lk_4_98 nm_X8_isWord (c_isWord hg _ _ (by decide) (by first | exact d1 | (simp only [px_ur]; grind))) rfl rfl (px_lit hg rfl) rfl rfl rfl ⟨rfl, rfl⟩ ?_
                    intro x230 h230
                    refine px_eq rfl q_X4_readPart_233 hg rfl trivial (fun c233 => ?_) (fun c233 => ?_)
                    · refine px_cVW (ci := 4) rfl q_X4_readPart_250 hg rfl trivial lk_4_86 nm_X4_fail (c_fail hg hw _ (show cRd w _ from (by repeat (first | exact hr | refine cRr.up ?_ (by unfold cOk; (try simp only [px_app, px_ur]); grind)) : cRr w I _).1)) rfl rfl (px_lit hg rfl) rfl rfl rfl ⟨rfl, rfl⟩ ?_
                      intro I252 L252 h252
                      obtain ⟨rfl, h252⟩ := h252
                      replace hr : cRr w I I252 := cRr.trans (by repeat (first | exact hr | refine cRr.up ?_ (by unfold cOk; (try simp only [px_app, px_ur]); grind))) h252
                      clear d0 d1 d2 d3 d4 d5 d6 d7 d8 d9
                      obtain ⟨d0, d1, d2, d3, d4, d5, d6, d7, d8, d9⟩ := cRd.op hr.1
                      refine px_rvW rfl q_X4_readPart_255 rfl rfl rfl hg rfl trivial ⟨⟨rfl, rfl⟩, ?_⟩
                      exact ⟨rfl, (by repeat (first | exact hr | refine cRr.up ?_ (by unfold cOk; (try simp only [px_app, px_ur]); grind)))⟩
                    · refine px_ne rfl q_X4_readPart_236 hg rfl trivial (fun c240 => ?_) (fun c240 => ?_)
                      · refine px_cVW (ci := 4) rfl q_X4_readPart_250 hg rfl trivial lk_4_86 nm_X4_fail (c_fail hg hw _ (show cRd w _ from (by repeat (first | exact hr | refine cRr.up ?_ (by unfold cOk; (try simp only [px_app, px_ur]); grind)) : cRr w I _).1)) rfl rfl (px_lit hg rfl) rfl rfl rfl ⟨rfl, rfl⟩ ?_
                        intro I252 L252 h252
                        obtain ⟨rfl, h252⟩ := h252
                        replace hr : cRr w I I252 := cRr.trans (by repeat (first | exact hr | refine cRr.up ?_ (by unfold cOk; (try simp only [px_app, px_ur]); grind))) h252
                        clear d0 d1 d2 d3 d4 d5 d6 d7 d8 d9
                        obtain ⟨d0, d1, d2, d3, d4, d5, d6, d7, d8, d9⟩ := cRd.op hr.1
                        refine px_rvW rfl q_X4_readPart_255 rfl rfl rfl hg rfl trivial ⟨⟨rfl, rfl⟩, ?_⟩
                        exact ⟨rfl, (by repeat (first | exact hr | refine cRr.up ?_ (by unfold cOk; (try simp only [px_app, px_ur]); grind)))⟩
                      · refine px_cVW (ci := 4) rfl q_X4_readPart_243 hg rfl trivial lk_4_132 nm_X4_readDef (c_readDef hg hw  (show cRd w _ from (by repeat (first | exact hr | refine cRr.up ?_ (by unfold cOk; (try simp only [px_app, px_ur]); grind)) : cRr w I _).1)) rfl rfl (px_lit hg rfl) rfl rfl rfl ⟨rfl, rfl⟩ ?_
                        intro I244 L244 h244
                        obtain ⟨rfl, h244⟩ := h244
                        replace hr : cRr w I I244 := cRr.trans (by repeat (first | exact hr | refine cRr.up ?_ (by unfold cOk; (try simp only [px_app, px_ur]); grind))) h244
                        clear d0 d1 d2 d3 d4 d5 d6 d7 d8 d9
                        obtain ⟨d0, d1, d2, d3, d4, d5, d6, d7, d8, d9⟩ := cRd.op hr.1
                        refine px_rvW rfl q_X4_readPart_247 rfl rfl rfl hg rfl trivial ⟨⟨rfl, rfl⟩, ?_⟩
                        exact ⟨rfl, (by repeat (first | exact hr | refine cRr.up ?_ (by unfold cOk; (try simp only [px_app, px_ur]); grind)))⟩
                  · refine px_cVW (ci := 4) rfl q_X4_readPart_213 hg rfl trivial lk_4_127 nm_X4_readRepeat (c_readRepeat hg hw  (show cRd w _ from (by repeat (first | exact hr | refine cRr.up ?_ (by unfold cOk; (try simp only [px_app, px_ur]); grind)) : cRr w I _).1)) rfl rfl (px_lit hg rfl) rfl rfl rfl ⟨rfl, rfl⟩ ?_
                    intro I214 L214 h214
                    obtain ⟨rfl, h214⟩ := h214
                    replace hr : cRr w I I214 := cRr.trans (by repeat (first | exact hr | refine cRr.up ?_ (by unfold cOk; (try simp only [px_app, px_ur]); grind))) h214
                    clear d0 d1 d2 d3 d4 d5 d6 d7 d8 d9
                    obtain ⟨d0, d1, d2, d3, d4, d5, d6, d7, d8, d9⟩ := cRd.op hr.1
                    refine px_rvW rfl q_X4_readPart_217 rfl rfl rfl hg rfl trivial ⟨⟨rfl, rfl⟩, ?_⟩
                    exact ⟨rfl, (by repeat (first | exact hr | refine cRr.up ?_ (by unfold cOk; (try simp only [px_app, px_ur]); grind)))⟩
                · refine px_cVW (ci := 4) rfl q_X4_readPart_190 hg rfl trivial lk_4_122 nm_X4_readDo (c_readDo hg hw  (show cRd w _ from (by repeat (first | exact hr | refine cRr.up ?_ (by unfold cOk; (try simp only [px_app, px_ur]); grind)) : cRr w I _).1)) rfl rfl (px_lit hg rfl) rfl rfl rfl ⟨rfl, rfl⟩ ?_
                  intro I191 L191 h191
                  obtain ⟨rfl, h191⟩ := h191
                  replace hr : cRr w I I191 := cRr.trans (by repeat (first | exact hr | refine cRr.up ?_ (by unfold cOk; (try simp only [px_app, px_ur]); grind))) h191
                  clear d0 d1 d2 d3 d4 d5 d6 d7 d8 d9
                  obtain ⟨d0, d1, d2, d3, d4, d5, d6, d7, d8, d9⟩ := cRd.op hr.1
                  refine px_rvW rfl q_X4_readPart_194 rfl rfl rfl hg rfl trivial ⟨⟨rfl, rfl⟩, ?_⟩
                  exact ⟨rfl, (by repeat (first | exact hr | refine cRr.up ?_ (by unfold cOk; (try simp only [px_app, px_ur]); grind)))⟩
              · refine px_cVW (ci := 4) rfl q_X4_readPart_166 hg rfl trivial lk_4_115 nm_X4_readBareStep (c_readBareStep hg hw _ (show cRd w _ from (by repeat (first | exact hr | refine cRr.up ?_ (by unfold cOk; (try simp only [px_app, px_ur]); grind)) : cRr w I _).1)) rfl rfl (px_lit hg rfl) rfl rfl rfl ⟨rfl, rfl⟩ ?_
                intro I168 L168 h168
                obtain ⟨rfl, h168⟩ := h168
                replace hr : cRr w I I168 := cRr.trans (by repeat (first | exact hr | refine cRr.up ?_ (by unfold cOk; (try simp only [px_app, px_ur]); grind))) h168
                clear d0 d1 d2 d3 d4 d5 d6 d7 d8 d9
                obtain ⟨d0, d1, d2, d3, d4, d5, d6, d7, d8, d9⟩ := cRd.op hr.1
                refine px_rvW rfl q_X4_readPart_171 rfl rfl rfl hg rfl trivial ⟨⟨rfl, rfl⟩, ?_⟩
                exact ⟨rfl, (by repeat (first | exact hr | refine cRr.up ?_ (by unfold cOk; (try simp only [px_app, px_ur]); grind)))⟩
            · refine px_cVW (ci := 4) rfl q_X4_readPart_142 hg rfl trivial lk_4_115 nm_X4_readBareStep (c_readBareStep hg hw _ (show cRd w _ from (by repeat (first | exact hr | refine cRr.up ?_ (by unfold cOk; (try simp only [px_app, px_ur]); grind)) : cRr w I _).1)) rfl rfl (px_lit hg rfl) rfl rfl rfl ⟨rfl, rfl⟩ ?_
              intro I144 L144 h144
              obtain ⟨rfl, h144⟩ := h144
              replace hr : cRr w I I144 := cRr.trans (by repeat (first | exact hr | refine cRr.up ?_ (by unfold cOk; (try simp only [px_app, px_ur]); grind))) h144
              clear d0 d1 d2 d3 d4 d5 d6 d7 d8 d9
              obtain ⟨d0, d1, d2, d3, d4, d5, d6, d7, d8, d9⟩ := cRd.op hr.1
              refine px_rvW rfl q_X4_readPart_147 rfl rfl rfl hg rfl trivial ⟨⟨rfl, rfl⟩, ?_⟩
              exact ⟨rfl, (by repeat (first | exact hr | refine cRr.up ?_ (by unfold cOk; (try simp only [px_app, px_ur]); grind)))⟩
          · refine px_cVW (ci := 4) rfl q_X4_readPart_115 hg rfl trivial lk_4_102 nm_X4_readStep (c_readStep hg hw _ _ _ (show cRd w _ from (by repeat (first | exact hr | refine cRr.up ?_ (by unfold cOk; (try simp only [px_app, px_ur]); grind)) : cRr w I _).1)) rfl rfl (px_lit hg rfl) rfl rfl rfl ⟨rfl, rfl⟩ ?_
            intro I120 L120 h120
            obtain ⟨rfl, h120⟩ := h120
            replace hr : cRr w I I120 := cRr.trans (by repeat (first | exact hr | refine cRr.up ?_ (by unfold cOk; (try simp only [px_app, px_ur]); grind))) h120
            clear d0 d1 d2 d3 d4 d5 d6 d7 d8 d9
            obtain ⟨d0, d1, d2, d3, d4, d5, d6, d7, d8, d9⟩ := cRd.op hr.1
            refine px_rvW rfl q_X4_readPart_123 rfl rfl rfl hg rfl trivial ⟨⟨rfl, rfl⟩, ?_⟩
            exact ⟨rfl, (by repeat (first | exact hr | refine cRr.up ?_ (by unfold cOk; (try simp only [px_app, px_ur]); grind)))⟩
        · refine px_cVW (ci := 4) rfl q_X4_readPart_88 hg rfl trivial lk_4_102 nm_X4_readStep (c_readStep hg hw _ _ _ (show cRd w _ from (by repeat (first | exact hr | refine cRr.up ?_ (by unfold cOk; (try simp only [px_app, px_ur]); grind)) : cRr w I _).1)) rfl rfl (px_lit hg rfl) rfl rfl rfl ⟨rfl, rfl⟩ ?_
          intro I93 L93 h93
          obtain ⟨rfl, h93⟩ := h93
          replace hr : cRr w I I93 := cRr.trans (by repeat (first | exact hr | refine cRr.up ?_ (by unfold cOk; (try simp only [px_app, px_ur]); grind))) h93
          clear d0 d1 d2 d3 d4 d5 d6 d7 d8 d9
          obtain ⟨d0, d1, d2, d3, d4, d5, d6, d7, d8, d9⟩ := cRd.op hr.1
          refine px_rvW rfl q_X4_readPart_96 rfl rfl rfl hg rfl trivial ⟨⟨rfl, rfl⟩, ?_⟩
          exact ⟨rfl, (by repeat (first | exact hr | refine cRr.up ?_ (by unfold cOk; (try simp only [px_app, px_ur]); grind)))⟩
      · refine px_cVW (ci := 4) rfl q_X4_readPart_61 hg rfl trivial lk_4_102 nm_X4_readStep (c_readStep hg hw _ _ _ (show cRd w _ from (by repeat (first | exact hr | refine cRr.up ?_ (by unfold cOk; (try simp only [px_app, px_ur]); grind)) : cRr w I _).1)) rfl rfl (px_lit hg rfl) rfl rfl rfl ⟨rfl, rfl⟩ ?_
        intro I66 L66 h66
        obtain ⟨rfl, h66⟩ := h66
        replace hr : cRr w I I66 := cRr.trans (by repeat (first | exact hr | refine cRr.up ?_ (by unfold cOk; (try simp only [px_app, px_ur]); grind))) h66
        clear d0 d1 d2 d3 d4 d5 d6 d7 d8 d9
        obtain ⟨d0, d1, d2, d3, d4, d5, d6, d7, d8, d9⟩ := cRd.op hr.1
        refine px_rvW rfl q_X4_readPart_69 rfl rfl rfl hg rfl trivial ⟨⟨rfl, rfl⟩, ?_⟩
        exact ⟨rfl, (by repeat (first | exact hr | refine cRr.up ?_ (by unfold cOk; (try simp only [px_app, px_ur]); grind)))⟩
    · refine px_cVW (ci := 4) rfl q_X4_readPart_33 hg rfl trivial lk_4_102 nm_X4_readStep (c_readStep hg hw _ _ _ (show cRd w _ from (by repeat (first | exact hr | refine cRr.up ?_ (by unfold cOk; (try simp only [px_app, px_ur]); grind)) : cRr w I _).1)) rfl rfl (px_lit hg rfl) rfl rfl rfl ⟨rfl, rfl⟩ ?_
      intro I39 L39 h39
      obtain ⟨rfl, h39⟩ := h39
      replace hr : cRr w I I39 := cRr.trans (by repeat (first | exact hr | refine cRr.up ?_ (by unfold cOk; (try simp only [px_app, px_ur]); grind))) h39
      clear d0 d1 d2 d3 d4 d5 d6 d7 d8 d9
      obtain ⟨d0, d1, d2, d3, d4, d5, d6, d7, d8, d9⟩ := cRd.op hr.1
      refine px_rvW rfl q_X4_readPart_42 rfl rfl rfl hg rfl trivial ⟨⟨rfl, rfl⟩, ?_⟩
      exact ⟨rfl, (by repeat (first | exact hr | refine cRr.up ?_ (by unfold cOk; (try simp only [px_app, px_ur]); grind)))⟩

theorem cNu.up {I : px_I} {b k : Nat} {v : Int32} (h : cNu I) (hb : b ≠ 75) : cNu (px_u I b k v) := fun q => by rw [px_u_ne (Ne.symm hb)]; exact h q

theorem q_X4_begin_47 : px_bk 4 2 cX4_begin 47 [(.iload_n 1, (0, 0, 0, 0, 0), 0, 0), (.bipush 8, (0, 0, 0, 0, 0), 8, 0)] = some 50 ∧ px_t2 cX4_begin 50 .ge 66 = true := by decide +kernel
theorem q_X4_begin_66 : px_bk 4 2 cX4_begin 66 [] = some 66 ∧ px_tr cX4_begin 66 .return_ = true := by decide +kernel
theorem q_X4_begin_53 : px_bk 4 2 cX4_begin 53 [(.aload_n 0, (0, 0, 0, 0, 0), 0, 0), (.getfield 31, (4, 6, 3, 84, 0), 0, 0), (.iload_n 1, (0, 0, 0, 0, 0), 0, 0), (.iconst (-1), (0, 0, 0, 0, 0), -1, 0), (.iastore, (0, 0, 0, 0, 0), 0, 0), (.iinc 1 1, (0, 0, 0, 0, 0), 1, 0), (.goto (-16), (0, 0, 0, 0, 0), 0, 0)] = some 47 := by decide +kernel
set_option maxRecDepth 100000 in
theorem l_begin {n : Nat} {R : px_R} {w : Nat} (hg : px_G n (cRW R w)) (hw : cWay n w) {Q : px_Q} {I : px_I} {L : px_L} (hq : ∀ I2, cRr w I I2 → Q none n I2 L (cRW R w)) : ∀ i : Int32, i ≤ 8 → 0 ≤ i → ∀ I1, cRr w I I1 → px M_X4_begin 0 0 47 [(0, .ref 76), (1, .int i)] [] n I1 L (cRW R w) Q := by
  refine px_up 8 (fun i ih hi => ?_)
  intro h0 I1 hr
  refine px_ige rfl q_X4_begin_47 hg rfl trivial (fun c50 => ?_) (fun c50 => ?_)
  · refine px_rv rfl q_X4_begin_66 rfl rfl rfl hg rfl trivial ?_
    exact hq _ hr
  · refine px_b rfl q_X4_begin_53 hg rfl ⟨trivial, (by first | decide | (refine ⟨?_, ?_⟩ <;> grind) | grind)⟩ ?_
    exact px_go (ih (i + 1) (by grind) (by grind) (by grind) _ (hr.up (by unfold cOk; grind))) ⟨rfl, rfl, trivial⟩

theorem q_X4_begin_0 : px_bk 4 2 cX4_begin 0 [(.aload_n 0, (0, 0, 0, 0, 0), 0, 0), (.getfield 12, (4, 1, 4, 0, 0), 0, 0), (.iconst 0, (0, 0, 0, 0, 0), 0, 0), (.putfield 93, (10, 2, 5, 0, 0), 0, 0), (.aload_n 0, (0, 0, 0, 0, 0), 0, 0), (.iconst 0, (0, 0, 0, 0, 0), 0, 0), (.putfield 34, (4, 7, 0, 0, 0), 0, 0), (.aload_n 0, (0, 0, 0, 0, 0), 0, 0), (.iconst (-1), (0, 0, 0, 0, 0), -1, 0), (.putfield 38, (4, 8, 0, 0, 0), 0, 0), (.aload_n 0, (0, 0, 0, 0, 0), 0, 0), (.iconst (-1), (0, 0, 0, 0, 0), -1, 0), (.putfield 41, (4, 9, 0, 0, 0), 0, 0), (.aload_n 0, (0, 0, 0, 0, 0), 0, 0), (.iconst 0, (0, 0, 0, 0, 0), 0, 0), (.putfield 55, (4, 13, 0, 0, 0), 0, 0), (.aload_n 0, (0, 0, 0, 0, 0), 0, 0), (.iconst 0, (0, 0, 0, 0, 0), 0, 0), (.putfield 58, (4, 14, 0, 0, 0), 0, 0), (.aload_n 0, (0, 0, 0, 0, 0), 0, 0), (.iconst (-1), (0, 0, 0, 0, 0), -1, 0), (.putfield 61, (4, 15, 0, 0, 0), 0, 0), (.aload_n 0, (0, 0, 0, 0, 0), 0, 0), (.getfield 25, (4, 4, 3, 82, 0), 0, 0), (.iconst 0, (0, 0, 0, 0, 0), 0, 0), (.iconst 0, (0, 0, 0, 0, 0), 0, 0), (.iastore, (0, 0, 0, 0, 0), 0, 0), (.iconst 0, (0, 0, 0, 0, 0), 0, 0), (.istore_n 1, (0, 0, 0, 0, 0), 0, 0)] = some 47 := by decide +kernel
set_option maxRecDepth 100000 in
theorem c_begin {n : Nat} {I : px_I} {L : px_L} {R : px_R} {w : Nat} (hg : px_G n (cRW R w)) (hw : cWay n w) (hd : cRd w I) : px_KV M_X4_begin [.ref 76] n I L (cRW R w) (fun I2 L2 => L2 = L ∧ cRr w I I2) := by
  refine px_of (plainFor_of_name np_RX4) (fun _ _ _ => trivial) rfl ?_
  have hr := cRr.rfl' hd
  obtain ⟨d0, d1, d2, d3, d4, d5, d6, d7, d8, d9⟩ := cRd.op hd
  refine px_b rfl q_X4_begin_0 hg rfl ⟨⟨trivial, (by first | exact hw.1 | exact hw.2.1 | exact hw.2.2 | with_reducible assumption | decide | (refine ⟨?_, ?_⟩ <;> grind) | (simp only [px_ur]; refine ⟨?_, ?_⟩ <;> grind))⟩, (by first | exact hw.1 | exact hw.2.1 | exact hw.2.2 | with_reducible assumption | decide | (refine ⟨?_, ?_⟩ <;> grind) | (simp only [px_ur]; refine ⟨?_, ?_⟩ <;> grind))⟩ ?_
  exact px_go (l_begin hg hw (fun I2 h => ⟨rfl, rfl, rfl, rfl, h⟩) 0 (by decide) (by decide) _ (by repeat (first | exact hr | refine cRr.up ?_ (by unfold cOk; (try simp only [px_app, px_ur]); grind)))) ⟨rfl, rfl, trivial⟩

theorem q_X4_read_70 : px_bk 4 2 cX4_read 70 [(.aload_n 0, (0, 0, 0, 0, 0), 0, 0), (.getfield 58, (4, 14, 0, 0, 0), 0, 0)] = some 74 ∧ px_t1 cX4_read 74 .ne 89 = true := by decide +kernel
theorem q_X4_read_89 : px_bk 4 2 cX4_read 89 [(.aload_n 0, (0, 0, 0, 0, 0), 0, 0), (.getfield 12, (4, 1, 4, 0, 0), 0, 0), (.aload_n 0, (0, 0, 0, 0, 0), 0, 0), (.getfield 25, (4, 4, 3, 82, 0), 0, 0), (.iconst 0, (0, 0, 0, 0, 0), 0, 0), (.iaload, (0, 0, 0, 0, 0), 0, 0), (.putfield 90, (10, 3, 5, 0, 0), 0, 0), (.aload_n 0, (0, 0, 0, 0, 0), 0, 0), (.getfield 58, (4, 14, 0, 0, 0), 0, 0)] = some 106 ∧ px_t1 cX4_read 106 .ne 113 = true := by decide +kernel
theorem q_X4_read_113 : px_bk 4 2 cX4_read 113 [(.iconst 0, (0, 0, 0, 0, 0), 0, 0)] = some 114 ∧ px_tr cX4_read 114 .ireturn = true := by decide +kernel
theorem q_X4_read_109 : px_bk 4 2 cX4_read 109 [(.iconst 1, (0, 0, 0, 0, 0), 1, 0), (.goto 4, (0, 0, 0, 0, 0), 0, 0)] = some 114 ∧ px_tr cX4_read 114 .ireturn = true := by decide +kernel
theorem q_X4_read_77 : px_bk 4 2 cX4_read 77 [(.aload_n 0, (0, 0, 0, 0, 0), 0, 0), (.getfield 34, (4, 7, 0, 0, 0), 0, 0)] = some 81 ∧ px_t1 cX4_read 81 .le 89 = true := by decide +kernel
theorem q_X4_read_84 : px_bk 4 2 cX4_read 84 [(.aload_n 0, (0, 0, 0, 0, 0), 0, 0), (.iconst 1, (0, 0, 0, 0, 0), 1, 0)] = some 86 ∧ px_tv cX4_read 86 86 = true := by decide +kernel
set_option maxRecDepth 100000 in
theorem l_read70 {n : Nat} {R : px_R} {w : Nat} (hg : px_G n (cRW R w)) (hw : cWay n w) {Q : px_Q} (x : Int32) {I0 I : px_I} {L : px_L} (hr : cRr w I0 I) (hq : ∀ r I2, (r = 0 ∨ r = 1) → cRr w I0 I2 → Q (some (.int r)) n I2 L (cRW R w)) : px M_X4_read 0 0 70 [(0, .ref 76), (1, .int x)] [] n I L (cRW R w) Q := by
  obtain ⟨d0, d1, d2, d3, d4, d5, d6, d7, d8, d9⟩ := cRd.op hr.1
  refine px_ne rfl q_X4_read_70 hg rfl trivial (fun c74 => ?_) (fun c74 => ?_)
  · refine px_ne rfl q_X4_read_89 hg rfl ⟨⟨trivial, (by first | exact hw.1 | exact hw.2.1 | exact hw.2.2 | with_reducible assumption | decide | (refine ⟨?_, ?_⟩ <;> grind) | (simp only [px_ur]; refine ⟨?_, ?_⟩ <;> grind))⟩, (by first | exact hw.1 | exact hw.2.1 | exact hw.2.2 | with_reducible assumption | decide | (refine ⟨?_, ?_⟩ <;> grind) | (simp only [px_ur]; refine ⟨?_, ?_⟩ <;> grind))⟩ (fun c106 => ?_) (fun c106 => ?_)
    · refine px_rz rfl q_X4_read_113 rfl rfl rfl hg rfl trivial (by first | exact Or.inl rfl | exact Or.inr rfl | grind) ?_
      first | exact hq _ _ (Or.inl rfl) (by repeat (first | exact hr | refine cRr.up ?_ (by unfold cOk; (try simp only [px_app, px_ur]); grind))) | exact hq _ _ (Or.inr rfl) (by repeat (first | exact hr | refine cRr.up ?_ (by unfold cOk; (try simp only [px_app, px_ur]); grind)))
    · refine px_rz rfl q_X4_read_109 rfl rfl rfl hg rfl trivial (by first | exact Or.inl rfl | exact Or.inr rfl | grind) ?_
      first | exact hq _ _ (Or.inl rfl) (by repeat (first | exact hr | refine cRr.up ?_ (by unfold cOk; (try simp only [px_app, px_ur]); grind))) | exact hq _ _ (Or.inr rfl) (by repeat (first | exact hr | refine cRr.up ?_ (by unfold cOk; (try simp only [px_app, px_ur]); grind)))
  · refine px_le rfl q_X4_read_77 hg rfl trivial (fun c81 => ?_) (fun c81 => ?_)
    · refine px_ne rfl q_X4_read_89 hg rfl ⟨⟨trivial, (by first | exact hw.1 | exact hw.2.1 | exact hw.2.2 | with_reducible assumption | decide | (refine ⟨?_, ?_⟩ <;> grind) | (simp only [px_ur]; refine ⟨?_, ?_⟩ <;> grind))⟩, (by first | exact hw.1 | exact hw.2.1 | exact hw.2.2 | with_reducible assumption | decide | (refine ⟨?_, ?_⟩ <;> grind) | (simp only [px_ur]; refine ⟨?_, ?_⟩ <;> grind))⟩ (fun c106 => ?_) (fun c106 => ?_)
      · refine px_rz rfl q_X4_read_113 rfl rfl rfl hg rfl trivial (by first | exact Or.inl rfl | exact Or.inr rfl | grind) ?_
        first | exact hq _ _ (Or.inl rfl) (by repeat (first | exact hr | refine cRr.up ?_ (by unfold cOk; (try simp only [px_app, px_ur]); grind))) | exact hq _ _ (Or.inr rfl) (by repeat (first | exact hr | refine cRr.up ?_ (by unfold cOk; (try simp only [px_app, px_ur]); grind)))
      · refine px_rz rfl q_X4_read_109 rfl rfl rfl hg rfl trivial (by first | exact Or.inl rfl | exact Or.inr rfl | grind) ?_
        first | exact hq _ _ (Or.inl rfl) (by repeat (first | exact hr | refine cRr.up ?_ (by unfold cOk; (try simp only [px_app, px_ur]); grind))) | exact hq _ _ (Or.inr rfl) (by repeat (first | exact hr | refine cRr.up ?_ (by unfold cOk; (try simp only [px_app, px_ur]); grind)))
    · refine px_cVW (ci := 4) rfl q_X4_read_84 hg rfl trivial lk_4_86 nm_X4_fail (c_fail hg hw _ hr.1) rfl rfl (px_lit hg rfl) rfl rfl rfl ⟨rfl, rfl⟩ ?_
      intro I86 L86 h86
      obtain ⟨rfl, h86⟩ := h86
      replace hr := hr.trans h86
      refine px_ne rfl q_X4_read_89 hg rfl ⟨⟨trivial, (by first | exact hw.1 | exact hw.2.1 | exact hw.2.2 | with_reducible assumption | decide | (refine ⟨?_, ?_⟩ <;> grind) | (simp only [px_ur]; refine ⟨?_, ?_⟩ <;> grind))⟩, (by first | exact hw.1 | exact hw.2.1 | exact hw.2.2 | with_reducible assumption | decide | (refine ⟨?_, ?_⟩ <;> grind) | (simp only [px_ur]; refine ⟨?_, ?_⟩ <;> grind))⟩ (fun c106 => ?_) (fun c106 => ?_)
      · refine px_rz rfl q_X4_read_113 rfl rfl rfl hg rfl trivial (by first | exact Or.inl rfl | exact Or.inr rfl | grind) ?_
        first | exact hq _ _ (Or.inl rfl) (by repeat (first | exact hr | refine cRr.up ?_ (by unfold cOk; (try simp only [px_app, px_ur]); grind))) | exact hq _ _ (Or.inr rfl) (by repeat (first | exact hr | refine cRr.up ?_ (by unfold cOk; (try simp only [px_app, px_ur]); grind)))
      · refine px_rz rfl q_X4_read_109 rfl rfl rfl hg rfl trivial (by first | exact Or.inl rfl | exact Or.inr rfl | grind) ?_
        first | exact hq _ _ (Or.inl rfl) (by repeat (first | exact hr | refine cRr.up ?_ (by unfold cOk; (try simp only [px_app, px_ur]); grind))) | exact hq _ _ (Or.inr rfl) (by repeat (first | exact hr | refine cRr.up ?_ (by unfold cOk; (try simp only [px_app, px_ur]); grind)))

theorem q_X4_read_13 : px_bk 4 2 cX4_read 13 [(.iload_n 1, (0, 0, 0, 0, 0), 0, 0), (.aload_n 0, (0, 0, 0, 0, 0), 0, 0), (.getfield 64, (4, 0, 3, 70, 0), 0, 0), (.getfield 74, (8, 6, 0, 0, 0), 0, 0)] = some 21 ∧ px_t2 cX4_read 21 .ge 70 = true := by decide +kernel
theorem q_X4_read_24 : px_bk 4 2 cX4_read 24 [(.aload_n 0, (0, 0, 0, 0, 0), 0, 0), (.getfield 58, (4, 14, 0, 0, 0), 0, 0)] = some 28 ∧ px_t1 cX4_read 28 .ne 70 = true := by decide +kernel
theorem q_X4_read_31 : px_bk 4 2 cX4_read 31 [(.aload_n 0, (0, 0, 0, 0, 0), 0, 0)] = some 32 ∧ px_tv cX4_read 32 77 = true := by decide +kernel
theorem q_X4_read_35 : px_bk 4 2 cX4_read 35 [(.aload_n 0, (0, 0, 0, 0, 0), 0, 0), (.getfield 46, (4, 10, 0, 0, 0), 0, 0)] = some 39 ∧ px_t1 cX4_read 39 .ne 45 = true := by decide +kernel
theorem q_X4_read_45 : px_bk 4 2 cX4_read 45 [(.aload_n 0, (0, 0, 0, 0, 0), 0, 0), (.getfield 46, (4, 10, 0, 0, 0), 0, 0), (.iconst 5, (0, 0, 0, 0, 0), 5, 0)] = some 50 ∧ px_t2 cX4_read 50 .ne 60 = true := by decide +kernel
theorem q_X4_read_60 : px_bk 4 2 cX4_read 60 [(.aload_n 0, (0, 0, 0, 0, 0), 0, 0)] = some 61 ∧ px_tv cX4_read 61 83 = true := by decide +kernel
theorem q_X4_read_64 : px_bk 4 2 cX4_read 64 [(.iinc 1 1, (0, 0, 0, 0, 0), 1, 0), (.goto (-54), (0, 0, 0, 0, 0), 0, 0)] = some 13 := by decide +kernel
theorem q_X4_read_53 : px_bk 4 2 cX4_read 53 [(.aload_n 0, (0, 0, 0, 0, 0), 0, 0)] = some 54 ∧ px_tv cX4_read 54 80 = true := by decide +kernel
theorem q_X4_read_57 : px_bk 4 2 cX4_read 57 [(.goto 7, (0, 0, 0, 0, 0), 0, 0), (.iinc 1 1, (0, 0, 0, 0, 0), 1, 0), (.goto (-54), (0, 0, 0, 0, 0), 0, 0)] = some 13 := by decide +kernel
theorem q_X4_read_42 : px_bk 4 2 cX4_read 42 [(.goto 28, (0, 0, 0, 0, 0), 0, 0)] = some 70 := by decide +kernel
set_option maxRecDepth 100000 in
theorem l_read13 {n : Nat} {R : px_R} {w : Nat} (hg : px_G n (cRW R w)) (hw : cWay n w) {Q : px_Q} {I0 : px_I} {L : px_L} (ht : I0 70 6 ≤ 401) (hq : ∀ r I2, (r = 0 ∨ r = 1) → cRr w I0 I2 → Q (some (.int r)) n I2 L (cRW R w)) : ∀ i : Int32, i ≤ 401 → 0 ≤ i → ∀ I, cRr w I0 I → px M_X4_read 0 0 13 [(0, .ref 76), (1, .int i)] [] n I L (cRW R w) Q := by
  refine px_up 401 (fun i ih hi => ?_)
  intro h0 I hr
  have e6 : I 70 6 = I0 70 6 := hr.2 70 6 (by omega) (by omega) (by have := hr.1.1; omega) (by have := hr.1.1; omega) (by have := hr.1.1; omega)
  refine px_ige rfl q_X4_read_13 hg rfl trivial (fun c21 => ?_) (fun c21 => ?_)
  · exact px_go (l_read70 hg hw i hr hq) ⟨rfl, rfl, trivial⟩
  · refine px_ne rfl q_X4_read_24 hg rfl trivial (fun c28 => ?_) (fun c28 => ?_)
    · exact px_go (l_read70 hg hw i hr hq) ⟨rfl, rfl, trivial⟩
    · refine px_cVW (ci := 4) rfl q_X4_read_31 hg rfl trivial lk_4_77 nm_X4_nextToken (c_nextToken hg hw hr.1) rfl rfl (px_lit hg rfl) rfl rfl rfl ⟨rfl, rfl⟩ ?_
      intro I32 L32 h32
      obtain ⟨rfl, h32⟩ := h32
      replace hr := hr.trans h32
      refine px_ne rfl q_X4_read_35 hg rfl trivial (fun c39 => ?_) (fun c39 => ?_)
      · refine px_ine rfl q_X4_read_45 hg rfl trivial (fun c50 => ?_) (fun c50 => ?_)
        · refine px_cVW (ci := 4) rfl q_X4_read_60 hg rfl trivial lk_4_83 nm_X4_readPart (c_readPart hg hw hr.1) rfl rfl (px_lit hg rfl) rfl rfl rfl ⟨rfl, rfl⟩ ?_
          intro I61 L61 h61
          obtain ⟨rfl, h61⟩ := h61
          replace hr := hr.trans h61
          refine px_b rfl q_X4_read_64 hg rfl trivial ?_
          exact px_go (ih (i + 1) (by grind) (by grind) (by grind) _ hr) ⟨rfl, rfl, trivial⟩
        · refine px_cVW (ci := 4) rfl q_X4_read_53 hg rfl trivial lk_4_80 nm_X4_closeBlock (c_closeBlock hg hw hr.1) rfl rfl (px_lit hg rfl) rfl rfl rfl ⟨rfl, rfl⟩ ?_
          intro I54 L54 h54
          obtain ⟨rfl, h54⟩ := h54
          replace hr := hr.trans h54
          refine px_b rfl q_X4_read_57 hg rfl trivial ?_
          exact px_go (ih (i + 1) (by grind) (by grind) (by grind) _ hr) ⟨rfl, rfl, trivial⟩
      · refine px_b rfl q_X4_read_42 hg rfl trivial ?_
        exact px_go (l_read70 hg hw i hr hq) ⟨rfl, rfl, trivial⟩

/-- reading a text, cutting and all -/
def cRG (w : Nat) (I I2 : px_I) : Prop := ∀ b j, ¬ (b = 76 ∧ 7 ≤ j) → ¬ (b = 70 ∧ j = 6) → (b < 72 ∨ (75 < b ∧ b < 80) ∨ 84 < b) → b ≠ w → b ≠ w + 1 → b ≠ w + 2 → I2 b j = I b j
theorem cRd.cut {w : Nat} {I I2 : px_I} (h : cRd w I) (hF : cTF I I2) (h6 : 0 ≤ I2 70 6 ∧ I2 70 6 ≤ 401) (hN : cNu I2) : cRd w I2 := by
  obtain ⟨d0, d1, d2, d3, d4, d5, d6, d7, d8, d9⟩ := h
  refine ⟨d0, h6, hN, ?_, ?_, ?_, fun k => ?_, fun k => ?_, ?_, fun k => ?_⟩
  · rw [hF 76 7 (by omega) (by omega)]; exact d3
  · rw [hF 76 9 (by omega) (by omega)]; exact d4
  · rw [hF 76 12 (by omega) (by omega)]; exact d5
  · rw [hF 80 k (by omega) (by omega)]; exact d6 k
  · rw [hF 83 k (by omega) (by omega)]; exact d7 k
  · rw [hF w 2 (by omega) (by omega)]; exact d8
  · rw [hF (w + 2) k (by omega) (by omega)]; exact d9 k
theorem cRG.of {w : Nat} {I I1 I2 : px_I} (h : cTF I I1) (h2 : cRF w I1 I2) : cRG w I I2 := fun b j a1 a2 a3 a4 a5 a6 => (h2 b j a1 (by omega) a4 a5 a6).trans (h b j (by omega) a2)

theorem q_X4_read_0 : px_bk 4 2 cX4_read 0 [(.aload_n 0, (0, 0, 0, 0, 0), 0, 0), (.getfield 64, (4, 0, 3, 70, 0), 0, 0)] = some 4 ∧ px_tv cX4_read 4 68 = true := by decide +kernel
theorem q_X4_read_7 : px_bk 4 2 cX4_read 7 [(.aload_n 0, (0, 0, 0, 0, 0), 0, 0)] = some 8 ∧ px_tv cX4_read 8 71 = true := by decide +kernel
theorem q_X4_read_11 : px_bk 4 2 cX4_read 11 [(.iconst 0, (0, 0, 0, 0, 0), 0, 0), (.istore_n 1, (0, 0, 0, 0, 0), 0, 0)] = some 13 := by decide +kernel
set_option maxRecDepth 100000 in
theorem c_read {n : Nat} {I : px_I} {L : px_L} {R : px_R} {w : Nat} (hg : px_G n (cRW R w)) (hw : cWay n w) (hl : 0 ≤ I 70 5 ∧ I 70 5 ≤ 400) (hd : cRd w I) : px_KS M_X4_read [.ref 76] n I L (cRW R w) (fun r I2 L2 => (r = 0 ∨ r = 1) ∧ L2 = L ∧ cRd w I2 ∧ cRG w I I2) := by
  refine px_of (plainFor_of_name np_RX4) (fun _ _ _ => trivial) rfl ?_
  refine px_cVW (ci := 8) rfl q_X4_read_0 hg rfl trivial lk_4_68 nm_X8_cut (c_cut hg hl hd.2.2.1) rfl rfl (px_lit hg rfl) rfl rfl rfl ⟨rfl, rfl⟩ ?_
  intro I4 L4 h4
  obtain ⟨rfl, h4a, h4b, h4c⟩ := h4
  have hd4 := hd.cut h4a h4b h4c
  refine px_cVW (ci := 4) rfl q_X4_read_7 hg rfl trivial lk_4_71 nm_X4_begin (c_begin hg hw hd4) rfl rfl (px_lit hg rfl) rfl rfl rfl ⟨rfl, rfl⟩ ?_
  intro I8 L8 h8
  obtain ⟨rfl, h8⟩ := h8
  refine px_b rfl q_X4_read_11 hg rfl trivial ?_
  exact px_go (l_read13 hg hw h4b.2 (fun r I2 hr h => ⟨rfl, rfl, r, rfl, hr, rfl, h.1, cRG.of h4a h.2⟩) 0 (by decide) (by decide) _ h8) ⟨rfl, rfl, trivial⟩
