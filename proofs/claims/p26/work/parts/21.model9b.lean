/-! the reference: a block is closed; a whole text -/
theorem mSI.clR {I K J : px_I} {X : Int32 → Prop} {w : Int32} (h : mSI I X (I 103 35)) (hN : I 103 35 < 210) (h0 : 0 < I 103 39) (hw : w = I 126 (I 103 39 - 1).toNatClampNeg) (hK : K = mE (px_u I 103 39 (I 103 39 - 1)) 20 (w + 1))
    (j122 : ∀ q : Int32, 0 ≤ q → q ≠ w → J 122 q.toNatClampNeg = K 122 q.toNatClampNeg) (j123 : ∀ q : Int32, 0 ≤ q → q ≠ w → J 123 q.toNatClampNeg = K 123 q.toNatClampNeg)
    (j124 : J 124 = K 124) (j125 : J 125 = K 125) (j126 : J 126 = K 126) (j39 : J 103 39 = K 103 39) (j71 : J 103 71 = K 103 71) (j35 : J 103 35 = K 103 35) (hk : J 122 w.toNatClampNeg = 8 ∨ (J 122 w.toNatClampNeg = 23 ∧ J 123 w.toNatClampNeg = I 103 35 + 1)) : ∃ X, mSI J X (J 103 35) := by
  have hf : 0 ≤ I 103 35 := h.2.1.1
  have hop := h.1
  have hwb := (h.2.2.2.1 (I 103 39 - 1) (by grind) (by grind)).1
  have hwb : 0 ≤ w ∧ w < I 103 35 := by rw [hw]; exact hwb
  have i35 : px_u I 103 39 (I 103 39 - 1) 103 35 = I 103 35 := px_u_at_ne (by decide)
  have ib : ∀ b, b ≠ 103 → px_u I 103 39 (I 103 39 - 1) b = I b := fun b hb => px_u_ne hb
  have n122 : J 122 (I 103 35).toNatClampNeg = 20 := by
    rw [j122 _ hf (by grind)]
    have := mE_122 hK
    rw [i35] at this
    exact this
  have n123 : J 123 (I 103 35).toNatClampNeg = w + 1 := by
    rw [j123 _ hf (by grind)]
    have := mE_123 hK
    rw [i35] at this
    exact this
  have e := mSt.clR (o2 := fun j => J 122 j.toNatClampNeg) (v2 := fun j => J 123 j.toNatClampNeg) h hN h0 hw (fun j q1 q2 q3 => by
    have q4 := mE_lo hK (by rw [i35]; exact hf) q1 (by rw [i35]; grind)
    rw [ib 122 (by decide), ib 123 (by decide)] at q4
    exact ⟨(j122 j q1 q3).trans q4.1, (j123 j q1 q3).trans q4.2⟩) n122 n123 hk
  have f124 := j124.trans (mE_b hK (b := 124) (by decide) (by decide) (by decide))
  have f125 := j125.trans (mE_b hK (b := 125) (by decide) (by decide) (by decide))
  have f126 := j126.trans (mE_b hK (b := 126) (by decide) (by decide) (by decide))
  rw [ib 124 (by decide)] at f124
  rw [ib 125 (by decide)] at f125
  rw [ib 126 (by decide)] at f126
  have f39 : J 103 39 = I 103 39 - 1 := by rw [j39, mE_f hK (by decide), px_u_at]
  have f71 : J 103 71 = I 103 71 := by rw [j71, mE_f hK (by decide), px_u_at_ne (by decide)]
  have f35 : J 103 35 = I 103 35 + 1 := by rw [j35, mE_35 hK, i35]
  unfold mSI
  rw [f124, f125, f126, f39, f71, f35]
  exact ⟨_, e⟩
theorem mSI.clD {I K J : px_I} {X : Int32 → Prop} {w : Int32} (h : mSI I X (I 103 35)) (hN : I 103 35 < 210) (h0 : 0 < I 103 39) (hw : w = I 126 (I 103 39 - 1).toNatClampNeg) (hd : I 125 (I 103 39 - 1).toNatClampNeg = 1) (hK : K = mE (px_u I 103 39 (I 103 39 - 1)) 21 0)
    (j122 : J 122 = K 122) (j123 : ∀ q : Int32, 0 ≤ q → q ≠ w → J 123 q.toNatClampNeg = K 123 q.toNatClampNeg) (j123w : J 123 w.toNatClampNeg = I 103 35 + 1)
    (j124 : ∀ q : Int32, 0 ≤ q → q ≠ I 103 71 → J 124 q.toNatClampNeg = K 124 q.toNatClampNeg) (j124w : J 124 (I 103 71).toNatClampNeg = w + 1) (j125 : J 125 = K 125) (j126 : J 126 = K 126) (j39 : J 103 39 = K 103 39) (j71 : J 103 71 = K 103 71) (j35 : J 103 35 = K 103 35) : ∃ X, mSI J X (J 103 35) := by
  have hf : 0 ≤ I 103 35 := h.2.1.1
  have hop := h.1
  have hwb := (h.2.2.2.1 (I 103 39 - 1) (by grind) (by grind)).1
  have hwb : 0 ≤ w ∧ w < I 103 35 := by rw [hw]; exact hwb
  have i35 : px_u I 103 39 (I 103 39 - 1) 103 35 = I 103 35 := px_u_at_ne (by decide)
  have ib : ∀ b, b ≠ 103 → px_u I 103 39 (I 103 39 - 1) b = I b := fun b hb => px_u_ne hb
  have f124 := mE_b hK (b := 124) (by decide) (by decide) (by decide)
  rw [ib 124 (by decide)] at f124
  have n122 : J 122 (I 103 35).toNatClampNeg = 21 := by
    rw [j122]
    have := mE_122 hK
    rw [i35] at this
    exact this
  have e := mSt.clD (o2 := fun j => J 122 j.toNatClampNeg) (v2 := fun j => J 123 j.toNatClampNeg) (dA2 := fun j => J 124 j.toNatClampNeg) h hN h0 hw hd (fun j q1 q2 => by
    have q4 := mE_lo hK (by rw [i35]; exact hf) q1 (by rw [i35]; grind)
    rw [ib 122 (by decide), ib 123 (by decide)] at q4
    exact ⟨(congrFun j122 _).trans q4.1, fun q3 => (j123 j q1 q3).trans q4.2⟩) n122 j123w (fun l l1 l2 l3 => by
      show J 124 _ = I 124 _
      rw [j124 l l1 l3, f124]) j124w
  have f125 := j125.trans (mE_b hK (b := 125) (by decide) (by decide) (by decide))
  have f126 := j126.trans (mE_b hK (b := 126) (by decide) (by decide) (by decide))
  rw [ib 125 (by decide)] at f125
  rw [ib 126 (by decide)] at f126
  have f39 : J 103 39 = I 103 39 - 1 := by rw [j39, mE_f hK (by decide), px_u_at]
  have f71 : J 103 71 = I 103 71 := by rw [j71, mE_f hK (by decide), px_u_at_ne (by decide)]
  have f35 : J 103 35 = I 103 35 + 1 := by rw [j35, mE_35 hK, i35]
  unfold mSI
  rw [f125, f126, f39, f71, f35]
  exact ⟨_, e⟩
theorem mSI.fl {I : px_I} (h : ∃ X, mSI I X (I 103 35)) (k : Nat) (v : Int32) (hk : k ≠ 39 ∧ k ≠ 71 ∧ k ≠ 35 := by decide) : ∃ X, mSI (px_u I 103 k v) X (px_u I 103 k v 103 35) := by
  obtain ⟨X, h⟩ := h
  exact ⟨X, by rw [px_u_at_ne (Ne.symm hk.2.2)]; exact h.fld k v ⟨hk.1, hk.2.1⟩⟩

theorem q_X12_closesBrace_195 : px_bk 12 4 cX12_closesBrace 195 [(.aload_n 0, (0, 0, 0, 0, 0), 0, 0)] = some 196 ∧ px_tv cX12_closesBrace 196 340 = true := by decide +kernel
theorem q_X12_closesBrace_199 : px_bk 12 4 cX12_closesBrace 199 [] = some 199 ∧ px_tr cX12_closesBrace 199 .return_ = true := by decide +kernel
set_option maxRecDepth 100000 in
theorem l_close195 {n : Nat} {R : px_R} (hg : px_G n R) {Q : px_Q} (a b c : Int32) {I J : px_I} {L : px_L} (h : mPI I 0) (hlt : I 103 28 < I 103 27) (hP : mPF I J) (hX : ∃ X, mSI J X (J 103 35)) (j31 : J 103 31 = 0) (j35 : J 103 35 = I 103 35 + 1) (j39 : J 103 39 = I 103 39 - 1) (j27 : J 103 27 = I 103 27) (j26 : J 103 26 = I 103 26) (hq : ∀ I2, mPo I I2 → Q none n I2 L R) : px M_X12_closesBrace 0 0 195 [(0, .ref 103), (1, .int a), (2, .int b), (3, .int c)] [] n J L R Q := by
  have hat := h.at
  obtain ⟨hN, hop⟩ := h.N (by decide)
  obtain ⟨hk1, -, -, hk4, -⟩ := id h
  refine px_cVW (ci := 12) rfl q_X12_closesBrace_195 hg rfl trivial lk_12_340 nm_X12_next (k_next hg (by rw [j27, j26]; exact hat)) rfl rfl (px_lit hg rfl) rfl rfl rfl ⟨rfl, rfl⟩ ?_
  intro I196 L196 h196
  refine px_rv rfl q_X12_closesBrace_199 rfl rfl rfl hg rfl trivial ?_
  obtain ⟨rfl, g1, g2, g3⟩ := h196
  have g9 := g3.b
  exact hq _ ⟨hP.trans g1.P, Or.inr ⟨mPI.nx g1 g3 j31 (by grind) (by grind) hX, by grind⟩⟩

theorem q_X12_closesBrace_144 : px_bk 12 4 cX12_closesBrace 144 [(.aload_n 0, (0, 0, 0, 0, 0), 0, 0), (.getfield 90, (12, 42, 3, 127, 0), 0, 0), (.aload_n 0, (0, 0, 0, 0, 0), 0, 0), (.getfield 337, (12, 39, 0, 0, 0), 0, 0), (.aload_n 0, (0, 0, 0, 0, 0), 0, 0), (.getfield 90, (12, 42, 3, 127, 0), 0, 0), (.aload_n 0, (0, 0, 0, 0, 0), 0, 0), (.getfield 337, (12, 39, 0, 0, 0), 0, 0), (.baload, (0, 0, 0, 0, 0), 0, 0)] = some 161 ∧ px_t1 cX12_closesBrace 161 .ne 168 = true := by decide +kernel
theorem q_X12_closesBrace_168 : px_bk 12 4 cX12_closesBrace 168 [(.iconst 1, (0, 0, 0, 0, 0), 1, 0), (.goto 4, (0, 0, 0, 0, 0), 0, 0), (.bastore, (0, 0, 0, 0, 0), 0, 0), (.aload_n 0, (0, 0, 0, 0, 0), 0, 0), (.dup, (0, 0, 0, 0, 0), 0, 0), (.getfield 354, (12, 72, 0, 0, 0), 0, 0), (.aload_n 0, (0, 0, 0, 0, 0), 0, 0), (.getfield 337, (12, 39, 0, 0, 0), 0, 0)] = some 183 ∧ px_t1 cX12_closesBrace 183 .ne 190 = true := by decide +kernel
theorem q_X12_closesBrace_190 : px_bk 12 4 cX12_closesBrace 190 [(.iconst 0, (0, 0, 0, 0, 0), 0, 0), (.iadd, (0, 0, 0, 0, 0), 0, 0), (.putfield 354, (12, 72, 0, 0, 0), 0, 0)] = some 195 := by decide +kernel
theorem q_X12_closesBrace_186 : px_bk 12 4 cX12_closesBrace 186 [(.iconst 1, (0, 0, 0, 0, 0), 1, 0), (.goto 4, (0, 0, 0, 0, 0), 0, 0), (.iadd, (0, 0, 0, 0, 0), 0, 0), (.putfield 354, (12, 72, 0, 0, 0), 0, 0)] = some 195 := by decide +kernel
theorem q_X12_closesBrace_164 : px_bk 12 4 cX12_closesBrace 164 [(.iload_n 1, (0, 0, 0, 0, 0), 0, 0)] = some 165 ∧ px_t1 cX12_closesBrace 165 .eq 172 = true := by decide +kernel
theorem q_X12_closesBrace_172 : px_bk 12 4 cX12_closesBrace 172 [(.iconst 0, (0, 0, 0, 0, 0), 0, 0), (.bastore, (0, 0, 0, 0, 0), 0, 0), (.aload_n 0, (0, 0, 0, 0, 0), 0, 0), (.dup, (0, 0, 0, 0, 0), 0, 0), (.getfield 354, (12, 72, 0, 0, 0), 0, 0), (.aload_n 0, (0, 0, 0, 0, 0), 0, 0), (.getfield 337, (12, 39, 0, 0, 0), 0, 0)] = some 183 ∧ px_t1 cX12_closesBrace 183 .ne 190 = true := by decide +kernel
set_option maxRecDepth 100000 in
theorem l_close144 {n : Nat} {R : px_R} (hg : px_G n R) {Q : px_Q} (a b c : Int32) {I J : px_I} {L : px_L} (h : mPI I 0) (hlt : I 103 28 < I 103 27) (hP : mPF I J) (hX : ∃ X, mSI J X (J 103 35)) (j31 : J 103 31 = 0) (j35 : J 103 35 = I 103 35 + 1) (j39 : J 103 39 = I 103 39 - 1) (jo : 0 ≤ J 103 39 ∧ J 103 39 < 10) (j27 : J 103 27 = I 103 27) (j26 : J 103 26 = I 103 26) (hq : ∀ I2, mPo I I2 → Q none n I2 L R) : px M_X12_closesBrace 0 0 144 [(0, .ref 103), (1, .int a), (2, .int b), (3, .int c)] [] n J L R Q := by
  skip
  refine px_ne rfl q_X12_closesBrace_144 hg rfl ⟨trivial, (by first | with_reducible assumption)⟩ (fun c161 => ?_) (fun c161 => ?_)
  · refine px_ne rfl q_X12_closesBrace_168 hg rfl ⟨trivial, (by first | with_reducible assumption)⟩ (fun c183 => ?_) (fun c183 => ?_)
    · refine px_b rfl q_X12_closesBrace_190 hg rfl trivial ?_
      exact px_go (l_close195 hg a b c h hlt ((hP.a 127 _ _).u 72 _) (mSI.fl (mSI.st hX _ _) 72 _) (by simp [px_ur]; exact j31) (by simp [px_ur]; exact j35) (by simp [px_ur]; exact j39) (by simp [px_ur]; exact j27) (by simp [px_ur]; exact j26) hq) ⟨rfl, rfl, rfl, rfl, trivial⟩
    · refine px_b rfl q_X12_closesBrace_186 hg rfl trivial ?_
      exact px_go (l_close195 hg a b c h hlt ((hP.a 127 _ _).u 72 _) (mSI.fl (mSI.st hX _ _) 72 _) (by simp [px_ur]; exact j31) (by simp [px_ur]; exact j35) (by simp [px_ur]; exact j39) (by simp [px_ur]; exact j27) (by simp [px_ur]; exact j26) hq) ⟨rfl, rfl, rfl, rfl, trivial⟩
  · refine px_eq rfl q_X12_closesBrace_164 hg rfl trivial (fun c165 => ?_) (fun c165 => ?_)
    · refine px_ne rfl q_X12_closesBrace_172 hg rfl ⟨trivial, (by first | with_reducible assumption)⟩ (fun c183 => ?_) (fun c183 => ?_)
      · refine px_b rfl q_X12_closesBrace_190 hg rfl trivial ?_
        exact px_go (l_close195 hg a b c h hlt ((hP.a 127 _ _).u 72 _) (mSI.fl (mSI.st hX _ _) 72 _) (by simp [px_ur]; exact j31) (by simp [px_ur]; exact j35) (by simp [px_ur]; exact j39) (by simp [px_ur]; exact j27) (by simp [px_ur]; exact j26) hq) ⟨rfl, rfl, rfl, rfl, trivial⟩
      · refine px_b rfl q_X12_closesBrace_186 hg rfl trivial ?_
        exact px_go (l_close195 hg a b c h hlt ((hP.a 127 _ _).u 72 _) (mSI.fl (mSI.st hX _ _) 72 _) (by simp [px_ur]; exact j31) (by simp [px_ur]; exact j35) (by simp [px_ur]; exact j39) (by simp [px_ur]; exact j27) (by simp [px_ur]; exact j26) hq) ⟨rfl, rfl, rfl, rfl, trivial⟩
    · refine px_ne rfl q_X12_closesBrace_168 hg rfl ⟨trivial, (by first | with_reducible assumption)⟩ (fun c183 => ?_) (fun c183 => ?_)
      · refine px_b rfl q_X12_closesBrace_190 hg rfl trivial ?_
        exact px_go (l_close195 hg a b c h hlt ((hP.a 127 _ _).u 72 _) (mSI.fl (mSI.st hX _ _) 72 _) (by simp [px_ur]; exact j31) (by simp [px_ur]; exact j35) (by simp [px_ur]; exact j39) (by simp [px_ur]; exact j27) (by simp [px_ur]; exact j26) hq) ⟨rfl, rfl, rfl, rfl, trivial⟩
      · refine px_b rfl q_X12_closesBrace_186 hg rfl trivial ?_
        exact px_go (l_close195 hg a b c h hlt ((hP.a 127 _ _).u 72 _) (mSI.fl (mSI.st hX _ _) 72 _) (by simp [px_ur]; exact j31) (by simp [px_ur]; exact j35) (by simp [px_ur]; exact j39) (by simp [px_ur]; exact j27) (by simp [px_ur]; exact j26) hq) ⟨rfl, rfl, rfl, rfl, trivial⟩

theorem q_X12_closesBrace_0 : px_bk 12 4 cX12_closesBrace 0 [(.aload_n 0, (0, 0, 0, 0, 0), 0, 0), (.getfield 90, (12, 42, 3, 127, 0), 0, 0), (.aload_n 0, (0, 0, 0, 0, 0), 0, 0), (.getfield 337, (12, 39, 0, 0, 0), 0, 0), (.baload, (0, 0, 0, 0, 0), 0, 0), (.istore_n 1, (0, 0, 0, 0, 0), 0, 0), (.aload_n 0, (0, 0, 0, 0, 0), 0, 0), (.dup, (0, 0, 0, 0, 0), 0, 0), (.getfield 337, (12, 39, 0, 0, 0), 0, 0), (.iconst 1, (0, 0, 0, 0, 0), 1, 0), (.isub, (0, 0, 0, 0, 0), 0, 0), (.putfield 337, (12, 39, 0, 0, 0), 0, 0), (.aload_n 0, (0, 0, 0, 0, 0), 0, 0), (.getfield 87, (12, 41, 3, 126, 0), 0, 0), (.aload_n 0, (0, 0, 0, 0, 0), 0, 0), (.getfield 337, (12, 39, 0, 0, 0), 0, 0), (.iaload, (0, 0, 0, 0, 0), 0, 0), (.istore_n 2, (0, 0, 0, 0, 0), 0, 0), (.aload_n 0, (0, 0, 0, 0, 0), 0, 0), (.getfield 84, (12, 40, 3, 125, 0), 0, 0), (.aload_n 0, (0, 0, 0, 0, 0), 0, 0), (.getfield 337, (12, 39, 0, 0, 0), 0, 0), (.iaload, (0, 0, 0, 0, 0), 0, 0), (.iconst 1, (0, 0, 0, 0, 0), 1, 0)] = some 40 ∧ px_t2 cX12_closesBrace 40 .ne 95 = true := by decide +kernel
theorem q_X12_closesBrace_95 : px_bk 12 4 cX12_closesBrace 95 [(.aload_n 0, (0, 0, 0, 0, 0), 0, 0), (.bipush 20, (0, 0, 0, 0, 0), 20, 0), (.iload_n 2, (0, 0, 0, 0, 0), 0, 0), (.iconst 1, (0, 0, 0, 0, 0), 1, 0), (.iadd, (0, 0, 0, 0, 0), 0, 0)] = some 101 ∧ px_tv cX12_closesBrace 101 346 = true := by decide +kernel
theorem q_X12_closesBrace_104 : px_bk 12 4 cX12_closesBrace 104 [(.istore_n 3, (0, 0, 0, 0, 0), 0, 0), (.aload_n 0, (0, 0, 0, 0, 0), 0, 0), (.getfield 75, (12, 36, 3, 122, 0), 0, 0), (.iload_n 2, (0, 0, 0, 0, 0), 0, 0), (.iload_n 1, (0, 0, 0, 0, 0), 0, 0)] = some 111 ∧ px_t1 cX12_closesBrace 111 .eq 119 = true := by decide +kernel
theorem q_X12_closesBrace_119 : px_bk 12 4 cX12_closesBrace 119 [(.bipush 23, (0, 0, 0, 0, 0), 23, 0), (.iastore, (0, 0, 0, 0, 0), 0, 0), (.aload_n 0, (0, 0, 0, 0, 0), 0, 0), (.getfield 78, (12, 37, 3, 123, 0), 0, 0), (.iload_n 2, (0, 0, 0, 0, 0), 0, 0), (.iload_n 1, (0, 0, 0, 0, 0), 0, 0)] = some 128 ∧ px_t1 cX12_closesBrace 128 .eq 140 = true := by decide +kernel
theorem q_X12_closesBrace_140 : px_bk 12 4 cX12_closesBrace 140 [(.iload_n 3, (0, 0, 0, 0, 0), 0, 0), (.iconst 1, (0, 0, 0, 0, 0), 1, 0), (.iadd, (0, 0, 0, 0, 0), 0, 0), (.iastore, (0, 0, 0, 0, 0), 0, 0)] = some 144 := by decide +kernel
theorem q_X12_closesBrace_114 : px_bk 12 4 cX12_closesBrace 114 [(.bipush 8, (0, 0, 0, 0, 0), 8, 0), (.goto 5, (0, 0, 0, 0, 0), 0, 0), (.iastore, (0, 0, 0, 0, 0), 0, 0), (.aload_n 0, (0, 0, 0, 0, 0), 0, 0), (.getfield 78, (12, 37, 3, 123, 0), 0, 0), (.iload_n 2, (0, 0, 0, 0, 0), 0, 0), (.iload_n 1, (0, 0, 0, 0, 0), 0, 0)] = some 128 ∧ px_t1 cX12_closesBrace 128 .eq 140 = true := by decide +kernel
theorem q_X12_closesBrace_131 : px_bk 12 4 cX12_closesBrace 131 [(.aload_n 0, (0, 0, 0, 0, 0), 0, 0), (.getfield 78, (12, 37, 3, 123, 0), 0, 0), (.iload_n 2, (0, 0, 0, 0, 0), 0, 0), (.iaload, (0, 0, 0, 0, 0), 0, 0), (.goto 6, (0, 0, 0, 0, 0), 0, 0), (.iastore, (0, 0, 0, 0, 0), 0, 0)] = some 144 := by decide +kernel
theorem q_X12_closesBrace_43 : px_bk 12 4 cX12_closesBrace 43 [(.aload_n 0, (0, 0, 0, 0, 0), 0, 0), (.bipush 21, (0, 0, 0, 0, 0), 21, 0), (.iconst 0, (0, 0, 0, 0, 0), 0, 0)] = some 47 ∧ px_tv cX12_closesBrace 47 346 = true := by decide +kernel
theorem q_X12_closesBrace_50 : px_bk 12 4 cX12_closesBrace 50 [(.istore_n 3, (0, 0, 0, 0, 0), 0, 0), (.aload_n 0, (0, 0, 0, 0, 0), 0, 0), (.getfield 78, (12, 37, 3, 123, 0), 0, 0), (.iload_n 2, (0, 0, 0, 0, 0), 0, 0), (.iload_n 3, (0, 0, 0, 0, 0), 0, 0), (.iconst 1, (0, 0, 0, 0, 0), 1, 0), (.iadd, (0, 0, 0, 0, 0), 0, 0), (.iastore, (0, 0, 0, 0, 0), 0, 0), (.aload_n 0, (0, 0, 0, 0, 0), 0, 0), (.getfield 81, (12, 38, 3, 124, 0), 0, 0), (.aload_n 0, (0, 0, 0, 0, 0), 0, 0), (.getfield 343, (12, 71, 0, 0, 0), 0, 0), (.iload_n 2, (0, 0, 0, 0, 0), 0, 0), (.iconst 1, (0, 0, 0, 0, 0), 1, 0), (.iadd, (0, 0, 0, 0, 0), 0, 0), (.iastore, (0, 0, 0, 0, 0), 0, 0), (.aload_n 0, (0, 0, 0, 0, 0), 0, 0), (.getfield 94, (12, 43, 3, 128, 0), 0, 0), (.aload_n 0, (0, 0, 0, 0, 0), 0, 0), (.getfield 343, (12, 71, 0, 0, 0), 0, 0), (.iload_n 1, (0, 0, 0, 0, 0), 0, 0), (.bastore, (0, 0, 0, 0, 0), 0, 0), (.aload_n 0, (0, 0, 0, 0, 0), 0, 0), (.dup, (0, 0, 0, 0, 0), 0, 0), (.getfield 354, (12, 72, 0, 0, 0), 0, 0), (.iconst 1, (0, 0, 0, 0, 0), 1, 0), (.iadd, (0, 0, 0, 0, 0), 0, 0), (.putfield 354, (12, 72, 0, 0, 0), 0, 0), (.goto 103, (0, 0, 0, 0, 0), 0, 0)] = some 195 := by decide +kernel
set_option maxRecDepth 100000 in
theorem k_closesBrace {n : Nat} {I : px_I} {L : px_L} {R : px_R} (hg : px_G n R) (h : mPI I 0) (hlt : I 103 28 < I 103 27) (h0 : 0 < I 103 39) : px_KV M_X12_closesBrace [.ref 103] n I L R (fun I2 L2 => L2 = L ∧ mPo I I2) := by
  refine px_of (plainFor_of_name np_RX12) (fun _ _ _ => trivial) rfl ?_
  have hat := h.at
  have hN2 := h.N (by decide)
  have h1 := h.2.1
  have ho1 : 0 ≤ I 103 39 ∧ I 103 39 < 10 := by have := hN2.2; grind
  have ho2 : 0 ≤ I 103 39 - 1 ∧ I 103 39 - 1 < 9 := by have := hN2.2; grind
  have ho3 : I 103 39 - 1 < I 103 39 := by have := hN2.2; grind
  have hN : 0 ≤ I 103 35 ∧ I 103 35 < 210 := by have := hN2.1; grind
  obtain ⟨hk1, -, -, hk4, X, hX⟩ := id h
  have hw := (hX.2.2.2.1 (I 103 39 - 1) ho2.1 ho3)
  have hdf := hw.2.2
  have hw := hw.1
  have hw2 : 0 ≤ I 126 (I 103 39 - 1).toNatClampNeg ∧ I 126 (I 103 39 - 1).toNatClampNeg < 220 := ⟨hw.1, Int32.lt_trans hw.2 (Int32.lt_trans hN.2 (by decide))⟩
  have hq9 : ∀ I2, mPo I I2 → n = n ∧ R = R ∧ (none : Option Value) = none ∧ L = L ∧ mPo I I2 := fun I2 hp => ⟨rfl, rfl, rfl, rfl, hp⟩
  refine px_ine rfl q_X12_closesBrace_0 hg rfl ⟨⟨⟨trivial, (by first | with_reducible assumption | (rw [e71]; with_reducible assumption))⟩, (by first | with_reducible assumption | (rw [e71]; with_reducible assumption))⟩, (by first | with_reducible assumption | (rw [e71]; with_reducible assumption))⟩ (fun c40 => ?_) (fun c40 => ?_)
  · refine px_cVS (ci := 12) rfl q_X12_closesBrace_95 hg rfl trivial lk_12_346 nm_X12_emits (k_emits hg _ _ (by simp [px_ur]; grind)) rfl rfl (px_lit hg rfl) rfl rfl rfl ⟨rfl, rfl⟩ ?_
    intro x101 I101 L101 h101
    obtain ⟨rfl, rfl, h101⟩ := h101
    have e39 := mE_f h101 (j := 39) (by decide)
    have e35 := mE_35 h101
    have e31 := mE_f h101 (j := 31) (by decide)
    have e28 := mE_f h101 (j := 28) (by decide)
    have e27 := mE_f h101 (j := 27) (by decide)
    have e26 := mE_f h101 (j := 26) (by decide)
    have eP := mE_P h101
    refine px_eq rfl q_X12_closesBrace_104 hg rfl trivial (fun c111 => ?_) (fun c111 => ?_)
    · refine px_eq rfl q_X12_closesBrace_119 hg rfl ⟨trivial, (by first | with_reducible assumption | (rw [e71]; with_reducible assumption))⟩ (fun c128 => ?_) (fun c128 => ?_)
      · refine px_b rfl q_X12_closesBrace_140 hg rfl ⟨trivial, (by first | with_reducible assumption | (rw [e71]; with_reducible assumption))⟩ ?_
        exact px_go (l_close144 hg _ _ _ h hlt (((mPF.rfl'.u 39 _).trans eP).trans ((mPF.rfl'.a 122 _ _).a 123 _ _)) (hX.clR hN.2 h0 rfl h101 (fun q q1 q2 => by rw [px_u_ne (by decide), px_uJ q1 hw.1 q2]) (fun q q1 q2 => by rw [px_uJ q1 hw.1 q2, px_u_ne (by decide)]) (by funext j; simp [px_ur]) (by funext j; simp [px_ur]) (by funext j; simp [px_ur]) (by simp [px_ur]) (by simp [px_ur]) (by simp [px_ur]) (Or.inr ⟨by simp [px_ur], by simp [px_ur]⟩)) (by simp only [px_ur, e31]; simpa using h1) (by simp [px_ur, e35]) (by simp [px_ur, e39]) (by simp [px_ur, e39]; grind) (by simp [px_ur, e27]) (by simp [px_ur, e26]) hq9) ⟨rfl, rfl, rfl, rfl, trivial⟩
      · exact absurd c111 c128
    · refine px_eq rfl q_X12_closesBrace_114 hg rfl ⟨trivial, (by first | with_reducible assumption | (rw [e71]; with_reducible assumption))⟩ (fun c128 => ?_) (fun c128 => ?_)
      · exact absurd c128 c111
      · refine px_b rfl q_X12_closesBrace_131 hg rfl ⟨⟨trivial, (by first | with_reducible assumption | (rw [e71]; with_reducible assumption))⟩, (by first | with_reducible assumption | (rw [e71]; with_reducible assumption))⟩ ?_
        exact px_go (l_close144 hg _ _ _ h hlt (((mPF.rfl'.u 39 _).trans eP).trans ((mPF.rfl'.a 122 _ _).a 123 _ _)) (hX.clR hN.2 h0 rfl h101 (fun q q1 q2 => by rw [px_u_ne (by decide), px_uJ q1 hw.1 q2]) (fun q q1 q2 => by rw [px_uJ q1 hw.1 q2, px_u_ne (by decide)]) (by funext j; simp [px_ur]) (by funext j; simp [px_ur]) (by funext j; simp [px_ur]) (by simp [px_ur]) (by simp [px_ur]) (by simp [px_ur]) (Or.inl (by simp [px_ur]))) (by simp only [px_ur, e31]; simpa using h1) (by simp [px_ur, e35]) (by simp [px_ur, e39]) (by simp [px_ur, e39]; grind) (by simp [px_ur, e27]) (by simp [px_ur, e26]) hq9) ⟨rfl, rfl, rfl, rfl, trivial⟩
  · refine px_cVS (ci := 12) rfl q_X12_closesBrace_43 hg rfl trivial lk_12_346 nm_X12_emits (k_emits hg _ _ (by simp [px_ur]; grind)) rfl rfl (px_lit hg rfl) rfl rfl rfl ⟨rfl, rfl⟩ ?_
    intro x47 I47 L47 h47
    obtain ⟨rfl, rfl, h47⟩ := h47
    have e39 := mE_f h47 (j := 39) (by decide)
    have e35 := mE_35 h47
    have e31 := mE_f h47 (j := 31) (by decide)
    have e28 := mE_f h47 (j := 28) (by decide)
    have e27 := mE_f h47 (j := 27) (by decide)
    have e26 := mE_f h47 (j := 26) (by decide)
    have eP := mE_P h47
    have e71 := mE_f h47 (j := 71) (by decide)
    rw [px_u_at_ne (by decide)] at e71
    obtain ⟨d1, d2, d3, d4⟩ := hdf (by assumption)
    have d5 : 0 ≤ I 103 71 ∧ I 103 71 < 8 := by grind
    refine px_b rfl q_X12_closesBrace_50 hg rfl ⟨⟨⟨trivial, (by first | with_reducible assumption | (rw [e71]; with_reducible assumption))⟩, (by first | with_reducible assumption | (rw [e71]; with_reducible assumption))⟩, (by first | with_reducible assumption | (rw [e71]; with_reducible assumption))⟩ ?_
    exact px_go (l_close195 hg _ _ _ h hlt (((mPF.rfl'.u 39 _).trans eP).trans ((((mPF.rfl'.a 123 _ _).a 124 _ _).a 128 _ _).u 72 _)) (hX.clD hN.2 h0 rfl (by assumption) h47 (by funext j; simp [px_ur]) (fun q q1 q2 => by simp only [px_u_ne (show (123 : Nat) ≠ 103 by decide), px_u_ne (show (123 : Nat) ≠ 128 by decide), px_u_ne (show (123 : Nat) ≠ 124 by decide)]; rw [px_uJ q1 hw.1 q2]) (by simp [px_ur]) (fun q q1 q2 => by simp only [px_u_ne (show (124 : Nat) ≠ 103 by decide), px_u_ne (show (124 : Nat) ≠ 128 by decide), px_u_ne (show (124 : Nat) ≠ 123 by decide), e71]; rw [px_uJ q1 d5.1 q2, px_u_ne (by decide)]) (by simp only [px_u_ne (show (124 : Nat) ≠ 103 by decide), px_u_ne (show (124 : Nat) ≠ 128 by decide), e71]; rw [px_u_at]) (by funext j; simp [px_ur]) (by funext j; simp [px_ur]) (by simp [px_ur]) (by simp [px_ur]) (by simp [px_ur])) (by simp only [px_ur, e31]; simpa using h1) (by simp [px_ur, e35]) (by simp [px_ur, e39]) (by simp [px_ur, e27]) (by simp [px_ur, e26]) hq9) ⟨rfl, rfl, rfl, rfl, trivial⟩

/-- what way may change -/
def mWF (I I2 : px_I) : Prop := ∀ b j, (b < 122 ∨ 131 < b) → ¬ (b = 103 ∧ ((25 ≤ j ∧ j ≤ 35) ∨ j = 39 ∨ j = 71 ∨ j = 72)) → I2 b j = I b j
theorem mWF.rfl' {I : px_I} : mWF I I := fun _ _ _ _ => rfl
theorem mWF.trans {I I1 I2 : px_I} (h : mWF I I1) (h2 : mWF I1 I2) : mWF I I2 := fun b j h3 h4 => (h2 b j h3 h4).trans (h b j h3 h4)
theorem mPF.W {I I2 : px_I} (h : mPF I I2) : mWF I I2 := fun b j h1 h2 => h b j (by omega) (fun q => h2 ⟨q.1, by omega⟩)
theorem mWF.u {I I1 : px_I} (h : mWF I I1) (k : Nat) (v : Int32) (hk : (25 ≤ k ∧ k ≤ 35) ∨ k = 39 ∨ k = 71 ∨ k = 72 := by decide) : mWF I (px_u I1 103 k v) := fun b j h3 h4 => by rw [px_ur, ← h b j h3 h4]; grind
theorem mWF.a {I I1 : px_I} (h : mWF I I1) (b k : Nat) (v : Int32) (hb : 122 ≤ b ∧ b ≤ 131 := by decide) : mWF I (px_u I1 b k v) := fun b2 j h3 h4 => by rw [px_u_ne (by omega)]; exact h b2 j h3 h4
theorem mSI.zero {I : px_I} (h39 : I 103 39 = 0) (h : ∀ l : Int32, 0 ≤ l → l ≤ 7 → I 124 l.toNatClampNeg = -1) : mSI I (fun _ => False) 0 := by
  have hn := mNd_in (fun j => I 124 j.toNatClampNeg)
  unfold mSI
  rw [h39]
  refine ⟨⟨by decide, by decide⟩, ⟨by decide, by decide⟩, fun j hj => hj.elim, fun q q1 q2 => by grind, fun p q p1 p2 p3 => by grind, fun q q1 q2 => ?_, fun l l1 l2 l3 => ?_⟩
  · have hq : q = 0 := by grind
    subst hq
    rw [if_pos rfl, if_pos rfl]
    exact mReg.nil (by grind)
  · have := h l l1 l2
    grind
/-- a text without a fault is a way -/
theorem mOrd_of {I K J : px_I} {w : Int32} (hp : mPI I 0) (h0 : I 103 39 = 0) (hw : 0 ≤ w ∧ w ≤ 5) (hK : K = mE I 22 0) (hJ : ∀ q : Int32, 0 ≤ q → q < I 103 35 + 1 → J 130 (220 * w + q).toNatClampNeg = K 122 q.toNatClampNeg ∧ J 131 (220 * w + q).toNatClampNeg = K 123 q.toNatClampNeg) : mOrd J w := by
  have hN := (hp.N (by decide)).1
  obtain ⟨-, -, -, -, X, hX⟩ := hp
  have hn := mNd_in (fun j => I 124 j.toNatClampNeg)
  have h2 := hX.em hK rfl
  obtain ⟨a1, a2, a3, a4, a5, a6, a7⟩ := h2
  have e39 := (mE_f hK (j := 39) (by decide)).trans h0
  have e124 := mE_b hK (b := 124) (by decide) (by decide) (by decide)
  have b6 := a6 0 (by decide) (by rw [e39]; decide)
  rw [if_pos rfl, if_pos e39.symm, e124] at b6
  refine ⟨fun j => X j ∨ j = I 103 35, 9 - 0 + 8 * mNd (fun j => I 124 j.toNatClampNeg), I 103 35, fun j hj => ?_, b6.cg (fun j hj => ?_), by grind, Or.inr rfl, ?_⟩
  · rcases hj with hj | rfl
    · have := a3 j hj; grind
    · grind
  · have := a3 j hj
    have q := hJ j this.1 (by grind)
    exact ⟨Or.inl hj, q.1, q.2⟩
  · rw [(hJ _ hN.1 (by grind)).1]
    exact mE_122 hK
def mLoopPost (I I2 : px_I) (w r : Int32) : Prop := mWF I I2 ∧ I2 103 25 = I 103 25 ∧ mWays I2 ∧ (∀ k, I2 129 k = I 129 k ∨ I2 129 k = px_u I 129 w.toNatClampNeg 1 129 k)

theorem mIx {w q z : Int32} (hw : 0 ≤ w ∧ w ≤ 5) (hq : 0 ≤ q ∧ q < 220) (hz : 0 ≤ z ∧ z < 220) (h : q ≠ z) : (220 * w + q).toNatClampNeg ≠ (220 * w + z).toNatClampNeg := mNat_inj (by grind) (by grind) (by grind)
theorem mIw {w w2 q z : Int32} (hw : 0 ≤ w ∧ w ≤ 5) (hw2 : 0 ≤ w2 ∧ w2 ≤ 5) (hq : 0 ≤ q ∧ q < 220) (hz : 0 ≤ z ∧ z < 220) (h : w2 ≠ w) : (220 * w2 + q).toNatClampNeg ≠ (220 * w + z).toNatClampNeg := mNat_inj (by grind) (by grind) (by
  have hw3 : w = 0 ∨ w = 1 ∨ w = 2 ∨ w = 3 ∨ w = 4 ∨ w = 5 := by grind
  have hw4 : w2 = 0 ∨ w2 = 1 ∨ w2 = 2 ∨ w2 = 3 ∨ w2 = 4 ∨ w2 = 5 := by grind
  rcases hw3 with rfl | rfl | rfl | rfl | rfl | rfl <;> rcases hw4 with rfl | rfl | rfl | rfl | rfl | rfl <;> first | exact absurd rfl h | grind)
/-- the orders are taken over, from there on -/
def mCp (K J : px_I) (w k : Int32) : Prop := (∀ q : Int32, 0 ≤ q → q < k → J 130 (220 * w + q).toNatClampNeg = K 122 q.toNatClampNeg ∧ J 131 (220 * w + q).toNatClampNeg = K 123 q.toNatClampNeg) ∧ (∀ q : Nat, (∀ z : Int32, 0 ≤ z → z < 220 → q ≠ (220 * w + z).toNatClampNeg) → J 130 q = K 130 q ∧ J 131 q = K 131 q) ∧ (∀ b, b ≠ 130 → b ≠ 131 → J b = K b)
theorem mCp.up {K J : px_I} {w k : Int32} (h : mCp K J w k) (hw : 0 ≤ w ∧ w ≤ 5) (hk : 0 ≤ k ∧ k < 220) : mCp K (px_u (px_u J 130 (220 * w + k).toNatClampNeg (J 122 k.toNatClampNeg)) 131 (220 * w + k).toNatClampNeg (J 123 k.toNatClampNeg)) w (k + 1) := by
  obtain ⟨h1, h2, h3⟩ := h
  refine ⟨fun q q1 q2 => ?_, fun q hq => ?_, fun b b1 b2 => ?_⟩
  · by_cases hqk : q = k
    · subst hqk
      rw [px_u_ne (by decide), px_u_at, px_u_at, h3 122 (by decide) (by decide), h3 123 (by decide) (by decide)]
      exact ⟨rfl, rfl⟩
    · have hx := mIx hw (q := q) (z := k) ⟨q1, by grind⟩ hk hqk
      rw [px_u_ne (show (130 : Nat) ≠ 131 by decide), px_u_at_ne hx, px_u_at_ne hx, px_u_ne (show (131 : Nat) ≠ 130 by decide)]
      exact h1 q q1 (by grind)
  · have hx := hq k hk.1 hk.2
    rw [px_u_ne (show (130 : Nat) ≠ 131 by decide), px_u_at_ne hx, px_u_at_ne hx, px_u_ne (show (131 : Nat) ≠ 130 by decide)]
    exact h2 q hq
  · rw [px_u_ne b2, px_u_ne b1]
    exact h3 b b1 b2
theorem mCp.done {I K J : px_I} {w : Int32} (h : mCp K J w (I 103 35 + 1)) (hp : mPI I 0) (h0 : I 103 39 = 0) (hw : 0 ≤ w ∧ w ≤ 5) (hK : K = mE I 22 0) (hW : mWays I) : mWays (px_u J 129 w.toNatClampNeg 1) := by
  obtain ⟨h1, h2, h3⟩ := h
  have hN := (hp.N (by decide)).1
  have ho := mOrd_of hp h0 hw hK h1
  intro x x1 x2 x3
  have s0 : ∀ k, px_u J 129 w.toNatClampNeg 1 130 k = J 130 k := fun k => by rw [px_u_ne (by decide)]
  have s1 : ∀ k, px_u J 129 w.toNatClampNeg 1 131 k = J 131 k := fun k => by rw [px_u_ne (by decide)]
  by_cases hx : x = w
  · subst hx
    exact ho.same s0 s1
  · rw [px_uJ x1 hw.1 hx, h3 129 (by decide) (by decide), mE_b hK (by decide) (by decide) (by decide)] at x3
    obtain ⟨Y, s, e, y1, y2, y3, y4, y5⟩ := hW x x1 x2 x3
    have hz : ∀ j, Y j → px_u J 129 w.toNatClampNeg 1 130 (220 * x + j).toNatClampNeg = I 130 (220 * x + j).toNatClampNeg ∧ px_u J 129 w.toNatClampNeg 1 131 (220 * x + j).toNatClampNeg = I 131 (220 * x + j).toNatClampNeg := fun j hj => by
      have q := h2 (220 * x + j).toNatClampNeg (fun z z1 z2 => mIw hw ⟨x1, x2⟩ (y1 j hj) ⟨z1, z2⟩ hx)
      rw [s0, s1, q.1, q.2, mE_b hK (by decide) (by decide) (by decide), mE_b hK (by decide) (by decide) (by decide)]
      exact ⟨rfl, rfl⟩
    exact ⟨Y, s, e, y1, y2.cg (fun j hj => ⟨hj, (hz j hj).1, (hz j hj).2⟩), y3, y4, (hz e y4).1.trans y5⟩
/-- the end of way -/
def mEnd (I I2 : px_I) (w : Int32) : Prop := mWF I I2 ∧ I2 103 25 = I 103 25 ∧ (mWays I → mWays I2) ∧ ((∀ k, I2 129 k = I 129 k) ∨ (∀ k, I2 129 k = px_u I 129 w.toNatClampNeg 1 129 k))

theorem q_X12_way_212 : px_bk 12 4 cX12_way 212 [(.iload_n 3, (0, 0, 0, 0, 0), 0, 0), (.aload_n 0, (0, 0, 0, 0, 0), 0, 0), (.getfield 328, (12, 35, 0, 0, 0), 0, 0)] = some 217 ∧ px_t2 cX12_way 217 .ge 262 = true := by decide +kernel
theorem q_X12_way_262 : px_bk 12 4 cX12_way 262 [(.aload_n 0, (0, 0, 0, 0, 0), 0, 0), (.getfield 97, (12, 44, 3, 129, 0), 0, 0), (.iload_n 1, (0, 0, 0, 0, 0), 0, 0), (.iconst 1, (0, 0, 0, 0, 0), 1, 0), (.iastore, (0, 0, 0, 0, 0), 0, 0), (.aload_n 0, (0, 0, 0, 0, 0), 0, 0), (.getfield 354, (12, 72, 0, 0, 0), 0, 0)] = some 273 ∧ px_tr cX12_way 273 .ireturn = true := by decide +kernel
theorem q_X12_way_220 : px_bk 12 4 cX12_way 220 [(.aload_n 0, (0, 0, 0, 0, 0), 0, 0), (.getfield 100, (12, 45, 3, 130, 0), 0, 0), (.sipush 220, (0, 0, 0, 0, 0), 220, 0), (.iload_n 1, (0, 0, 0, 0, 0), 0, 0), (.imul, (0, 0, 0, 0, 0), 0, 0), (.iload_n 3, (0, 0, 0, 0, 0), 0, 0), (.iadd, (0, 0, 0, 0, 0), 0, 0), (.aload_n 0, (0, 0, 0, 0, 0), 0, 0), (.getfield 75, (12, 36, 3, 122, 0), 0, 0), (.iload_n 3, (0, 0, 0, 0, 0), 0, 0), (.iaload, (0, 0, 0, 0, 0), 0, 0), (.iastore, (0, 0, 0, 0, 0), 0, 0), (.aload_n 0, (0, 0, 0, 0, 0), 0, 0), (.getfield 103, (12, 46, 3, 131, 0), 0, 0), (.sipush 220, (0, 0, 0, 0, 0), 220, 0), (.iload_n 1, (0, 0, 0, 0, 0), 0, 0), (.imul, (0, 0, 0, 0, 0), 0, 0), (.iload_n 3, (0, 0, 0, 0, 0), 0, 0), (.iadd, (0, 0, 0, 0, 0), 0, 0), (.aload_n 0, (0, 0, 0, 0, 0), 0, 0), (.getfield 78, (12, 37, 3, 123, 0), 0, 0), (.iload_n 3, (0, 0, 0, 0, 0), 0, 0), (.iaload, (0, 0, 0, 0, 0), 0, 0), (.iastore, (0, 0, 0, 0, 0), 0, 0), (.iinc 3 1, (0, 0, 0, 0, 0), 1, 0), (.goto (-47), (0, 0, 0, 0, 0), 0, 0)] = some 212 := by decide +kernel
set_option maxRecDepth 100000 in
theorem l_way212 {n : Nat} {R : px_R} (hg : px_G n R) {Q : px_Q} (w : Int32) (hw : 0 ≤ w ∧ w ≤ 5) {I K : px_I} {L : px_L} (hp : mPI I 0) (h0 : I 103 39 = 0) (hK : K = mE I 22 0) (e : Int32) (hq : ∀ r I2, mEnd I I2 w → Q (some (.int r)) n I2 L R) : ∀ k : Int32, k ≤ I 103 35 + 1 → 0 ≤ k → ∀ J, mCp K J w k → px M_X12_way 0 0 212 [(0, .ref 103), (1, .int w), (2, .int e), (3, .int k)] [] n J L R Q := by
  have hN := (hp.N (by decide)).1
  refine px_up _ (fun k ih hk => ?_)
  intro hk0 J hJ
  have j35 : J 103 35 = I 103 35 + 1 := by rw [hJ.2.2 103 (by decide) (by decide)]; exact mE_35 hK
  have hk2 : k < 220 → 0 ≤ 220 * w + k ∧ 220 * w + k < 1320 := fun hz => by grind
  refine px_ige rfl q_X12_way_212 hg rfl trivial (fun c217 => ?_) (fun c217 => ?_)
  · refine px_ri rfl q_X12_way_262 rfl rfl rfl hg rfl ⟨trivial, (by grind)⟩ ?_
    have hk5 : k = I 103 35 + 1 := by grind
    subst hk5
    refine hq _ _ ⟨?_, ?_, fun hW => hJ.done hp h0 hw hK hW, Or.inr (fun k => ?_)⟩
    · intro b j b1 b2
      rw [px_u_ne (by omega), hJ.2.2 b (by omega) (by omega)]
      exact (mE_P hK).W b j b1 b2
    · rw [px_u_ne (by decide), hJ.2.2 103 (by decide) (by decide)]
      exact mE_f hK (by decide)
    · have z : J 129 = I 129 := (hJ.2.2 129 (by decide) (by decide)).trans (mE_b hK (by decide) (by decide) (by decide))
      simp only [px_ur, z]
  · have hk3 : 0 ≤ k ∧ k < 220 := ⟨hk0, by grind⟩
    have hk4 := hk2 hk3.2
    refine px_b rfl q_X12_way_220 hg rfl ⟨⟨⟨⟨trivial, (by with_reducible assumption)⟩, (by with_reducible assumption)⟩, (by with_reducible assumption)⟩, (by with_reducible assumption)⟩ ?_
    exact px_go (ih (k + 1) (by grind) (by grind) (by grind) _ (hJ.up hw ⟨hk0, by grind⟩)) ⟨rfl, rfl, rfl, rfl, trivial⟩

theorem q_X12_way_177 : px_bk 12 4 cX12_way 177 [(.aload_n 0, (0, 0, 0, 0, 0), 0, 0), (.aload_n 0, (0, 0, 0, 0, 0), 0, 0), (.getfield 322, (12, 31, 0, 0, 0), 0, 0), (.putfield 69, (12, 33, 0, 0, 0), 0, 0), (.aload_n 0, (0, 0, 0, 0, 0), 0, 0), (.aload_n 0, (0, 0, 0, 0, 0), 0, 0), (.getfield 325, (12, 32, 0, 0, 0), 0, 0), (.putfield 72, (12, 34, 0, 0, 0), 0, 0), (.aload_n 0, (0, 0, 0, 0, 0), 0, 0), (.getfield 322, (12, 31, 0, 0, 0), 0, 0)] = some 197 ∧ px_t1 cX12_way 197 .le 202 = true := by decide +kernel
theorem q_X12_way_202 : px_bk 12 4 cX12_way 202 [(.aload_n 0, (0, 0, 0, 0, 0), 0, 0), (.bipush 22, (0, 0, 0, 0, 0), 22, 0), (.iconst 0, (0, 0, 0, 0, 0), 0, 0)] = some 206 ∧ px_tv cX12_way 206 346 = true := by decide +kernel
theorem q_X12_way_209 : px_bk 12 4 cX12_way 209 [(.istore_n 2, (0, 0, 0, 0, 0), 0, 0), (.iconst 0, (0, 0, 0, 0, 0), 0, 0), (.istore_n 3, (0, 0, 0, 0, 0), 0, 0)] = some 212 := by decide +kernel
theorem q_X12_way_200 : px_bk 12 4 cX12_way 200 [(.iconst (-1), (0, 0, 0, 0, 0), -1, 0)] = some 201 ∧ px_tr cX12_way 201 .ireturn = true := by decide +kernel
set_option maxRecDepth 100000 in
theorem l_way177 {n : Nat} {R : px_R} (hg : px_G n R) {Q : px_Q} (w c : Int32) (hw : 0 ≤ w ∧ w ≤ 5) {I : px_I} {L : px_L} (hp : ¬ 0 < I 103 31 → mPI I 0 ∧ I 103 39 = 0) (hq : ∀ r I2, mEnd I I2 w → Q (some (.int r)) n I2 L R) : px M_X12_way 0 0 177 [(0, .ref 103), (1, .int w), (2, .int c)] [] n I L R Q := by
  skip
  refine px_le rfl q_X12_way_177 hg rfl trivial (fun c197 => ?_) (fun c197 => ?_)
  · obtain ⟨hp1, hp2⟩ := hp (by simpa [px_ur] using c197)
    have hX9 : ∀ X, mSI I X (I 103 35) → mSI (px_u (px_u I 103 33 (I 103 31)) 103 34 (I 103 32)) X (I 103 35) := fun X hX => (hX.fld 33 _).fld 34 _
    have hp3 : mPI (px_u (px_u I 103 33 (I 103 31)) 103 34 (I 103 32)) 0 := by
      obtain ⟨a1, a2, a3, a4, X, a5⟩ := hp1
      refine ⟨by unfold mTk at *; simpa [px_ur] using a1, by simpa [px_ur] using a2, by simpa [px_ur] using a3, by simpa [px_ur] using a4, X, ?_⟩
      rw [px_u_at_ne (by decide), px_u_at_ne (by decide)]
      exact hX9 X a5
    have hp4 : (px_u (px_u I 103 33 (I 103 31)) 103 34 (I 103 32)) 103 39 = 0 := by simpa [px_ur] using hp2
    have hN := (hp3.N (by decide)).1
    refine px_cVS (ci := 12) rfl q_X12_way_202 hg rfl trivial lk_12_346 nm_X12_emits (k_emits hg _ _ (by grind)) rfl rfl (px_lit hg rfl) rfl rfl rfl ⟨rfl, rfl⟩ ?_
    intro x206 I206 L206 h206
    obtain ⟨rfl, rfl, h206⟩ := h206
    refine px_b rfl q_X12_way_209 hg rfl trivial ?_
    have hE : ∀ r I2, mEnd (px_u (px_u I 103 33 (I 103 31)) 103 34 (I 103 32)) I2 w → Q (some (.int r)) n I2 L206 R := fun r I2 hE => by
      obtain ⟨a1, a2, a3, a4⟩ := hE
      have e129 : (px_u (px_u I 103 33 (I 103 31)) 103 34 (I 103 32)) 129 = I 129 := by rw [px_u_ne (by decide), px_u_ne (by decide)]
      refine hq r I2 ⟨((mWF.rfl'.u 33 _).u 34 _).trans a1, by simpa [px_ur] using a2, fun hW => a3 (hW.same (fun b k hb => ?_)), a4.imp (fun z k => by rw [z k, e129]) (fun z k => by rw [z k]; simp [px_ur])⟩
      rcases hb with rfl | rfl | rfl <;> (rw [px_u_ne (by decide), px_u_ne (by decide)])
    exact px_go (l_way212 hg w hw hp3 hp4 h206 _ hE 0 (by grind) (by decide) I206 ⟨fun q q1 q2 => by grind, fun q _ => ⟨rfl, rfl⟩, fun b _ _ => rfl⟩) ⟨rfl, rfl, rfl, rfl, trivial⟩
  · refine px_ri rfl q_X12_way_200 rfl rfl rfl hg rfl trivial ?_
    refine hq _ _ ⟨(mWF.rfl'.u 33 _).u 34 _, by simp [px_ur], fun hW => hW.same (fun b k hb => ?_), Or.inl (fun k => by rw [px_u_ne (by decide), px_u_ne (by decide)])⟩
    rcases hb with rfl | rfl | rfl <;> (rw [px_u_ne (by decide), px_u_ne (by decide)])

theorem q_X12_way_126 : px_bk 12 4 cX12_way 126 [(.aload_n 0, (0, 0, 0, 0, 0), 0, 0), (.getfield 300, (12, 29, 0, 0, 0), 0, 0), (.iconst 1, (0, 0, 0, 0, 0), 1, 0)] = some 131 ∧ px_t2 cX12_way 131 .ne 148 = true := by decide +kernel
theorem q_X12_way_148 : px_bk 12 4 cX12_way 148 [(.aload_n 0, (0, 0, 0, 0, 0), 0, 0), (.iconst 1, (0, 0, 0, 0, 0), 1, 0)] = some 150 ∧ px_tv cX12_way 150 334 = true := by decide +kernel
theorem q_X12_way_153 : px_bk 12 4 cX12_way 153 [(.goto (-71), (0, 0, 0, 0, 0), 0, 0)] = some 82 := by decide +kernel
theorem q_X12_way_134 : px_bk 12 4 cX12_way 134 [(.aload_n 0, (0, 0, 0, 0, 0), 0, 0), (.getfield 310, (12, 30, 0, 0, 0), 0, 0)] = some 138 ∧ px_t1 cX12_way 138 .ne 156 = true := by decide +kernel
theorem q_X12_way_156 : px_bk 12 4 cX12_way 156 [(.aload_n 0, (0, 0, 0, 0, 0), 0, 0), (.getfield 310, (12, 30, 0, 0, 0), 0, 0)] = some 160 ∧ px_t1 cX12_way 160 .ne 170 = true := by decide +kernel
theorem q_X12_way_170 : px_bk 12 4 cX12_way 170 [(.aload_n 0, (0, 0, 0, 0, 0), 0, 0)] = some 171 ∧ px_tv cX12_way 171 372 = true := by decide +kernel
theorem q_X12_way_174 : px_bk 12 4 cX12_way 174 [(.goto (-92), (0, 0, 0, 0, 0), 0, 0)] = some 82 := by decide +kernel
theorem q_X12_way_141 : px_bk 12 4 cX12_way 141 [(.aload_n 0, (0, 0, 0, 0, 0), 0, 0), (.getfield 337, (12, 39, 0, 0, 0), 0, 0)] = some 145 ∧ px_t1 cX12_way 145 .le 156 = true := by decide +kernel
theorem q_X12_way_163 : px_bk 12 4 cX12_way 163 [(.aload_n 0, (0, 0, 0, 0, 0), 0, 0)] = some 164 ∧ px_tv cX12_way 164 369 = true := by decide +kernel
theorem q_X12_way_167 : px_bk 12 4 cX12_way 167 [(.goto (-85), (0, 0, 0, 0, 0), 0, 0)] = some 82 := by decide +kernel
set_option maxRecDepth 100000 in
theorem l_way126 {n : Nat} {R : px_R} (hg : px_G n R) {Q : px_Q} (w c : Int32) {I : px_I} {L : px_L} (hp : mPI I 0) (hs : I 103 29 ≠ 0 ∨ 0 < I 103 39) (kk : ∀ I2, mPo I I2 → px M_X12_way 0 0 82 [(0, .ref 103), (1, .int w), (2, .int c)] [] n I2 L R Q) : px M_X12_way 0 0 126 [(0, .ref 103), (1, .int w), (2, .int c)] [] n I L R Q := by
  have hlt := hp.1.2.1
  have h0 := hp.2.1
  have hop := (hp.N (by decide)).2
  refine px_ine rfl q_X12_way_126 hg rfl trivial (fun c131 => ?_) (fun c131 => ?_)
  · refine px_cVW (ci := 12) rfl q_X12_way_148 hg rfl trivial lk_12_334 nm_X12_errs (k_errs hg _) rfl rfl (px_lit hg rfl) rfl rfl rfl ⟨rfl, rfl⟩ ?_
    intro I150 L150 h150
    obtain ⟨rfl, h150⟩ := h150
    have e9 := mErr h150 h0 (by decide)
    have hk9 : mPo I I150 := ⟨e9.1, Or.inl e9.2⟩
    refine px_b rfl q_X12_way_153 hg rfl trivial ?_
    exact px_go (kk _ hk9) ⟨rfl, rfl, rfl, trivial⟩
  · refine px_ne rfl q_X12_way_134 hg rfl trivial (fun c138 => ?_) (fun c138 => ?_)
    · refine px_ne rfl q_X12_way_156 hg rfl trivial (fun c160 => ?_) (fun c160 => ?_)
      · refine px_cVW (ci := 12) rfl q_X12_way_170 hg rfl trivial lk_12_372 nm_X12_step (k_step hg hp (by assumption) (by assumption)) rfl rfl (px_lit hg rfl) rfl rfl rfl ⟨rfl, rfl⟩ ?_
        intro I171 L171 h171
        obtain ⟨rfl, hk9⟩ := h171
        refine px_b rfl q_X12_way_174 hg rfl trivial ?_
        exact px_go (kk _ hk9) ⟨rfl, rfl, rfl, trivial⟩
      · exact absurd c160 c138
    · refine px_le rfl q_X12_way_141 hg rfl trivial (fun c145 => ?_) (fun c145 => ?_)
      · refine px_ne rfl q_X12_way_156 hg rfl trivial (fun c160 => ?_) (fun c160 => ?_)
        · exact absurd c138 c160
        · refine px_cVW (ci := 12) rfl q_X12_way_163 hg rfl trivial lk_12_369 nm_X12_def (k_def hg hp (hlt (by grind)) (by grind)) rfl rfl (px_lit hg rfl) rfl rfl rfl ⟨rfl, rfl⟩ ?_
          intro I164 L164 h164
          obtain ⟨rfl, hk9⟩ := h164
          refine px_b rfl q_X12_way_167 hg rfl trivial ?_
          exact px_go (kk _ hk9) ⟨rfl, rfl, rfl, trivial⟩
      · refine px_cVW (ci := 12) rfl q_X12_way_148 hg rfl trivial lk_12_334 nm_X12_errs (k_errs hg _) rfl rfl (px_lit hg rfl) rfl rfl rfl ⟨rfl, rfl⟩ ?_
        intro I150 L150 h150
        obtain ⟨rfl, h150⟩ := h150
        have e9 := mErr h150 h0 (by decide)
        have hk9 : mPo I I150 := ⟨e9.1, Or.inl e9.2⟩
        refine px_b rfl q_X12_way_153 hg rfl trivial ?_
        exact px_go (kk _ hk9) ⟨rfl, rfl, rfl, trivial⟩

theorem q_X12_way_82 : px_bk 12 4 cX12_way 82 [(.aload_n 0, (0, 0, 0, 0, 0), 0, 0), (.getfield 322, (12, 31, 0, 0, 0), 0, 0)] = some 86 ∧ px_t1 cX12_way 86 .ne 177 = true := by decide +kernel
theorem q_X12_way_89 : px_bk 12 4 cX12_way 89 [(.aload_n 0, (0, 0, 0, 0, 0), 0, 0), (.getfield 300, (12, 29, 0, 0, 0), 0, 0)] = some 93 ∧ px_t1 cX12_way 93 .ne 103 = true := by decide +kernel
theorem q_X12_way_103 : px_bk 12 4 cX12_way 103 [(.aload_n 0, (0, 0, 0, 0, 0), 0, 0), (.getfield 337, (12, 39, 0, 0, 0), 0, 0)] = some 107 ∧ px_t1 cX12_way 107 .le 126 = true := by decide +kernel
theorem q_X12_way_110 : px_bk 12 4 cX12_way 110 [(.aload_n 0, (0, 0, 0, 0, 0), 0, 0), (.bipush 125, (0, 0, 0, 0, 0), 125, 0)] = some 113 ∧ px_tv cX12_way 113 331 = true := by decide +kernel
theorem q_X12_way_116 : px_bk 12 4 cX12_way 116 [] = some 116 ∧ px_t1 cX12_way 116 .eq 126 = true := by decide +kernel
theorem q_X12_way_119 : px_bk 12 4 cX12_way 119 [(.aload_n 0, (0, 0, 0, 0, 0), 0, 0)] = some 120 ∧ px_tv cX12_way 120 366 = true := by decide +kernel
theorem q_X12_way_123 : px_bk 12 4 cX12_way 123 [(.goto (-41), (0, 0, 0, 0, 0), 0, 0)] = some 82 := by decide +kernel
theorem q_X12_way_96 : px_bk 12 4 cX12_way 96 [(.aload_n 0, (0, 0, 0, 0, 0), 0, 0), (.getfield 337, (12, 39, 0, 0, 0), 0, 0)] = some 100 ∧ px_t1 cX12_way 100 .le 177 = true := by decide +kernel
set_option maxRecDepth 100000 in
theorem l_way82 {n : Nat} {R : px_R} (hg : px_G n R) {Q : px_Q} (w c : Int32) (hw : 0 ≤ w ∧ w ≤ 5) {I0 : px_I} {L : px_L} (hq : ∀ r I1 I2, mPF I0 I1 → mEnd I1 I2 w → Q (some (.int r)) n I2 L R) : ∀ t : Int32, t ≤ 401 → ∀ I, mPF I0 I → (I 103 31 = 0 → I 103 28 = t ∧ t ≤ 400) → (1 ≤ I 103 31 ∨ mPI I 0) → px M_X12_way 0 0 82 [(0, .ref 103), (1, .int w), (2, .int c)] [] n I L R Q := by
  refine px_up 401 (fun t ih ht => ?_)
  intro I hF htk hp
  have kk : mPI I 0 → ∀ I2, mPo I I2 → px M_X12_way 0 0 82 [(0, .ref 103), (1, .int w), (2, .int c)] [] n I2 L R Q := fun hp0 I2 h2 => by
    obtain ⟨p1, p2⟩ := h2
    have q := htk hp0.2.1
    rcases p2 with p2 | ⟨p2, p3⟩
    · by_cases hz : t < 401
      · exact ih 401 hz (by decide) I2 (hF.trans p1) (fun hx => by rw [hx] at p2; exact absurd p2 (by decide)) (Or.inl p2)
      · grind
    · have p4 := p2.1.1
      exact ih (I2 103 28) (by grind) (by grind) I2 (hF.trans p1) (fun _ => ⟨rfl, by grind⟩) (Or.inr p2)
  refine px_ne rfl q_X12_way_82 hg rfl trivial (fun c86 => ?_) (fun c86 => ?_)
  · exact px_go (l_way177 hg w c hw (fun hz => by rcases hp with z | z; exact absurd (Int32.lt_of_lt_of_le (by decide : (0 : Int32) < 1) z) hz; exact absurd z.2.1 c86) (fun r I2 he => hq r I I2 hF he)) ⟨rfl, rfl, rfl, trivial⟩
  · replace hp : mPI I 0 := hp.resolve_left (by rw [c86]; decide)
    refine px_ne rfl q_X12_way_89 hg rfl trivial (fun c93 => ?_) (fun c93 => ?_)
    · have hs9 : I 103 29 ≠ 0 ∨ 0 < I 103 39 := by grind
      refine px_le rfl q_X12_way_103 hg rfl trivial (fun c107 => ?_) (fun c107 => ?_)
      · exact px_go (l_way126 hg w c hp hs9 (kk hp)) ⟨rfl, rfl, rfl, trivial⟩
      · refine px_cVP (ci := 12) rfl q_X12_way_110 hg rfl trivial lk_12_331 nm_X12_isSign (k_isSign hg _) rfl rfl (px_lit hg rfl) rfl rfl rfl ⟨rfl, rfl⟩ ?_
        intro x113 h113
        refine px_eq rfl q_X12_way_116 hg rfl trivial (fun c116 => ?_) (fun c116 => ?_)
        · replace h113 := px_bf h113 c116
          exact px_go (l_way126 hg w c hp hs9 (kk hp)) ⟨rfl, rfl, rfl, trivial⟩
        · replace h113 := px_bt h113 c116
          refine px_cVW (ci := 12) rfl q_X12_way_119 hg rfl trivial lk_12_366 nm_X12_closesBrace (k_closesBrace hg hp (hp.1.2.1 (by have := h113; grind)) (by grind)) rfl rfl (px_lit hg rfl) rfl rfl rfl ⟨rfl, rfl⟩ ?_
          intro I120 L120 h120
          obtain ⟨rfl, hk9⟩ := h120
          refine px_b rfl q_X12_way_123 hg rfl trivial ?_
          exact px_go (kk hp _ hk9) ⟨rfl, rfl, rfl, trivial⟩
    · refine px_le rfl q_X12_way_96 hg rfl trivial (fun c100 => ?_) (fun c100 => ?_)
      · exact px_go (l_way177 hg w c hw (fun hz => ⟨hp, by have := (hp.N (by decide)).2; grind⟩) (fun r I2 he => hq r I I2 hF he)) ⟨rfl, rfl, rfl, trivial⟩
      · have hs9 : I 103 29 ≠ 0 ∨ 0 < I 103 39 := by grind
        refine px_le rfl q_X12_way_103 hg rfl trivial (fun c107 => ?_) (fun c107 => ?_)
        · exact px_go (l_way126 hg w c hp hs9 (kk hp)) ⟨rfl, rfl, rfl, trivial⟩
        · refine px_cVP (ci := 12) rfl q_X12_way_110 hg rfl trivial lk_12_331 nm_X12_isSign (k_isSign hg _) rfl rfl (px_lit hg rfl) rfl rfl rfl ⟨rfl, rfl⟩ ?_
          intro x113 h113
          refine px_eq rfl q_X12_way_116 hg rfl trivial (fun c116 => ?_) (fun c116 => ?_)
          · replace h113 := px_bf h113 c116
            exact px_go (l_way126 hg w c hp hs9 (kk hp)) ⟨rfl, rfl, rfl, trivial⟩
          · replace h113 := px_bt h113 c116
            refine px_cVW (ci := 12) rfl q_X12_way_119 hg rfl trivial lk_12_366 nm_X12_closesBrace (k_closesBrace hg hp (hp.1.2.1 (by have := h113; grind)) (by grind)) rfl rfl (px_lit hg rfl) rfl rfl rfl ⟨rfl, rfl⟩ ?_
            intro I120 L120 h120
            obtain ⟨rfl, hk9⟩ := h120
            refine px_b rfl q_X12_way_123 hg rfl trivial ?_
            exact px_go (kk hp _ hk9) ⟨rfl, rfl, rfl, trivial⟩

theorem q_X12_way_59 : px_bk 12 4 cX12_way 59 [(.iload_n 2, (0, 0, 0, 0, 0), 0, 0), (.bipush 8, (0, 0, 0, 0, 0), 8, 0)] = some 62 ∧ px_t2 cX12_way 62 .ge 78 = true := by decide +kernel
theorem q_X12_way_78 : px_bk 12 4 cX12_way 78 [(.aload_n 0, (0, 0, 0, 0, 0), 0, 0)] = some 79 ∧ px_tv cX12_way 79 340 = true := by decide +kernel
theorem q_X12_way_65 : px_bk 12 4 cX12_way 65 [(.aload_n 0, (0, 0, 0, 0, 0), 0, 0), (.getfield 81, (12, 38, 3, 124, 0), 0, 0), (.iload_n 2, (0, 0, 0, 0, 0), 0, 0), (.iconst (-1), (0, 0, 0, 0, 0), -1, 0), (.iastore, (0, 0, 0, 0, 0), 0, 0), (.iinc 2 1, (0, 0, 0, 0, 0), 1, 0), (.goto (-16), (0, 0, 0, 0, 0), 0, 0)] = some 59 := by decide +kernel
set_option maxRecDepth 100000 in
theorem l_way59 {n : Nat} {R : px_R} (hg : px_G n R) {Q : px_Q} (w : Int32) (hw : 0 ≤ w ∧ w ≤ 5) {I0 : px_I} {L : px_L} (z39 : I0 103 39 = 0) (z31 : I0 103 31 = 0) (z35 : I0 103 35 = 0) (z27 : I0 103 27 = 0) (z26 : 0 ≤ I0 103 26 ∧ I0 103 26 ≤ 400) (hq : ∀ r I1 I2, mPF I0 I1 → mEnd I1 I2 w → Q (some (.int r)) n I2 L R) : ∀ k : Int32, k ≤ 8 → 0 ≤ k → ∀ I, (∀ l : Int32, 0 ≤ l → l < k → I 124 l.toNatClampNeg = -1) → mPF I0 I → (I 103 = I0 103) → px M_X12_way 0 0 59 [(0, .ref 103), (1, .int w), (2, .int k)] [] n I L R Q := by
  refine px_up 8 (fun k ih hk => ?_)
  intro h0 I hd hF h103
  have y39 : I 103 39 = 0 := by rw [h103]; exact z39
  have y31 : I 103 31 = 0 := by rw [h103]; exact z31
  have y35 : I 103 35 = 0 := by rw [h103]; exact z35
  have y27 : I 103 27 = 0 := by rw [h103]; exact z27
  have y26 : 0 ≤ I 103 26 ∧ I 103 26 ≤ 400 := by rw [h103]; exact z26
  refine px_ige rfl q_X12_way_59 hg rfl trivial (fun c62 => ?_) (fun c62 => ?_)
  · refine px_cVW (ci := 12) rfl q_X12_way_78 hg rfl trivial lk_12_340 nm_X12_next (k_next hg (by rw [y27]; exact ⟨by decide, y26⟩)) rfl rfl (px_lit hg rfl) rfl rfl rfl ⟨rfl, rfl⟩ ?_
    intro I79 L79 h79
    obtain ⟨rfl, g1, g2, g3⟩ := h79
    have hp9 : mPI I79 0 := mPI.nx g1 g3 y31 (by rw [y35]; decide) (by rw [y35, y39]; have := g3.1.1; grind) ⟨_, by rw [y35]; exact mSI.zero y39 (fun l l1 l2 => hd l l1 (by grind))⟩
    have ht9 : I79 103 28 ≤ 400 := by have := g3.1; grind
    exact px_go (l_way82 hg w k hw hq (I79 103 28) (by grind) I79 (hF.trans g1.P) (fun _ => ⟨rfl, ht9⟩) (Or.inr hp9)) ⟨rfl, rfl, rfl, trivial⟩
  · refine px_b rfl q_X12_way_65 hg rfl ⟨trivial, (by first | decide | (refine ⟨?_, ?_⟩ <;> grind) | grind)⟩ ?_
    refine px_go (ih (k + 1) (by grind) (by grind) (by grind) _ (fun l l1 l2 => ?_) (hF.a 124 _ _) (by rw [px_u_ne (by decide)]; exact h103)) ⟨rfl, rfl, rfl, trivial⟩
    by_cases hlk : l = k
    · subst hlk; rw [px_u_at]
    · rw [px_uJ l1 h0 hlk]; exact hd l l1 (by grind)

def mWayPost (I I2 : px_I) (w : Int32) : Prop := mWF I I2 ∧ I2 103 25 = 0 ∧ mWays I2 ∧ ((∀ k, I2 129 k = I 129 k) ∨ (∀ k, I2 129 k = px_u I 129 w.toNatClampNeg 1 129 k))

theorem q_X12_way_0 : px_bk 12 4 cX12_way 0 [(.iload_n 1, (0, 0, 0, 0, 0), 0, 0), (.i2l, (0, 0, 0, 0, 0), 0, 0), (.lconst 0, (0, 0, 0, 0, 0), 0, 0), (.ldc2_w 364, (0, 0, 0, 0, 0), 0, 5)] = some 6 ∧ px_tS cX12_way 6 167 = true := by decide +kernel
theorem q_X12_way_9 : px_bk 12 4 cX12_way 9 [] = some 9 ∧ px_t1 cX12_way 9 .ne 14 = true := by decide +kernel
theorem q_X12_way_14 : px_bk 12 4 cX12_way 14 [(.aload_n 0, (0, 0, 0, 0, 0), 0, 0), (.aload_n 0, (0, 0, 0, 0, 0), 0, 0), (.getfield 259, (12, 25, 0, 0, 0), 0, 0), (.putfield 294, (12, 26, 0, 0, 0), 0, 0), (.aload_n 0, (0, 0, 0, 0, 0), 0, 0), (.iconst 0, (0, 0, 0, 0, 0), 0, 0), (.putfield 259, (12, 25, 0, 0, 0), 0, 0), (.aload_n 0, (0, 0, 0, 0, 0), 0, 0), (.iconst 0, (0, 0, 0, 0, 0), 0, 0), (.putfield 291, (12, 27, 0, 0, 0), 0, 0), (.aload_n 0, (0, 0, 0, 0, 0), 0, 0), (.iconst 0, (0, 0, 0, 0, 0), 0, 0), (.putfield 322, (12, 31, 0, 0, 0), 0, 0), (.aload_n 0, (0, 0, 0, 0, 0), 0, 0), (.iconst (-1), (0, 0, 0, 0, 0), -1, 0), (.putfield 325, (12, 32, 0, 0, 0), 0, 0), (.aload_n 0, (0, 0, 0, 0, 0), 0, 0), (.iconst 0, (0, 0, 0, 0, 0), 0, 0), (.putfield 328, (12, 35, 0, 0, 0), 0, 0), (.aload_n 0, (0, 0, 0, 0, 0), 0, 0), (.iconst 0, (0, 0, 0, 0, 0), 0, 0), (.putfield 337, (12, 39, 0, 0, 0), 0, 0), (.aload_n 0, (0, 0, 0, 0, 0), 0, 0), (.iconst 0, (0, 0, 0, 0, 0), 0, 0), (.putfield 354, (12, 72, 0, 0, 0), 0, 0), (.iconst 0, (0, 0, 0, 0, 0), 0, 0), (.istore_n 2, (0, 0, 0, 0, 0), 0, 0)] = some 59 := by decide +kernel
theorem q_X12_way_12 : px_bk 12 4 cX12_way 12 [(.iconst (-1), (0, 0, 0, 0, 0), -1, 0)] = some 13 ∧ px_tr cX12_way 13 .ireturn = true := by decide +kernel
set_option maxRecDepth 100000 in
theorem k_way {n : Nat} {I : px_I} {L : px_L} {R : px_R} (hg : px_G n R) (w : Int32) (ht : 0 ≤ I 103 25 ∧ I 103 25 ≤ 400) (hW : mWays I) : px_KS M_X12_way [.ref 103, .int w] n I L R (fun r I2 L2 => L2 = L ∧ ((¬ (0 ≤ w ∧ w ≤ 5) ∧ r = -1 ∧ I2 = I) ∨ ((0 ≤ w ∧ w ≤ 5) ∧ mWayPost I I2 w))) := by
  refine px_of (plainFor_of_name np_RX12) (fun _ _ _ => trivial) rfl ?_
  refine px_cSP rfl q_X12_way_0 hg rfl trivial lk_12_167 nm_X12_in (k_inI hg _ (0) (5) (by decide) (by decide)) rfl rfl rfl ⟨rfl, rfl⟩ ?_
  intro x6 h6
  refine px_ne rfl q_X12_way_9 hg rfl trivial (fun c9 => ?_) (fun c9 => ?_)
  · replace h6 := px_bt h6 c9
    refine px_b rfl q_X12_way_14 hg rfl trivial ?_
    have hI9 : ∀ b k, b = 129 ∨ b = 130 ∨ b = 131 → (px_u (px_u (px_u (px_u (px_u (px_u (px_u (px_u I 103 26 (I 103 25)) 103 25 0) 103 27 0) 103 31 0) 103 32 (-1)) 103 35 0) 103 39 0) 103 72 0) b k = I b k := fun b k hb => by rcases hb with rfl | rfl | rfl <;> (simp [px_ur])
    refine px_go (l_way59 hg w h6 (by simp [px_ur]) (by simp [px_ur]) (by simp [px_ur]) (by simp [px_ur]) (by simp [px_ur]; exact ht) (fun r I1 I2 h1 h2 => ?_) 0 (by decide) (by decide) _ (fun l l1 l2 => by grind) mPF.rfl' rfl) ⟨rfl, rfl, rfl, trivial⟩
    obtain ⟨a1, a2, a3, a4⟩ := h2
    refine ⟨rfl, rfl, r, rfl, rfl, Or.inr ⟨h6, ?_, ?_, ?_, ?_⟩⟩
    · exact ((((((((mWF.rfl'.u 26 _).u 25 _).u 27 _).u 31 _).u 32 _).u 35 _).u 39 _).u 72 _).trans (h1.W.trans a1)
    · rw [a2, h1 103 25 (by decide) (by decide)]; simp [px_ur]
    · exact a3 (hW.same (fun b k hb => by
        rw [h1 b k (by rcases hb with rfl | rfl | rfl <;> decide) (by rcases hb with rfl | rfl | rfl <;> (exact fun q => absurd q.1 (by decide)))]
        exact hI9 b k hb))
    · have e : ∀ k, I1 129 k = I 129 k := fun k => by
        rw [h1 129 k (by decide) (fun q => absurd q.1 (by decide))]
        exact hI9 129 k (Or.inl rfl)
      refine a4.imp (fun z k => by rw [z k, e]) (fun z k => by rw [z k]; simp only [px_ur, e])
  · replace h6 := px_bf h6 c9
    refine px_riS rfl q_X12_way_12 rfl rfl rfl hg rfl trivial ⟨⟨rfl, rfl⟩, ?_⟩
    exact ⟨rfl, Or.inl ⟨h6, rfl, rfl⟩⟩
