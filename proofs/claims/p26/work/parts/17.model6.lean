def mPS (I : px_I) (g P i : Int32) : Prop := ∀ j : Int32, 0 ≤ j → j < i → j < P → 0 ≤ I 116 (20 * g + j).toNatClampNeg
theorem mK3 {g p P : Int32} (h1 : 0 ≤ g) (h2 : g ≤ 1) (h3 : 0 ≤ p) (h4 : p < P) (hP : P ≤ 20) : 0 ≤ 20 * g + p ∧ 20 * g + p < 40 := by
  have h5 : p < 20 := by grind
  exact ⟨by grind, by grind⟩
theorem mPS.up {I : px_I} {g P i : Int32} (h : mPS I g P i) (h1 : ¬ I 116 (20 * g + i).toNatClampNeg < 0) (hi : i < 20) : mPS I g P (i + 1) := fun j j1 j2 j3 => by
  by_cases hj : j < i
  · exact h j j1 hj j3
  · have e : j = i := by grind
    rw [e]
    exact Int32.not_lt.mp h1
theorem mF_of {I : px_I} {g : Int32} (hg1 : 0 ≤ g ∧ g ≤ 1) (hP : I 110 g.toNatClampNeg ≤ 20) (h : mPS I g (I 110 g.toNatClampNeg) 20) : ∀ p : Int32, 1 ≤ p → p < I 110 g.toNatClampNeg → mF I g p := by
  intro p h1 h2
  have h3 : p < 20 := by grind
  refine ⟨hg1, h1, h2, h p (by grind) h3 h2, ?_⟩
  have h4 := h (p - 1) (by grind) (by grind) (by grind)
  have e : 20 * g + (p - 1) = 20 * g + p - 1 := by grind
  rw [e] at h4
  exact h4

theorem q_X12_isFlow_113 : px_bk 12 7 cX12_isFlow 113 [(.iload 5, (0, 0, 0, 0, 0), 0, 0), (.bipush 20, (0, 0, 0, 0, 0), 20, 0)] = some 117 ∧ px_t2 cX12_isFlow 117 .ge 210 = true := by decide +kernel
theorem q_X12_isFlow_210 : px_bk 12 7 cX12_isFlow 210 [(.iload 4, (0, 0, 0, 0, 0), 0, 0)] = some 212 ∧ px_tr cX12_isFlow 212 .ireturn = true := by decide +kernel
theorem q_X12_isFlow_120 : px_bk 12 7 cX12_isFlow 120 [(.iload 4, (0, 0, 0, 0, 0), 0, 0)] = some 122 ∧ px_t1 cX12_isFlow 122 .eq 210 = true := by decide +kernel
theorem q_X12_isFlow_125 : px_bk 12 7 cX12_isFlow 125 [(.iload 5, (0, 0, 0, 0, 0), 0, 0), (.aload_n 0, (0, 0, 0, 0, 0), 0, 0), (.getfield 32, (12, 9, 3, 110, 0), 0, 0), (.iload_n 1, (0, 0, 0, 0, 0), 0, 0), (.iaload, (0, 0, 0, 0, 0), 0, 0)] = some 133 ∧ px_t2 cX12_isFlow 133 .ge 210 = true := by decide +kernel
theorem q_X12_isFlow_136 : px_bk 12 7 cX12_isFlow 136 [(.bipush 20, (0, 0, 0, 0, 0), 20, 0), (.iload_n 1, (0, 0, 0, 0, 0), 0, 0), (.imul, (0, 0, 0, 0, 0), 0, 0), (.iload 5, (0, 0, 0, 0, 0), 0, 0), (.iadd, (0, 0, 0, 0, 0), 0, 0), (.istore 6, (0, 0, 0, 0, 0), 0, 0), (.aload_n 0, (0, 0, 0, 0, 0), 0, 0), (.aload_n 0, (0, 0, 0, 0, 0), 0, 0), (.getfield 50, (12, 15, 3, 116, 0), 0, 0), (.iload 6, (0, 0, 0, 0, 0), 0, 0), (.iaload, (0, 0, 0, 0, 0), 0, 0), (.aload_n 0, (0, 0, 0, 0, 0), 0, 0), (.getfield 50, (12, 15, 3, 116, 0), 0, 0), (.iload 6, (0, 0, 0, 0, 0), 0, 0), (.iconst 1, (0, 0, 0, 0, 0), 1, 0), (.isub, (0, 0, 0, 0, 0), 0, 0), (.iaload, (0, 0, 0, 0, 0), 0, 0), (.iconst 0, (0, 0, 0, 0, 0), 0, 0)] = some 163 ∧ px_tv cX12_isFlow 163 219 = true := by decide +kernel
theorem q_X12_isFlow_166 : px_bk 12 7 cX12_isFlow 166 [(.ldc 218, (0, 0, 0, 0, 0), -2000000000, 0)] = some 168 ∧ px_t2 cX12_isFlow 168 .eq 201 = true := by decide +kernel
theorem q_X12_isFlow_201 : px_bk 12 7 cX12_isFlow 201 [(.iconst 0, (0, 0, 0, 0, 0), 0, 0), (.istore 4, (0, 0, 0, 0, 0), 0, 0), (.iinc 5 1, (0, 0, 0, 0, 0), 1, 0), (.goto (-94), (0, 0, 0, 0, 0), 0, 0)] = some 113 := by decide +kernel
theorem q_X12_isFlow_171 : px_bk 12 7 cX12_isFlow 171 [(.aload_n 0, (0, 0, 0, 0, 0), 0, 0), (.aload_n 0, (0, 0, 0, 0, 0), 0, 0), (.getfield 50, (12, 15, 3, 116, 0), 0, 0), (.iload 6, (0, 0, 0, 0, 0), 0, 0), (.iaload, (0, 0, 0, 0, 0), 0, 0), (.aload_n 0, (0, 0, 0, 0, 0), 0, 0), (.getfield 50, (12, 15, 3, 116, 0), 0, 0), (.iload 6, (0, 0, 0, 0, 0), 0, 0), (.iconst 1, (0, 0, 0, 0, 0), 1, 0), (.isub, (0, 0, 0, 0, 0), 0, 0), (.iaload, (0, 0, 0, 0, 0), 0, 0), (.iconst 1, (0, 0, 0, 0, 0), 1, 0)] = some 189 ∧ px_tv cX12_isFlow 189 219 = true := by decide +kernel
theorem q_X12_isFlow_192 : px_bk 12 7 cX12_isFlow 192 [(.ldc 218, (0, 0, 0, 0, 0), -2000000000, 0)] = some 194 ∧ px_t2 cX12_isFlow 194 .eq 201 = true := by decide +kernel
theorem q_X12_isFlow_197 : px_bk 12 7 cX12_isFlow 197 [(.iconst 1, (0, 0, 0, 0, 0), 1, 0), (.goto 4, (0, 0, 0, 0, 0), 0, 0), (.istore 4, (0, 0, 0, 0, 0), 0, 0), (.iinc 5 1, (0, 0, 0, 0, 0), 1, 0), (.goto (-94), (0, 0, 0, 0, 0), 0, 0)] = some 113 := by decide +kernel
set_option maxRecDepth 100000 in
theorem l_isFlow113 {n : Nat} {R : px_R} (hg : px_G n R) {Q : px_Q} (g y k : Int32) {I : px_I} {L : px_L} (hG : mG I) (hT : mT I) (b0 : Int32) (hb0 : b0 = 0 ∨ (b0 = 1 ∧ (0 ≤ g ∧ g ≤ 1) ∧ 1 < I 110 g.toNatClampNeg ∧ mPS I g (I 110 g.toNatClampNeg) 20)) (hq : ∀ r, (r = 0 ∨ (r = 1 ∧ b0 = 1)) → Q (some (.int r)) n I L R) : ∀ i : Int32, i ≤ 20 → 1 ≤ i → ∀ b : Int32, (b = 0 ∨ (b = 1 ∧ b0 = 1)) → px M_X12_isFlow 0 0 113 [(0, .ref 103), (1, .int g), (2, .int y), (3, .int k), (4, .int b), (5, .int i)] [] n I L R Q := by
  refine px_up _ (fun i ih hi => ?_)
  intro h0 b hb
  refine px_ige rfl q_X12_isFlow_113 hg rfl trivial (fun c117 => ?_) (fun c117 => ?_)
  · refine px_rz rfl q_X12_isFlow_210 rfl rfl rfl hg rfl trivial (by first | exact Or.inl rfl | exact Or.inr rfl | grind) ?_
    exact hq _ (by grind)
  · refine px_eq rfl q_X12_isFlow_120 hg rfl trivial (fun c122 => ?_) (fun c122 => ?_)
    · refine px_rz rfl q_X12_isFlow_210 rfl rfl rfl hg rfl trivial (by first | exact Or.inl rfl | exact Or.inr rfl | grind) ?_
      exact hq _ (by grind)
    · have hb1 : b0 = 1 := by grind
      have hb2 : (0 ≤ g ∧ g ≤ 1) ∧ 1 < I 110 g.toNatClampNeg ∧ mPS I g (I 110 g.toNatClampNeg) 20 := by grind
      obtain ⟨⟨g1, g2⟩, g3, g4⟩ := hb2
      refine px_ige rfl q_X12_isFlow_125 hg rfl ⟨trivial, (by first | (refine ⟨?_, ?_⟩ <;> grind))⟩ (fun c133 => ?_) (fun c133 => ?_)
      · refine px_rz rfl q_X12_isFlow_210 rfl rfl rfl hg rfl trivial (by first | exact Or.inl rfl | exact Or.inr rfl | grind) ?_
        exact hq _ (by grind)
      · obtain ⟨hG1, hG2⟩ := hG g g1 g2
        have hm := mF_of ⟨g1, g2⟩ hG1.2 g4 i h0 (by grind)
        have hK := mK2 g1 g2 h0 (by grind) hG1.2
        have hk := hK.1
        have hk1 := hK.2
        have t1 := hT _ hk.1 hk.2
        have t2 := hT _ hk1.1 hk1.2
        have u1 : 0 ≤ I 116 (20 * g + i).toNatClampNeg ∧ I 116 (20 * g + i).toNatClampNeg < 24 := ⟨hm.2.2.2.1, t1.2⟩
        have u2 : 0 ≤ I 116 (20 * g + i - 1).toNatClampNeg ∧ I 116 (20 * g + i - 1).toNatClampNeg < 24 := ⟨hm.2.2.2.2, t2.2⟩
        refine px_cVP (ci := 12) rfl q_X12_isFlow_136 hg rfl ⟨⟨trivial, (by with_reducible assumption)⟩, (by with_reducible assumption)⟩ lk_12_219 nm_X12_gapOf (k_gapOf hg _ _ _ u1 u2) rfl rfl (px_lit hg rfl) rfl rfl rfl ⟨rfl, rfl⟩ ?_
        intro x163 h163
        refine px_ieq rfl q_X12_isFlow_166 hg rfl trivial (fun c168 => ?_) (fun c168 => ?_)
        · refine px_b rfl q_X12_isFlow_201 hg rfl trivial ?_
          exact px_go (ih (i + 1) (by grind) (by grind) (by grind) _ (by first | exact Or.inl rfl | exact Or.inr ⟨rfl, hb1⟩)) ⟨rfl, rfl, rfl, rfl, rfl, rfl, trivial⟩
        · refine px_cVP (ci := 12) rfl q_X12_isFlow_171 hg rfl ⟨⟨trivial, (by with_reducible assumption)⟩, (by with_reducible assumption)⟩ lk_12_219 nm_X12_gapOf (k_gapOf hg _ _ _ u1 u2) rfl rfl (px_lit hg rfl) rfl rfl rfl ⟨rfl, rfl⟩ ?_
          intro x189 h189
          refine px_ieq rfl q_X12_isFlow_192 hg rfl trivial (fun c194 => ?_) (fun c194 => ?_)
          · refine px_b rfl q_X12_isFlow_201 hg rfl trivial ?_
            exact px_go (ih (i + 1) (by grind) (by grind) (by grind) _ (by first | exact Or.inl rfl | exact Or.inr ⟨rfl, hb1⟩)) ⟨rfl, rfl, rfl, rfl, rfl, rfl, trivial⟩
          · refine px_b rfl q_X12_isFlow_197 hg rfl trivial ?_
            exact px_go (ih (i + 1) (by grind) (by grind) (by grind) _ (by first | exact Or.inl rfl | exact Or.inr ⟨rfl, hb1⟩)) ⟨rfl, rfl, rfl, rfl, rfl, rfl, trivial⟩

theorem q_X12_isFlow_59 : px_bk 12 7 cX12_isFlow 59 [(.iload 5, (0, 0, 0, 0, 0), 0, 0), (.bipush 20, (0, 0, 0, 0, 0), 20, 0)] = some 63 ∧ px_t2 cX12_isFlow 63 .ge 110 = true := by decide +kernel
theorem q_X12_isFlow_110 : px_bk 12 7 cX12_isFlow 110 [(.iconst 1, (0, 0, 0, 0, 0), 1, 0), (.istore 5, (0, 0, 0, 0, 0), 0, 0)] = some 113 := by decide +kernel
theorem q_X12_isFlow_66 : px_bk 12 7 cX12_isFlow 66 [(.iload 4, (0, 0, 0, 0, 0), 0, 0)] = some 68 ∧ px_t1 cX12_isFlow 68 .eq 110 = true := by decide +kernel
theorem q_X12_isFlow_71 : px_bk 12 7 cX12_isFlow 71 [(.iload 5, (0, 0, 0, 0, 0), 0, 0), (.aload_n 0, (0, 0, 0, 0, 0), 0, 0), (.getfield 32, (12, 9, 3, 110, 0), 0, 0), (.iload_n 1, (0, 0, 0, 0, 0), 0, 0), (.iaload, (0, 0, 0, 0, 0), 0, 0)] = some 79 ∧ px_t2 cX12_isFlow 79 .ge 110 = true := by decide +kernel
theorem q_X12_isFlow_82 : px_bk 12 7 cX12_isFlow 82 [(.aload_n 0, (0, 0, 0, 0, 0), 0, 0), (.getfield 50, (12, 15, 3, 116, 0), 0, 0), (.bipush 20, (0, 0, 0, 0, 0), 20, 0), (.iload_n 1, (0, 0, 0, 0, 0), 0, 0), (.imul, (0, 0, 0, 0, 0), 0, 0), (.iload 5, (0, 0, 0, 0, 0), 0, 0), (.iadd, (0, 0, 0, 0, 0), 0, 0), (.iaload, (0, 0, 0, 0, 0), 0, 0)] = some 94 ∧ px_t1 cX12_isFlow 94 .lt 101 = true := by decide +kernel
theorem q_X12_isFlow_101 : px_bk 12 7 cX12_isFlow 101 [(.iconst 0, (0, 0, 0, 0, 0), 0, 0), (.istore 4, (0, 0, 0, 0, 0), 0, 0), (.iinc 5 1, (0, 0, 0, 0, 0), 1, 0), (.goto (-48), (0, 0, 0, 0, 0), 0, 0)] = some 59 := by decide +kernel
theorem q_X12_isFlow_97 : px_bk 12 7 cX12_isFlow 97 [(.iconst 1, (0, 0, 0, 0, 0), 1, 0), (.goto 4, (0, 0, 0, 0, 0), 0, 0), (.istore 4, (0, 0, 0, 0, 0), 0, 0), (.iinc 5 1, (0, 0, 0, 0, 0), 1, 0), (.goto (-48), (0, 0, 0, 0, 0), 0, 0)] = some 59 := by decide +kernel
set_option maxRecDepth 100000 in
theorem l_isFlow59 {n : Nat} {R : px_R} (hg : px_G n R) {Q : px_Q} (g y k : Int32) {I : px_I} {L : px_L} (hG : mG I) (hT : mT I) (b0 : Int32) (hb0 : b0 = 0 ∨ (b0 = 1 ∧ (0 ≤ g ∧ g ≤ 1) ∧ 1 < I 110 g.toNatClampNeg)) (hq : ∀ r, (r = 0 ∨ (r = 1 ∧ (0 ≤ g ∧ g ≤ 1) ∧ 1 < I 110 g.toNatClampNeg ∧ mPS I g (I 110 g.toNatClampNeg) 20)) → Q (some (.int r)) n I L R) : ∀ i : Int32, i ≤ 20 → 0 ≤ i → ∀ b : Int32, (b = 0 ∨ (b = 1 ∧ b0 = 1 ∧ mPS I g (I 110 g.toNatClampNeg) i)) → px M_X12_isFlow 0 0 59 [(0, .ref 103), (1, .int g), (2, .int y), (3, .int k), (4, .int b), (5, .int i)] [] n I L R Q := by
  refine px_up _ (fun i ih hi => ?_)
  intro h0 b hb
  refine px_ige rfl q_X12_isFlow_59 hg rfl trivial (fun c63 => ?_) (fun c63 => ?_)
  · refine px_b rfl q_X12_isFlow_110 hg rfl trivial ?_
    have hB : ∃ b1 : Int32, (b = b1) ∧ (b1 = 0 ∨ (b1 = 1 ∧ (0 ≤ g ∧ g ≤ 1) ∧ 1 < I 110 g.toNatClampNeg ∧ mPS I g (I 110 g.toNatClampNeg) 20)) := by
      refine ⟨b, rfl, ?_⟩
      rcases hb with hb | ⟨hb, hc, hd⟩
      · exact Or.inl hb
      · have he : (0 ≤ g ∧ g ≤ 1) ∧ 1 < I 110 g.toNatClampNeg := by grind
        refine Or.inr ⟨hb, he.1, he.2, fun j j1 j2 j3 => hd j j1 ?_ j3⟩
        have hP := (hG g he.1.1 he.1.2).1.2
        grind
    obtain ⟨b1, hB1, hB2⟩ := hB
    exact px_go (l_isFlow113 hg g y k hG hT b1 hB2 (fun r hr => hq r (by rcases hr with hr | ⟨hr, hc⟩; exact Or.inl hr; exact Or.inr ⟨hr, (hB2.resolve_left (by rw [hc]; decide)).2⟩)) 1 (by decide) (by decide) b (by rcases hB2 with h | h; exact Or.inl (hB1.trans h); exact Or.inr ⟨hB1.trans h.1, h.1⟩)) ⟨rfl, rfl, rfl, rfl, rfl, rfl, trivial⟩
  · refine px_eq rfl q_X12_isFlow_66 hg rfl trivial (fun c68 => ?_) (fun c68 => ?_)
    · refine px_b rfl q_X12_isFlow_110 hg rfl trivial ?_
      have hB : ∃ b1 : Int32, (b = b1) ∧ (b1 = 0 ∨ (b1 = 1 ∧ (0 ≤ g ∧ g ≤ 1) ∧ 1 < I 110 g.toNatClampNeg ∧ mPS I g (I 110 g.toNatClampNeg) 20)) := by
        refine ⟨b, rfl, ?_⟩
        rcases hb with hb | ⟨hb, hc, hd⟩
        · exact Or.inl hb
        · have he : (0 ≤ g ∧ g ≤ 1) ∧ 1 < I 110 g.toNatClampNeg := by grind
          refine Or.inr ⟨hb, he.1, he.2, fun j j1 j2 j3 => hd j j1 ?_ j3⟩
          have hP := (hG g he.1.1 he.1.2).1.2
          grind
      obtain ⟨b1, hB1, hB2⟩ := hB
      exact px_go (l_isFlow113 hg g y k hG hT b1 hB2 (fun r hr => hq r (by rcases hr with hr | ⟨hr, hc⟩; exact Or.inl hr; exact Or.inr ⟨hr, (hB2.resolve_left (by rw [hc]; decide)).2⟩)) 1 (by decide) (by decide) b (by rcases hB2 with h | h; exact Or.inl (hB1.trans h); exact Or.inr ⟨hB1.trans h.1, h.1⟩)) ⟨rfl, rfl, rfl, rfl, rfl, rfl, trivial⟩
    · have hb2 : b0 = 1 ∧ mPS I g (I 110 g.toNatClampNeg) i := by grind
      have hb3 : (0 ≤ g ∧ g ≤ 1) ∧ 1 < I 110 g.toNatClampNeg := by grind
      obtain ⟨⟨g1, g2⟩, g3⟩ := hb3
      obtain ⟨hG1, hG2⟩ := hG g g1 g2
      refine px_ige rfl q_X12_isFlow_71 hg rfl ⟨trivial, (by first | (refine ⟨?_, ?_⟩ <;> grind))⟩ (fun c79 => ?_) (fun c79 => ?_)
      · refine px_b rfl q_X12_isFlow_110 hg rfl trivial ?_
        have hB : ∃ b1 : Int32, (b = b1) ∧ (b1 = 0 ∨ (b1 = 1 ∧ (0 ≤ g ∧ g ≤ 1) ∧ 1 < I 110 g.toNatClampNeg ∧ mPS I g (I 110 g.toNatClampNeg) 20)) := by
          refine ⟨b, rfl, ?_⟩
          rcases hb with hb | ⟨hb, hc, hd⟩
          · exact Or.inl hb
          · have he : (0 ≤ g ∧ g ≤ 1) ∧ 1 < I 110 g.toNatClampNeg := by grind
            refine Or.inr ⟨hb, he.1, he.2, fun j j1 j2 j3 => hd j j1 ?_ j3⟩
            have hP := (hG g he.1.1 he.1.2).1.2
            grind
        obtain ⟨b1, hB1, hB2⟩ := hB
        exact px_go (l_isFlow113 hg g y k hG hT b1 hB2 (fun r hr => hq r (by rcases hr with hr | ⟨hr, hc⟩; exact Or.inl hr; exact Or.inr ⟨hr, (hB2.resolve_left (by rw [hc]; decide)).2⟩)) 1 (by decide) (by decide) b (by rcases hB2 with h | h; exact Or.inl (hB1.trans h); exact Or.inr ⟨hB1.trans h.1, h.1⟩)) ⟨rfl, rfl, rfl, rfl, rfl, rfl, trivial⟩
      · have hk := mK3 g1 g2 h0 (by grind) hG1.2
        refine px_lt rfl q_X12_isFlow_82 hg rfl ⟨trivial, (by with_reducible assumption)⟩ (fun c94 => ?_) (fun c94 => ?_)
        · refine px_b rfl q_X12_isFlow_101 hg rfl trivial ?_
          first
            | exact px_go (ih (i + 1) (by grind) (by grind) (by grind) 1 (Or.inr ⟨rfl, hb2.1, hb2.2.up c94 (by grind)⟩)) ⟨rfl, rfl, rfl, rfl, rfl, rfl, trivial⟩
            | exact px_go (ih (i + 1) (by grind) (by grind) (by grind) 0 (Or.inl rfl)) ⟨rfl, rfl, rfl, rfl, rfl, rfl, trivial⟩
        · refine px_b rfl q_X12_isFlow_97 hg rfl trivial ?_
          first
            | exact px_go (ih (i + 1) (by grind) (by grind) (by grind) 1 (Or.inr ⟨rfl, hb2.1, hb2.2.up c94 (by grind)⟩)) ⟨rfl, rfl, rfl, rfl, rfl, rfl, trivial⟩
            | exact px_go (ih (i + 1) (by grind) (by grind) (by grind) 0 (Or.inl rfl)) ⟨rfl, rfl, rfl, rfl, rfl, rfl, trivial⟩

theorem q_X12_isFlow_0 : px_bk 12 7 cX12_isFlow 0 [(.iload_n 1, (0, 0, 0, 0, 0), 0, 0), (.i2l, (0, 0, 0, 0, 0), 0, 0), (.lconst 0, (0, 0, 0, 0, 0), 0, 0), (.lconst 1, (0, 0, 0, 0, 0), 0, 1)] = some 4 ∧ px_tS cX12_isFlow 4 167 = true := by decide +kernel
theorem q_X12_isFlow_7 : px_bk 12 7 cX12_isFlow 7 [] = some 7 ∧ px_t1 cX12_isFlow 7 .eq 53 = true := by decide +kernel
theorem q_X12_isFlow_53 : px_bk 12 7 cX12_isFlow 53 [(.iconst 0, (0, 0, 0, 0, 0), 0, 0), (.istore 4, (0, 0, 0, 0, 0), 0, 0), (.iconst 0, (0, 0, 0, 0, 0), 0, 0), (.istore 5, (0, 0, 0, 0, 0), 0, 0)] = some 59 := by decide +kernel
theorem q_X12_isFlow_10 : px_bk 12 7 cX12_isFlow 10 [(.aload_n 0, (0, 0, 0, 0, 0), 0, 0), (.getfield 32, (12, 9, 3, 110, 0), 0, 0), (.iload_n 1, (0, 0, 0, 0, 0), 0, 0), (.iaload, (0, 0, 0, 0, 0), 0, 0), (.iconst 1, (0, 0, 0, 0, 0), 1, 0)] = some 17 ∧ px_t2 cX12_isFlow 17 .le 53 = true := by decide +kernel
theorem q_X12_isFlow_20 : px_bk 12 7 cX12_isFlow 20 [(.iload_n 2, (0, 0, 0, 0, 0), 0, 0), (.i2l, (0, 0, 0, 0, 0), 0, 0), (.lconst 0, (0, 0, 0, 0, 0), 0, 0), (.ldc2_w 231, (0, 0, 0, 0, 0), 0, 5000)] = some 26 ∧ px_tS cX12_isFlow 26 167 = true := by decide +kernel
theorem q_X12_isFlow_29 : px_bk 12 7 cX12_isFlow 29 [] = some 29 ∧ px_t1 cX12_isFlow 29 .eq 53 = true := by decide +kernel
theorem q_X12_isFlow_32 : px_bk 12 7 cX12_isFlow 32 [(.iload_n 3, (0, 0, 0, 0, 0), 0, 0)] = some 33 ∧ px_tS cX12_isFlow 33 211 = true := by decide +kernel
theorem q_X12_isFlow_36 : px_bk 12 7 cX12_isFlow 36 [] = some 36 ∧ px_t1 cX12_isFlow 36 .eq 53 = true := by decide +kernel
theorem q_X12_isFlow_39 : px_bk 12 7 cX12_isFlow 39 [(.aload_n 0, (0, 0, 0, 0, 0), 0, 0), (.iconst 2, (0, 0, 0, 0, 0), 2, 0), (.iload_n 3, (0, 0, 0, 0, 0), 0, 0), (.iconst (-1), (0, 0, 0, 0, 0), -1, 0)] = some 43 ∧ px_tv cX12_isFlow 43 214 = true := by decide +kernel
theorem q_X12_isFlow_46 : px_bk 12 7 cX12_isFlow 46 [] = some 46 ∧ px_t1 cX12_isFlow 46 .eq 53 = true := by decide +kernel
theorem q_X12_isFlow_49 : px_bk 12 7 cX12_isFlow 49 [(.iconst 1, (0, 0, 0, 0, 0), 1, 0), (.goto 4, (0, 0, 0, 0, 0), 0, 0), (.istore 4, (0, 0, 0, 0, 0), 0, 0), (.iconst 0, (0, 0, 0, 0, 0), 0, 0), (.istore 5, (0, 0, 0, 0, 0), 0, 0)] = some 59 := by decide +kernel
set_option maxRecDepth 100000 in
theorem k_isFlow {n : Nat} {I : px_I} {L : px_L} {R : px_R} (hg : px_G n R) (g y k : Int32) (hS : mS I) (hG : mG I) (hT : mT I) : px_KS M_X12_isFlow [.ref 103, .int g, .int y, .int k] n I L R (fun r I2 L2 => (r = 0 ∨ (r = 1 ∧ (0 ≤ g ∧ g ≤ 1) ∧ 1 < I 110 g.toNatClampNeg ∧ mPS I g (I 110 g.toNatClampNeg) 20)) ∧ (I2 = I ∨ I2 = px_u I 103 70 (I 103 1)) ∧ mDL L L2) := by
  refine px_of (plainFor_of_name np_RX12) (fun _ _ _ => trivial) rfl ?_
  refine px_cSP rfl q_X12_isFlow_0 hg rfl trivial lk_12_167 nm_X12_in (k_inI hg _ (0) (1) (by decide) (by decide)) rfl rfl rfl ⟨rfl, rfl⟩ ?_
  intro x4 h4
  refine px_eq rfl q_X12_isFlow_7 hg rfl trivial (fun c7 => ?_) (fun c7 => ?_)
  · replace h4 := px_bf h4 c7
    refine px_b rfl q_X12_isFlow_53 hg rfl trivial ?_
    first
      | exact px_go (l_isFlow59 hg g y k hG hT 0 (Or.inl rfl) (fun r hr => ⟨rfl, rfl, r, rfl, hr, Or.inl rfl, fun _ _ => rfl⟩) 0 (by decide) (by decide) 0 (Or.inl rfl)) ⟨rfl, rfl, rfl, rfl, rfl, rfl, trivial⟩
      | exact px_go (l_isFlow59 hg g y k hG9 hT9 0 (Or.inl rfl) (fun r hr => ⟨rfl, rfl, r, rfl, by unfold mPS at *; simpa [px_ur] using hr, Or.inr rfl, by assumption⟩) 0 (by decide) (by decide) 0 (Or.inl rfl)) ⟨rfl, rfl, rfl, rfl, rfl, rfl, trivial⟩
      | exact px_go (l_isFlow59 hg g y k hG9 hT9 1 (Or.inr ⟨rfl, h4, by simp [px_ur]; grind⟩) (fun r hr => ⟨rfl, rfl, r, rfl, by unfold mPS at *; simpa [px_ur] using hr, Or.inr rfl, by assumption⟩) 0 (by decide) (by decide) 1 (Or.inr ⟨rfl, rfl, fun j j1 j2 _ => by grind⟩)) ⟨rfl, rfl, rfl, rfl, rfl, rfl, trivial⟩
  · replace h4 := px_bt h4 c7
    refine px_ile rfl q_X12_isFlow_10 hg rfl ⟨trivial, (by first | decide | (refine ⟨?_, ?_⟩ <;> grind) | grind)⟩ (fun c17 => ?_) (fun c17 => ?_)
    · refine px_b rfl q_X12_isFlow_53 hg rfl trivial ?_
      first
        | exact px_go (l_isFlow59 hg g y k hG hT 0 (Or.inl rfl) (fun r hr => ⟨rfl, rfl, r, rfl, hr, Or.inl rfl, fun _ _ => rfl⟩) 0 (by decide) (by decide) 0 (Or.inl rfl)) ⟨rfl, rfl, rfl, rfl, rfl, rfl, trivial⟩
        | exact px_go (l_isFlow59 hg g y k hG9 hT9 0 (Or.inl rfl) (fun r hr => ⟨rfl, rfl, r, rfl, by unfold mPS at *; simpa [px_ur] using hr, Or.inr rfl, by assumption⟩) 0 (by decide) (by decide) 0 (Or.inl rfl)) ⟨rfl, rfl, rfl, rfl, rfl, rfl, trivial⟩
        | exact px_go (l_isFlow59 hg g y k hG9 hT9 1 (Or.inr ⟨rfl, h4, by simp [px_ur]; grind⟩) (fun r hr => ⟨rfl, rfl, r, rfl, by unfold mPS at *; simpa [px_ur] using hr, Or.inr rfl, by assumption⟩) 0 (by decide) (by decide) 1 (Or.inr ⟨rfl, rfl, fun j j1 j2 _ => by grind⟩)) ⟨rfl, rfl, rfl, rfl, rfl, rfl, trivial⟩
    · refine px_cSP rfl q_X12_isFlow_20 hg rfl trivial lk_12_167 nm_X12_in (k_inI hg _ (0) (5000) (by decide) (by decide)) rfl rfl rfl ⟨rfl, rfl⟩ ?_
      intro x26 h26
      refine px_eq rfl q_X12_isFlow_29 hg rfl trivial (fun c29 => ?_) (fun c29 => ?_)
      · replace h26 := px_bf h26 c29
        refine px_b rfl q_X12_isFlow_53 hg rfl trivial ?_
        first
          | exact px_go (l_isFlow59 hg g y k hG hT 0 (Or.inl rfl) (fun r hr => ⟨rfl, rfl, r, rfl, hr, Or.inl rfl, fun _ _ => rfl⟩) 0 (by decide) (by decide) 0 (Or.inl rfl)) ⟨rfl, rfl, rfl, rfl, rfl, rfl, trivial⟩
          | exact px_go (l_isFlow59 hg g y k hG9 hT9 0 (Or.inl rfl) (fun r hr => ⟨rfl, rfl, r, rfl, by unfold mPS at *; simpa [px_ur] using hr, Or.inr rfl, by assumption⟩) 0 (by decide) (by decide) 0 (Or.inl rfl)) ⟨rfl, rfl, rfl, rfl, rfl, rfl, trivial⟩
          | exact px_go (l_isFlow59 hg g y k hG9 hT9 1 (Or.inr ⟨rfl, h4, by simp [px_ur]; grind⟩) (fun r hr => ⟨rfl, rfl, r, rfl, by unfold mPS at *; simpa [px_ur] using hr, Or.inr rfl, by assumption⟩) 0 (by decide) (by decide) 1 (Or.inr ⟨rfl, rfl, fun j j1 j2 _ => by grind⟩)) ⟨rfl, rfl, rfl, rfl, rfl, rfl, trivial⟩
      · replace h26 := px_bt h26 c29
        refine px_cSP rfl q_X12_isFlow_32 hg rfl trivial lk_12_211 nm_X12_isKnown (k_isKnown hg _) rfl rfl rfl ⟨rfl, rfl⟩ ?_
        intro x33 h33
        refine px_eq rfl q_X12_isFlow_36 hg rfl trivial (fun c36 => ?_) (fun c36 => ?_)
        · replace h33 := px_bf h33 c36
          refine px_b rfl q_X12_isFlow_53 hg rfl trivial ?_
          first
            | exact px_go (l_isFlow59 hg g y k hG hT 0 (Or.inl rfl) (fun r hr => ⟨rfl, rfl, r, rfl, hr, Or.inl rfl, fun _ _ => rfl⟩) 0 (by decide) (by decide) 0 (Or.inl rfl)) ⟨rfl, rfl, rfl, rfl, rfl, rfl, trivial⟩
            | exact px_go (l_isFlow59 hg g y k hG9 hT9 0 (Or.inl rfl) (fun r hr => ⟨rfl, rfl, r, rfl, by unfold mPS at *; simpa [px_ur] using hr, Or.inr rfl, by assumption⟩) 0 (by decide) (by decide) 0 (Or.inl rfl)) ⟨rfl, rfl, rfl, rfl, rfl, rfl, trivial⟩
            | exact px_go (l_isFlow59 hg g y k hG9 hT9 1 (Or.inr ⟨rfl, h4, by simp [px_ur]; grind⟩) (fun r hr => ⟨rfl, rfl, r, rfl, by unfold mPS at *; simpa [px_ur] using hr, Or.inr rfl, by assumption⟩) 0 (by decide) (by decide) 1 (Or.inr ⟨rfl, rfl, fun j j1 j2 _ => by grind⟩)) ⟨rfl, rfl, rfl, rfl, rfl, rfl, trivial⟩
        · replace h33 := px_bt h33 c36
          refine px_cVS (ci := 12) rfl q_X12_isFlow_39 hg rfl trivial lk_12_214 nm_X12_isClosed (k_isClosed hg _ _ _ ‹_›) rfl rfl (px_lit hg rfl) rfl rfl rfl ⟨rfl, rfl⟩ ?_
          intro x43 I43 L43 h43
          obtain ⟨hr, rfl, h43⟩ := h43
          have hG9 : mG (px_u I 103 70 (I 103 1)) := by unfold mG at *; simpa [px_ur] using hG
          have hT9 : mT (px_u I 103 70 (I 103 1)) := by unfold mT at *; simpa [px_ur] using hT
          refine px_eq rfl q_X12_isFlow_46 hg rfl trivial (fun c46 => ?_) (fun c46 => ?_)
          · refine px_b rfl q_X12_isFlow_53 hg rfl trivial ?_
            first
              | exact px_go (l_isFlow59 hg g y k hG hT 0 (Or.inl rfl) (fun r hr => ⟨rfl, rfl, r, rfl, hr, Or.inl rfl, fun _ _ => rfl⟩) 0 (by decide) (by decide) 0 (Or.inl rfl)) ⟨rfl, rfl, rfl, rfl, rfl, rfl, trivial⟩
              | exact px_go (l_isFlow59 hg g y k hG9 hT9 0 (Or.inl rfl) (fun r hr => ⟨rfl, rfl, r, rfl, by unfold mPS at *; simpa [px_ur] using hr, Or.inr rfl, by assumption⟩) 0 (by decide) (by decide) 0 (Or.inl rfl)) ⟨rfl, rfl, rfl, rfl, rfl, rfl, trivial⟩
              | exact px_go (l_isFlow59 hg g y k hG9 hT9 1 (Or.inr ⟨rfl, h4, by simp [px_ur]; grind⟩) (fun r hr => ⟨rfl, rfl, r, rfl, by unfold mPS at *; simpa [px_ur] using hr, Or.inr rfl, by assumption⟩) 0 (by decide) (by decide) 1 (Or.inr ⟨rfl, rfl, fun j j1 j2 _ => by grind⟩)) ⟨rfl, rfl, rfl, rfl, rfl, rfl, trivial⟩
          · refine px_b rfl q_X12_isFlow_49 hg rfl trivial ?_
            first
              | exact px_go (l_isFlow59 hg g y k hG hT 0 (Or.inl rfl) (fun r hr => ⟨rfl, rfl, r, rfl, hr, Or.inl rfl, fun _ _ => rfl⟩) 0 (by decide) (by decide) 0 (Or.inl rfl)) ⟨rfl, rfl, rfl, rfl, rfl, rfl, trivial⟩
              | exact px_go (l_isFlow59 hg g y k hG9 hT9 0 (Or.inl rfl) (fun r hr => ⟨rfl, rfl, r, rfl, by unfold mPS at *; simpa [px_ur] using hr, Or.inr rfl, by assumption⟩) 0 (by decide) (by decide) 0 (Or.inl rfl)) ⟨rfl, rfl, rfl, rfl, rfl, rfl, trivial⟩
              | exact px_go (l_isFlow59 hg g y k hG9 hT9 1 (Or.inr ⟨rfl, h4, by simp [px_ur]; grind⟩) (fun r hr => ⟨rfl, rfl, r, rfl, by unfold mPS at *; simpa [px_ur] using hr, Or.inr rfl, by assumption⟩) 0 (by decide) (by decide) 1 (Or.inr ⟨rfl, rfl, fun j j1 j2 _ => by grind⟩)) ⟨rfl, rfl, rfl, rfl, rfl, rfl, trivial⟩

theorem q_X12_flow_0 : px_bk 12 5 cX12_flow 0 [(.aload_n 0, (0, 0, 0, 0, 0), 0, 0), (.iload_n 1, (0, 0, 0, 0, 0), 0, 0), (.iload_n 2, (0, 0, 0, 0, 0), 0, 0), (.iload_n 3, (0, 0, 0, 0, 0), 0, 0)] = some 4 ∧ px_tv cX12_flow 4 488 = true := by decide +kernel
theorem q_X12_flow_7 : px_bk 12 5 cX12_flow 7 [] = some 7 ∧ px_t1 cX12_flow 7 .ne 12 = true := by decide +kernel
theorem q_X12_flow_12 : px_bk 12 5 cX12_flow 12 [(.aload_n 0, (0, 0, 0, 0, 0), 0, 0), (.iload_n 1, (0, 0, 0, 0, 0), 0, 0), (.aload_n 0, (0, 0, 0, 0, 0), 0, 0), (.iload_n 1, (0, 0, 0, 0, 0), 0, 0), (.iload_n 2, (0, 0, 0, 0, 0), 0, 0), (.iload_n 3, (0, 0, 0, 0, 0), 0, 0), (.iload 4, (0, 0, 0, 0, 0), 0, 0)] = some 20 ∧ px_tv cX12_flow 20 491 = true := by decide +kernel
theorem q_X12_flow_23 : px_bk 12 5 cX12_flow 23 [(.iload_n 2, (0, 0, 0, 0, 0), 0, 0), (.iload_n 3, (0, 0, 0, 0, 0), 0, 0), (.iload 4, (0, 0, 0, 0, 0), 0, 0)] = some 27 ∧ px_tv cX12_flow 27 485 = true := by decide +kernel
theorem q_X12_flow_30 : px_bk 12 5 cX12_flow 30 [] = some 30 ∧ px_tr cX12_flow 30 .ireturn = true := by decide +kernel
theorem q_X12_flow_10 : px_bk 12 5 cX12_flow 10 [(.iconst (-1), (0, 0, 0, 0, 0), -1, 0)] = some 11 ∧ px_tr cX12_flow 11 .ireturn = true := by decide +kernel
set_option maxRecDepth 100000 in
theorem k_flow {n : Nat} {I : px_I} {L : px_L} {R : px_R} (hg : px_G n R) (g y k h : Int32) (hS : mS I) (hG : mG I) (hT : mT I) (hr : 0 ≤ I 103 63 ∧ I 103 63 ≤ 30) : px_KS M_X12_flow [.ref 103, .int g, .int y, .int k, .int h] n I L R (fun r I2 L2 => mDI I I2 ∧ mDL L L2) := by
  refine px_of (plainFor_of_name np_RX12) (fun _ _ _ => trivial) rfl ?_
  refine px_cVS (ci := 12) rfl q_X12_flow_0 hg rfl trivial lk_12_488 nm_X12_isFlow (k_isFlow hg _ _ _ ‹_› ‹_› ‹_›) rfl rfl (px_lit hg rfl) rfl rfl rfl ⟨rfl, rfl⟩ ?_
  intro x4 I4 L4 h4
  obtain ⟨hr9, hi, h4⟩ := h4
  have hc : mG I4 ∧ mT I4 ∧ (0 ≤ I4 103 63 ∧ I4 103 63 ≤ 30) ∧ I4 110 = I 110 ∧ I4 116 = I 116 := by
    rcases hi with rfl | rfl
    · exact ⟨hG, hT, hr, rfl, rfl⟩
    · exact ⟨by unfold mG at *; simpa [px_ur] using hG, by unfold mT at *; simpa [px_ur] using hT, by simpa [px_ur] using hr, by funext j; simp [px_ur], by funext j; simp [px_ur]⟩
  obtain ⟨hG9, hT9, hr8, e110, e116⟩ := hc
  refine px_ne rfl q_X12_flow_7 hg rfl trivial (fun c7 => ?_) (fun c7 => ?_)
  · have hz : (0 ≤ g ∧ g ≤ 1) ∧ 1 < I 110 g.toNatClampNeg ∧ mPS I g (I 110 g.toNatClampNeg) 20 := by rcases hr9 with h | h; exact absurd h (by assumption); exact h.2
    obtain ⟨hz1, hz2, hz3⟩ := hz
    have hP := (hG g hz1.1 hz1.2).1.2
    rw [← e110] at hz2 hP
    have hF := mF_of (I := I4) hz1 hP (by unfold mPS at *; rw [e110, e116]; exact hz3)
    refine px_cVP (ci := 12) rfl q_X12_flow_12 hg rfl trivial lk_12_491 nm_X12_narrowest (k_narrowest hg _ _ _ _ hr8 hG9 hT9 hz1 hz2 hF) rfl rfl (px_lit hg rfl) rfl rfl rfl ⟨rfl, rfl⟩ ?_
    intro x20 h20
    refine px_cVP (ci := 12) rfl q_X12_flow_23 hg rfl trivial lk_12_485 nm_X12_letsBy (k_letsBy hg _ _ _ _ _ hr8 hG9 hT9 (hF _ (by grind) (by grind))) rfl rfl (px_lit hg rfl) rfl rfl rfl ⟨rfl, rfl⟩ ?_
    intro x27 h27
    refine px_riS rfl q_X12_flow_30 rfl rfl rfl hg rfl trivial ⟨⟨rfl, rfl⟩, ?_⟩
    first | exact ⟨fun _ _ _ => rfl, fun _ _ => rfl⟩ | exact ⟨fun b j h => by rcases hi with hi | hi <;> rw [hi]; simp [px_ur]; grind, by assumption⟩
  · refine px_riS rfl q_X12_flow_10 rfl rfl rfl hg rfl trivial ⟨⟨rfl, rfl⟩, ?_⟩
    first | exact ⟨fun _ _ _ => rfl, fun _ _ => rfl⟩ | exact ⟨fun b j h => by rcases hi with hi | hi <;> rw [hi]; simp [px_ur]; grind, by assumption⟩

theorem q_X12_narrow_0 : px_bk 12 4 cX12_narrow 0 [(.aload_n 0, (0, 0, 0, 0, 0), 0, 0), (.iload_n 1, (0, 0, 0, 0, 0), 0, 0), (.iload_n 2, (0, 0, 0, 0, 0), 0, 0), (.iload_n 3, (0, 0, 0, 0, 0), 0, 0)] = some 4 ∧ px_tv cX12_narrow 4 488 = true := by decide +kernel
theorem q_X12_narrow_7 : px_bk 12 4 cX12_narrow 7 [] = some 7 ∧ px_t1 cX12_narrow 7 .eq 21 = true := by decide +kernel
theorem q_X12_narrow_21 : px_bk 12 4 cX12_narrow 21 [(.iconst (-1), (0, 0, 0, 0, 0), -1, 0)] = some 22 ∧ px_tr cX12_narrow 22 .ireturn = true := by decide +kernel
theorem q_X12_narrow_10 : px_bk 12 4 cX12_narrow 10 [(.aload_n 0, (0, 0, 0, 0, 0), 0, 0), (.iload_n 1, (0, 0, 0, 0, 0), 0, 0), (.iload_n 2, (0, 0, 0, 0, 0), 0, 0), (.iload_n 3, (0, 0, 0, 0, 0), 0, 0), (.iconst 0, (0, 0, 0, 0, 0), 0, 0)] = some 15 ∧ px_tv cX12_narrow 15 491 = true := by decide +kernel
theorem q_X12_narrow_18 : px_bk 12 4 cX12_narrow 18 [(.goto 4, (0, 0, 0, 0, 0), 0, 0)] = some 22 ∧ px_tr cX12_narrow 22 .ireturn = true := by decide +kernel
set_option maxRecDepth 100000 in
theorem k_narrow {n : Nat} {I : px_I} {L : px_L} {R : px_R} (hg : px_G n R) (g y k : Int32) (hS : mS I) (hG : mG I) (hT : mT I) (hr : 0 ≤ I 103 63 ∧ I 103 63 ≤ 30) : px_KS M_X12_narrow [.ref 103, .int g, .int y, .int k] n I L R (fun r I2 L2 => mDI I I2 ∧ mDL L L2) := by
  refine px_of (plainFor_of_name np_RX12) (fun _ _ _ => trivial) rfl ?_
  refine px_cVS (ci := 12) rfl q_X12_narrow_0 hg rfl trivial lk_12_488 nm_X12_isFlow (k_isFlow hg _ _ _ ‹_› ‹_› ‹_›) rfl rfl (px_lit hg rfl) rfl rfl rfl ⟨rfl, rfl⟩ ?_
  intro x4 I4 L4 h4
  obtain ⟨hr9, hi, h4⟩ := h4
  have hc : mG I4 ∧ mT I4 ∧ (0 ≤ I4 103 63 ∧ I4 103 63 ≤ 30) ∧ I4 110 = I 110 ∧ I4 116 = I 116 := by
    rcases hi with rfl | rfl
    · exact ⟨hG, hT, hr, rfl, rfl⟩
    · exact ⟨by unfold mG at *; simpa [px_ur] using hG, by unfold mT at *; simpa [px_ur] using hT, by simpa [px_ur] using hr, by funext j; simp [px_ur], by funext j; simp [px_ur]⟩
  obtain ⟨hG9, hT9, hr8, e110, e116⟩ := hc
  refine px_eq rfl q_X12_narrow_7 hg rfl trivial (fun c7 => ?_) (fun c7 => ?_)
  · refine px_riS rfl q_X12_narrow_21 rfl rfl rfl hg rfl trivial ⟨⟨rfl, rfl⟩, ?_⟩
    first | exact ⟨fun _ _ _ => rfl, fun _ _ => rfl⟩ | exact ⟨fun b j h => by rcases hi with hi | hi <;> rw [hi]; simp [px_ur]; grind, by assumption⟩
  · have hz : (0 ≤ g ∧ g ≤ 1) ∧ 1 < I 110 g.toNatClampNeg ∧ mPS I g (I 110 g.toNatClampNeg) 20 := by rcases hr9 with h | h; exact absurd h (by assumption); exact h.2
    obtain ⟨hz1, hz2, hz3⟩ := hz
    have hP := (hG g hz1.1 hz1.2).1.2
    rw [← e110] at hz2 hP
    have hF := mF_of (I := I4) hz1 hP (by unfold mPS at *; rw [e110, e116]; exact hz3)
    refine px_cVP (ci := 12) rfl q_X12_narrow_10 hg rfl trivial lk_12_491 nm_X12_narrowest (k_narrowest hg _ _ _ _ hr8 hG9 hT9 hz1 hz2 hF) rfl rfl (px_lit hg rfl) rfl rfl rfl ⟨rfl, rfl⟩ ?_
    intro x15 h15
    refine px_riS rfl q_X12_narrow_18 rfl rfl rfl hg rfl trivial ⟨⟨rfl, rfl⟩, ?_⟩
    first | exact ⟨fun _ _ _ => rfl, fun _ _ => rfl⟩ | exact ⟨fun b j h => by rcases hi with hi | hi <;> rw [hi]; simp [px_ur]; grind, by assumption⟩
