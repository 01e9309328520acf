set_option maxRecDepth 100000 in
theorem lx_runsBoth {n : Nat} {R : px_R} (hg : px_G n R) {Q : px_Q} (a b : Int32) {I0 I : px_I} (h0b : 0 ≤ b) (hb : 0 ≤ b / 16 ∧ b / 16 ≤ 5) (hX : mXI I0 I) {za zb : zL} (ho : mOx I (b / 16) zb) (L : px_L) {ha : Int32} (h1 : (I 103 74 = 0 ∧ fD (tR I0) za (V0 ha) = none) ∨ (I 103 74 = 1 ∧ ∃ A, fD (tR I0) za (V0 ha) = some A ∧ ∀ q, q < 9 → L 132 q = A q)) (hq : ∀ I2 L2, mXI I0 I2 → mBL L L2 → bothR (tR I0) za zb ha (b - b / 16 * 16) I2 L2 → Q none n I2 L2 R) : ∀ k : Int32, k ≤ 6 → 0 ≤ k → ∀ L1, mBL L L1 → L1 132 = L 132 → (∀ q : Nat, q < k.toNatClampNeg → L1 144 q = L 132 q) → px M_X12_runsBoth 0 0 18 [(0, .ref 103), (1, .int a), (2, .int b), (3, .int k)] [] n I L1 R Q := by
  refine px_up 6 (fun k ih hk => ?_)
  intro h0 L1 hL e132 h144
  have up := (px_tnS h0 (by grind)).1
  have hb15 : 0 ≤ b - b / 16 * 16 ∧ b - b / 16 * 16 ≤ 15 := px_rm16 h0b
  refine px_ige rfl q_X12_runsBoth_18 hg rfl trivial (fun c21 => ?_) (fun c21 => ?_)
  · refine px_eq rfl q_X12_runsBoth_42 hg rfl trivial (fun c47 => ?_) (fun c47 => ?_)
    · refine px_rv rfl q_X12_runsBoth_69 rfl rfl rfl hg rfl ⟨trivial, (by first | decide | exact Or.inl rfl | exact Or.inr rfl | (refine ⟨?_, ?_⟩ <;> grind))⟩ ?_
      have k6 : k = 6 := by grind
      have k6n : k.toNatClampNeg = 6 := by rw [k6]; decide
      first
        | (refine hq _ _ (hX.u74 _) hL (Or.inl ⟨by first | (rw [px_u_at]; done) | (rw [px_u_at]; decide) | (rw [px_u_at]; grind), ?_⟩)
           exact Or.inl (h1.elim (fun z => z.2) (fun z => absurd z.1 (by grind))))
        | (have o9 := h59.2.2.2.V
           have eT : ∀ q, q < 5 → tR I q = tR I0 q := tR_same hX
           rw [fD_t eT] at o9
           refine hq _ _ ((hX.trans h59.2.1.X).u74 _) (hL.R h59.2.2.1) ?_
           rcases o9 with ⟨q1, q2⟩ | ⟨q1, B, q2, q3⟩
           · exact Or.inl ⟨by first | (rw [px_u_at]; done) | (rw [px_u_at]; decide) | (rw [px_u_at]; grind), Or.inr q2⟩
           · first
               | exact absurd q1 (by grind)
               | (rcases h1 with ⟨z1, -⟩ | ⟨z1, A, z2, z3⟩
                  · exact absurd z1 (by grind)
                  · exact Or.inr ⟨by first | (rw [px_u_at]; done) | (rw [px_u_at]; decide) | (rw [px_u_at]; grind), A, B, z2, q2, fun q hq9 => by rw [h59.2.2.1 144 (by decide), h144 q (by omega)]; exact z3 q (by omega), q3⟩))
    · refine px_cVS (ci := 12) rfl q_X12_runsBoth_50 hg rfl ⟨⟨trivial, (by first | decide | exact Or.inl rfl | exact Or.inr rfl | (refine ⟨?_, ?_⟩ <;> grind))⟩, (by first | decide | exact Or.inl rfl | exact Or.inr rfl | (refine ⟨?_, ?_⟩ <;> grind))⟩ lk_12_413 nm_X12_runs (kx_runs hg _ _ hb hb15 ho) rfl rfl (px_lit hg rfl) rfl rfl rfl ⟨rfl, rfl⟩ ?_
      intro x59 I59 L59 h59
      refine px_eq rfl q_X12_runsBoth_62 hg rfl trivial (fun c62 => ?_) (fun c62 => ?_)
      · refine px_rv rfl q_X12_runsBoth_69 rfl rfl rfl hg rfl ⟨trivial, (by first | decide | exact Or.inl rfl | exact Or.inr rfl | (refine ⟨?_, ?_⟩ <;> grind))⟩ ?_
        have k6 : k = 6 := by grind
        have k6n : k.toNatClampNeg = 6 := by rw [k6]; decide
        first
          | (refine hq _ _ (hX.u74 _) hL (Or.inl ⟨by first | (rw [px_u_at]; done) | (rw [px_u_at]; decide) | (rw [px_u_at]; grind), ?_⟩)
             exact Or.inl (h1.elim (fun z => z.2) (fun z => absurd z.1 (by grind))))
          | (have o9 := h59.2.2.2.V
             have eT : ∀ q, q < 5 → tR I q = tR I0 q := tR_same hX
             rw [fD_t eT] at o9
             refine hq _ _ ((hX.trans h59.2.1.X).u74 _) (hL.R h59.2.2.1) ?_
             rcases o9 with ⟨q1, q2⟩ | ⟨q1, B, q2, q3⟩
             · exact Or.inl ⟨by first | (rw [px_u_at]; done) | (rw [px_u_at]; decide) | (rw [px_u_at]; grind), Or.inr q2⟩
             · first
                 | exact absurd q1 (by grind)
                 | (rcases h1 with ⟨z1, -⟩ | ⟨z1, A, z2, z3⟩
                    · exact absurd z1 (by grind)
                    · exact Or.inr ⟨by first | (rw [px_u_at]; done) | (rw [px_u_at]; decide) | (rw [px_u_at]; grind), A, B, z2, q2, fun q hq9 => by rw [h59.2.2.1 144 (by decide), h144 q (by omega)]; exact z3 q (by omega), q3⟩))
      · refine px_rv rfl q_X12_runsBoth_65 rfl rfl rfl hg rfl ⟨trivial, (by first | decide | exact Or.inl rfl | exact Or.inr rfl | (refine ⟨?_, ?_⟩ <;> grind))⟩ ?_
        have k6 : k = 6 := by grind
        have k6n : k.toNatClampNeg = 6 := by rw [k6]; decide
        first
          | (refine hq _ _ (hX.u74 _) hL (Or.inl ⟨by first | (rw [px_u_at]; done) | (rw [px_u_at]; decide) | (rw [px_u_at]; grind), ?_⟩)
             exact Or.inl (h1.elim (fun z => z.2) (fun z => absurd z.1 (by grind))))
          | (have o9 := h59.2.2.2.V
             have eT : ∀ q, q < 5 → tR I q = tR I0 q := tR_same hX
             rw [fD_t eT] at o9
             refine hq _ _ ((hX.trans h59.2.1.X).u74 _) (hL.R h59.2.2.1) ?_
             rcases o9 with ⟨q1, q2⟩ | ⟨q1, B, q2, q3⟩
             · exact Or.inl ⟨by first | (rw [px_u_at]; done) | (rw [px_u_at]; decide) | (rw [px_u_at]; grind), Or.inr q2⟩
             · first
                 | exact absurd q1 (by grind)
                 | (rcases h1 with ⟨z1, -⟩ | ⟨z1, A, z2, z3⟩
                    · exact absurd z1 (by grind)
                    · exact Or.inr ⟨by first | (rw [px_u_at]; done) | (rw [px_u_at]; decide) | (rw [px_u_at]; grind), A, B, z2, q2, fun q hq9 => by rw [h59.2.2.1 144 (by decide), h144 q (by omega)]; exact z3 q (by omega), q3⟩))
  · refine px_b rfl q_X12_runsBoth_24 hg rfl ⟨⟨trivial, (by first | decide | exact Or.inl rfl | exact Or.inr rfl | (refine ⟨?_, ?_⟩ <;> grind))⟩, (by first | decide | exact Or.inl rfl | exact Or.inr rfl | (refine ⟨?_, ?_⟩ <;> grind))⟩ ?_
    exact px_go (ih (k + 1) (by grind) (by grind) (by grind) _ (hL.u _ _) (by rw [px_u_ne (by decide)]; exact e132) (fun q hq9 => by
      by_cases e : q = k.toNatClampNeg
      · rw [e, px_u_at, e132]
      · rw [px_u_at_ne e]; exact h144 q (by omega))) ⟨rfl, rfl, rfl, rfl, trivial⟩

set_option maxRecDepth 100000 in
theorem kx_runsBoth {n : Nat} {I : px_I} {L : px_L} {R : px_R} (hg : px_G n R) (a b : Int32) (h0a : 0 ≤ a) (h0b : 0 ≤ b) (ha : 0 ≤ a / 16 ∧ a / 16 ≤ 5) (hb : 0 ≤ b / 16 ∧ b / 16 ≤ 5) {za zb : zL} (ho : mOx I (a / 16) za) (ho2 : mOx I (b / 16) zb) : px_KV M_X12_runsBoth [.ref 103, .int a, .int b] n I L R (fun I2 L2 => mXI I I2 ∧ mXL L L2 ∧ bothR (tR I) za zb (a - a / 16 * 16) (b - b / 16 * 16) I2 L2) := by
  refine px_of (plainFor_of_name np_RX12) (fun _ _ _ => trivial) rfl ?_
  have ha15 : 0 ≤ a - a / 16 * 16 ∧ a - a / 16 * 16 ≤ 15 := px_rm16 h0a
  refine px_cVS (ci := 12) rfl q_X12_runsBoth_0 hg rfl ⟨⟨trivial, (by first | decide | exact h10.1)⟩, (by first | decide | exact h10.1)⟩ lk_12_413 nm_X12_runs (kx_runs hg _ _ ha ha15 ho) rfl rfl (px_lit hg rfl) rfl rfl rfl ⟨rfl, rfl⟩ ?_
  intro x10 I10 L10 h10
  refine px_b rfl q_X12_runsBoth_13 hg rfl ⟨trivial, (by first | decide | exact h10.1)⟩ ?_
  have ho3 : mOx (px_u I10 103 74 x10) (b / 16) zb := ho2.same (fun q _ _ => by rw [px_u_ne (by decide), px_u_ne (by decide), h10.2.1.at0, h10.2.1.at1]; exact ⟨rfl, rfl⟩)
  have st : ((px_u I10 103 74 x10) 103 74 = 0 ∧ fD (tR I) za (V0 (a - a / 16 * 16)) = none) ∨ ((px_u I10 103 74 x10) 103 74 = 1 ∧ ∃ A, fD (tR I) za (V0 (a - a / 16 * 16)) = some A ∧ ∀ q, q < 9 → L10 132 q = A q) := by
    rw [px_u_at]; exact h10.2.2.2.V
  exact px_go (lx_runsBoth hg a b h0b hb (h10.2.1.X.u74 _) ho3 L10 st (fun I2 L2 h1 h2 h3 => ⟨rfl, rfl, rfl, h1, h10.2.2.1.X.trans h2.X, h3⟩) 0 (by decide) (by decide) L10 (fun _ _ _ => rfl) rfl (fun q hq9 => absurd hq9 (by rw [xz0]; exact Nat.not_lt_zero _))) ⟨rfl, rfl, rfl, rfl, trivial⟩

set_option maxRecDepth 100000 in
theorem kx_meets {n : Nat} {I : px_I} {L : px_L} {R : px_R} (hg : px_G n R) (f t x h : Int32) (hx : 0 ≤ x ∧ x ≤ 2) (hf : 0 ≤ f ∧ f < 24) (ht : 0 ≤ t ∧ t < 24) (hS : mS I) : px_KT M_X12_meets [.ref 103, .int f, .int t, .int x, .int h] n I L R (fun r I2 L2 => mXI I I2 ∧ mDL L L2 ∧ I2 103 74 = I 103 74 ∧ r = mV I L (gR I x f t (I 103 0) h) x h) := by
  refine px_of (plainFor_of_name np_RX12) (fun _ _ _ => trivial) rfl ?_
  refine px_eq rfl q_X12_meets_0 hg rfl trivial (fun c4 => ?_) (fun c4 => ?_)
  · refine px_rlT rfl q_X12_meets_20 rfl rfl rfl hg rfl trivial ⟨⟨rfl, rfl⟩, ?_⟩
    first
      | exact ⟨mXI.rfl', fun _ _ => rfl, rfl, (if_pos (Or.inl (by assumption))).symm⟩
      | exact ⟨mXI.rfl'.u70 _, h14a, px_u_at_ne (by decide), (if_pos (Or.inr (gP_f (h14c.elim (fun q => absurd q.1 (by grind)) (fun q => q.2))))).symm⟩
      | (have G9 : mGd I x (I 103 0) (-1) := h14c.elim (fun q => q.2) (fun q => absurd q.1 (by assumption))
         have g9 : x29 = gR I x f t (I 103 0) h := by rw [h29]; exact (mGp_eq hf ht h14b).trans (gP_t G9).symm
         refine ⟨mXI.rfl'.u70 _, h14a, px_u_at_ne (by decide), ?_⟩
         rw [← g9]
         unfold mV
         rw [l132, l144] at *
         first
           | rw [if_pos (Or.inr (by assumption))]
           | (rw [if_neg (fun z => z.elim (by assumption) (by assumption))]; first | rw [if_pos (by assumption)] | rw [if_neg (by assumption)]))
  · refine px_cVS (ci := 12) rfl q_X12_meets_7 hg rfl trivial lk_12_214 nm_X12_isClosed (ks_isClosed hg _ _ _ hS) rfl rfl (px_lit hg rfl) rfl rfl rfl ⟨rfl, rfl⟩ ?_
    intro x14 I14 L14 h14
    obtain ⟨rfl, h14a, h14b, h14c⟩ := h14
    have l132 : L14 132 = L 132 := h14a 132 (by decide)
    have l144 : L14 144 = L 144 := h14a 144 (by decide)
    refine px_ne rfl q_X12_meets_17 hg rfl trivial (fun c17 => ?_) (fun c17 => ?_)
    · refine px_cVP (ci := 12) rfl q_X12_meets_24 hg rfl trivial lk_12_219 nm_X12_gapOf (k_gapOf hg _ _ _ hf ht) rfl rfl (px_lit hg rfl) rfl rfl rfl ⟨rfl, rfl⟩ ?_
      intro x29 h29
      refine px_ine rfl q_X12_meets_32 hg rfl ⟨⟨trivial, (by refine ⟨?_, ?_⟩ <;> grind)⟩, (by refine ⟨?_, ?_⟩ <;> grind)⟩ (fun c57 => ?_) (fun c57 => ?_)
      · refine px_eq rfl q_X12_meets_66 hg rfl ⟨⟨trivial, (by refine ⟨?_, ?_⟩ <;> grind)⟩, (by refine ⟨?_, ?_⟩ <;> grind)⟩ (fun c85 => ?_) (fun c85 => ?_)
        · refine px_rlT rfl q_X12_meets_93 rfl rfl rfl hg rfl trivial ⟨⟨rfl, rfl⟩, ?_⟩
          first
            | exact ⟨mXI.rfl', fun _ _ => rfl, rfl, (if_pos (Or.inl (by assumption))).symm⟩
            | exact ⟨mXI.rfl'.u70 _, h14a, px_u_at_ne (by decide), (if_pos (Or.inr (gP_f (h14c.elim (fun q => absurd q.1 (by grind)) (fun q => q.2))))).symm⟩
            | (have G9 : mGd I x (I 103 0) (-1) := h14c.elim (fun q => q.2) (fun q => absurd q.1 (by assumption))
               have g9 : x29 = gR I x f t (I 103 0) h := by rw [h29]; exact (mGp_eq hf ht h14b).trans (gP_t G9).symm
               refine ⟨mXI.rfl'.u70 _, h14a, px_u_at_ne (by decide), ?_⟩
               rw [← g9]
               unfold mV
               rw [l132, l144] at *
               first
                 | rw [if_pos (Or.inr (by assumption))]
                 | (rw [if_neg (fun z => z.elim (by assumption) (by assumption))]; first | rw [if_pos (by assumption)] | rw [if_neg (by assumption)]))
        · refine px_rlT rfl q_X12_meets_88 rfl rfl rfl hg rfl trivial ⟨⟨rfl, rfl⟩, ?_⟩
          first
            | exact ⟨mXI.rfl', fun _ _ => rfl, rfl, (if_pos (Or.inl (by assumption))).symm⟩
            | exact ⟨mXI.rfl'.u70 _, h14a, px_u_at_ne (by decide), (if_pos (Or.inr (gP_f (h14c.elim (fun q => absurd q.1 (by grind)) (fun q => q.2))))).symm⟩
            | (have G9 : mGd I x (I 103 0) (-1) := h14c.elim (fun q => q.2) (fun q => absurd q.1 (by assumption))
               have g9 : x29 = gR I x f t (I 103 0) h := by rw [h29]; exact (mGp_eq hf ht h14b).trans (gP_t G9).symm
               refine ⟨mXI.rfl'.u70 _, h14a, px_u_at_ne (by decide), ?_⟩
               rw [← g9]
               unfold mV
               rw [l132, l144] at *
               first
                 | rw [if_pos (Or.inr (by assumption))]
                 | (rw [if_neg (fun z => z.elim (by assumption) (by assumption))]; first | rw [if_pos (by assumption)] | rw [if_neg (by assumption)]))
      · refine px_rlT rfl q_X12_meets_60 rfl rfl rfl hg rfl trivial ⟨⟨rfl, rfl⟩, ?_⟩
        first
          | exact ⟨mXI.rfl', fun _ _ => rfl, rfl, (if_pos (Or.inl (by assumption))).symm⟩
          | exact ⟨mXI.rfl'.u70 _, h14a, px_u_at_ne (by decide), (if_pos (Or.inr (gP_f (h14c.elim (fun q => absurd q.1 (by grind)) (fun q => q.2))))).symm⟩
          | (have G9 : mGd I x (I 103 0) (-1) := h14c.elim (fun q => q.2) (fun q => absurd q.1 (by assumption))
             have g9 : x29 = gR I x f t (I 103 0) h := by rw [h29]; exact (mGp_eq hf ht h14b).trans (gP_t G9).symm
             refine ⟨mXI.rfl'.u70 _, h14a, px_u_at_ne (by decide), ?_⟩
             rw [← g9]
             unfold mV
             rw [l132, l144] at *
             first
               | rw [if_pos (Or.inr (by assumption))]
               | (rw [if_neg (fun z => z.elim (by assumption) (by assumption))]; first | rw [if_pos (by assumption)] | rw [if_neg (by assumption)]))
    · refine px_rlT rfl q_X12_meets_20 rfl rfl rfl hg rfl trivial ⟨⟨rfl, rfl⟩, ?_⟩
      first
        | exact ⟨mXI.rfl', fun _ _ => rfl, rfl, (if_pos (Or.inl (by assumption))).symm⟩
        | exact ⟨mXI.rfl'.u70 _, h14a, px_u_at_ne (by decide), (if_pos (Or.inr (gP_f (h14c.elim (fun q => absurd q.1 (by grind)) (fun q => q.2))))).symm⟩
        | (have G9 : mGd I x (I 103 0) (-1) := h14c.elim (fun q => q.2) (fun q => absurd q.1 (by assumption))
           have g9 : x29 = gR I x f t (I 103 0) h := by rw [h29]; exact (mGp_eq hf ht h14b).trans (gP_t G9).symm
           refine ⟨mXI.rfl'.u70 _, h14a, px_u_at_ne (by decide), ?_⟩
           rw [← g9]
           unfold mV
           rw [l132, l144] at *
           first
             | rw [if_pos (Or.inr (by assumption))]
             | (rw [if_neg (fun z => z.elim (by assumption) (by assumption))]; first | rw [if_pos (by assumption)] | rw [if_neg (by assumption)]))
