theorem gp_hi {F D : Nat → Int64} {f t h : Int32} (hf : 0 ≤ f ∧ f < 24) (ht : 0 ≤ t ∧ t < 24) (hh : ¬ h = 0) (hr : F t.toNatClampNeg = D (24 * f.toNatClampNeg + t.toNatClampNeg)) (hl : D (24 * f.toNatClampNeg + t.toNatClampNeg) ≤ 1000000000000) : (F t.toNatClampNeg ≠ 1000000000000 → (F t.toNatClampNeg).toInt32 = mGp D f t h) ∧ (F t.toNatClampNeg = 1000000000000 → -2000000000 = mGp D f t h) := by
  unfold mGp
  rw [if_pos hh, (px_24 hf ht).1, ← hr]
  rw [← hr] at hl
  refine ⟨fun e => ?_, fun e => ?_⟩
  · rw [if_neg (fun q => e (Int64.le_antisymm hl q))]
  · rw [if_pos (by rw [e]; exact Int64.le_refl _)]
theorem gp_lo {F D : Nat → Int64} {f t h : Int32} (hf : 0 ≤ f ∧ f < 24) (ht : 0 ≤ t ∧ t < 24) (hh : h = 0) (hr : F f.toNatClampNeg = D (24 * t.toNatClampNeg + f.toNatClampNeg)) (hl : D (24 * t.toNatClampNeg + f.toNatClampNeg) ≤ 1000000000000) : (F f.toNatClampNeg ≠ 1000000000000 → (-F f.toNatClampNeg).toInt32 = mGp D f t h) ∧ (F f.toNatClampNeg = 1000000000000 → -2000000000 = mGp D f t h) := by
  unfold mGp
  rw [if_neg (fun q => q hh), (px_24 ht hf).1, ← hr]
  rw [← hr] at hl
  refine ⟨fun e => ?_, fun e => ?_⟩
  · rw [if_neg (fun q => e (Int64.le_antisymm hl q))]
  · rw [if_pos (by rw [e]; exact Int64.le_refl _)]
theorem cSt.in {I : px_I} (hS : cSt I) {x : Int32} (h : 0 ≤ x ∧ x < I 33 7) : (0 ≤ x ∧ x < 24) ∧ x.toNatClampNeg < (I 33 7).toNatClampNeg := by
  unfold cSt at hS
  have a1 := px_nat h.1
  have a2 := px_nat (x := I 33 7) (by grind)
  have a3 := Int32.lt_iff_toInt_lt.mp h.2
  exact ⟨⟨h.1, by grind⟩, by omega⟩

set_option maxRecDepth 100000 in
theorem cs_bound {n : Nat} {I : px_I} {L : px_L} {R : px_R} (hg : px_G n R) (a f t k h : Int32) (hS : cSt I) (hO : cSo I) (hf : 0 ≤ f ∧ f < I 33 7) (ht : 0 ≤ t ∧ t < I 33 7) : px_KS M_X7_bound [.ref 33, .int a, .int f, .int t, .int k, .int h] n I L R (fun r I2 L2 => I2 = I ∧ cDL L L2 ∧ ((cGd I a k (-1) ∧ r = mGp (cD I a k (-1)) f t h) ∨ (¬ cGd I a k (-1) ∧ r = -2000000000))) := by
  refine px_of (plainFor_of_name np_RX7) (fun _ _ _ => trivial) rfl ?_
  obtain ⟨f24, fn⟩ := hS.in hf
  obtain ⟨t24, tn⟩ := hS.in ht
  refine px_cVS (ci := 7) rfl q_X7_bound_0 hg rfl trivial lk_7_41 nm_X7_settle (cs_settle hg _ _ _ _ hS hO) rfl rfl (px_lit hg rfl) rfl rfl rfl ⟨rfl, rfl⟩ ?_
  intro x6 I6 L6 h6
  obtain ⟨e6, h6, h6z, h6s⟩ := h6
  replace e6 := e6.symm
  subst e6
  refine px_ne rfl q_X7_bound_9 hg rfl trivial (fun c9 => ?_) (fun c9 => ?_)
  · refine px_eq rfl q_X7_bound_15 hg rfl trivial (fun c17 => ?_) (fun c17 => ?_)
    · refine px_eq rfl q_X7_bound_24 hg rfl trivial (fun c29 => ?_) (fun c29 => ?_)
      · refine px_cVS (ci := 7) rfl q_X7_bound_36 hg rfl trivial lk_7_41 nm_X7_settle (cs_settle hg _ _ _ _ hS hO) rfl rfl (px_lit hg rfl) rfl rfl rfl ⟨rfl, rfl⟩ ?_
        intro x46 I46 L46 h46
        obtain ⟨e46, h46, h46z, h46s⟩ := h46
        replace e46 := e46.symm
        subst e46
        refine px_cVP (ci := 7) rfl q_X7_bound_49 hg rfl trivial lk_7_46 nm_X7_has (c_has hg _) rfl rfl (px_lit hg rfl) rfl rfl rfl ⟨rfl, rfl⟩ ?_
        intro x53 h53
        refine px_eq rfl q_X7_bound_56 hg rfl trivial (fun c56 => ?_) (fun c56 => ?_)
        · replace h53 := px_bf h53 c56
          refine px_riS rfl q_X7_bound_73 rfl rfl rfl hg rfl trivial ⟨⟨rfl, rfl⟩, ?_⟩
          have G : cGd I a k (-1) := (h6z rfl).elim (fun q => q.2) (fun q => absurd q.1 c9)
          first
            | exact absurd c29 c17
            | exact absurd c17 c29
            | exact absurd c78 c17
            | exact absurd c17 c78
            | exact absurd ht h53
            | exact absurd hf h53
            | exact ⟨rfl, h6.trans h46, Or.inl ⟨G, (gp_hi f24 t24 c17 (h46s hf G _ tn) (cD_le hS hO G fn tn)).1 c70⟩⟩
            | exact ⟨rfl, h6.trans h46, Or.inl ⟨G, (gp_hi f24 t24 c17 (h46s hf G _ tn) (cD_le hS hO G fn tn)).2 (by first | exact c70 | exact Classical.not_not.mp c70)⟩⟩
            | exact ⟨rfl, h6.trans h46, Or.inl ⟨G, (gp_lo f24 t24 c17 (h46s ht G _ fn) (cD_le hS hO G tn fn)).1 c70⟩⟩
            | exact ⟨rfl, h6.trans h46, Or.inl ⟨G, (gp_lo f24 t24 c17 (h46s ht G _ fn) (cD_le hS hO G tn fn)).2 (by first | exact c70 | exact Classical.not_not.mp c70)⟩⟩
        · replace h53 := px_bt h53 c56
          refine px_lne rfl q_X7_bound_59 hg rfl ⟨trivial, (by first | decide | (refine ⟨?_, ?_⟩ <;> grind) | grind)⟩ (fun c70 => ?_) (fun c70 => ?_)
          · refine px_eq rfl q_X7_bound_76 hg rfl trivial (fun c78 => ?_) (fun c78 => ?_)
            · refine px_riS rfl q_X7_bound_91 rfl rfl rfl hg rfl ⟨trivial, (by first | decide | (refine ⟨?_, ?_⟩ <;> grind) | grind)⟩ ⟨⟨rfl, rfl⟩, ?_⟩
              have G : cGd I a k (-1) := (h6z rfl).elim (fun q => q.2) (fun q => absurd q.1 c9)
              first
                | exact absurd c29 c17
                | exact absurd c17 c29
                | exact absurd c78 c17
                | exact absurd c17 c78
                | exact absurd ht h53
                | exact absurd hf h53
                | exact ⟨rfl, h6.trans h46, Or.inl ⟨G, (gp_hi f24 t24 c17 (h46s hf G _ tn) (cD_le hS hO G fn tn)).1 c70⟩⟩
                | exact ⟨rfl, h6.trans h46, Or.inl ⟨G, (gp_hi f24 t24 c17 (h46s hf G _ tn) (cD_le hS hO G fn tn)).2 (by first | exact c70 | exact Classical.not_not.mp c70)⟩⟩
                | exact ⟨rfl, h6.trans h46, Or.inl ⟨G, (gp_lo f24 t24 c17 (h46s ht G _ fn) (cD_le hS hO G tn fn)).1 c70⟩⟩
                | exact ⟨rfl, h6.trans h46, Or.inl ⟨G, (gp_lo f24 t24 c17 (h46s ht G _ fn) (cD_le hS hO G tn fn)).2 (by first | exact c70 | exact Classical.not_not.mp c70)⟩⟩
            · refine px_riS rfl q_X7_bound_81 rfl rfl rfl hg rfl ⟨trivial, (by first | decide | (refine ⟨?_, ?_⟩ <;> grind) | grind)⟩ ⟨⟨rfl, rfl⟩, ?_⟩
              have G : cGd I a k (-1) := (h6z rfl).elim (fun q => q.2) (fun q => absurd q.1 c9)
              first
                | exact absurd c29 c17
                | exact absurd c17 c29
                | exact absurd c78 c17
                | exact absurd c17 c78
                | exact absurd ht h53
                | exact absurd hf h53
                | exact ⟨rfl, h6.trans h46, Or.inl ⟨G, (gp_hi f24 t24 c17 (h46s hf G _ tn) (cD_le hS hO G fn tn)).1 c70⟩⟩
                | exact ⟨rfl, h6.trans h46, Or.inl ⟨G, (gp_hi f24 t24 c17 (h46s hf G _ tn) (cD_le hS hO G fn tn)).2 (by first | exact c70 | exact Classical.not_not.mp c70)⟩⟩
                | exact ⟨rfl, h6.trans h46, Or.inl ⟨G, (gp_lo f24 t24 c17 (h46s ht G _ fn) (cD_le hS hO G tn fn)).1 c70⟩⟩
                | exact ⟨rfl, h6.trans h46, Or.inl ⟨G, (gp_lo f24 t24 c17 (h46s ht G _ fn) (cD_le hS hO G tn fn)).2 (by first | exact c70 | exact Classical.not_not.mp c70)⟩⟩
          · refine px_riS rfl q_X7_bound_73 rfl rfl rfl hg rfl trivial ⟨⟨rfl, rfl⟩, ?_⟩
            have G : cGd I a k (-1) := (h6z rfl).elim (fun q => q.2) (fun q => absurd q.1 c9)
            first
              | exact absurd c29 c17
              | exact absurd c17 c29
              | exact absurd c78 c17
              | exact absurd c17 c78
              | exact absurd ht h53
              | exact absurd hf h53
              | exact ⟨rfl, h6.trans h46, Or.inl ⟨G, (gp_hi f24 t24 c17 (h46s hf G _ tn) (cD_le hS hO G fn tn)).1 c70⟩⟩
              | exact ⟨rfl, h6.trans h46, Or.inl ⟨G, (gp_hi f24 t24 c17 (h46s hf G _ tn) (cD_le hS hO G fn tn)).2 (by first | exact c70 | exact Classical.not_not.mp c70)⟩⟩
              | exact ⟨rfl, h6.trans h46, Or.inl ⟨G, (gp_lo f24 t24 c17 (h46s ht G _ fn) (cD_le hS hO G tn fn)).1 c70⟩⟩
              | exact ⟨rfl, h6.trans h46, Or.inl ⟨G, (gp_lo f24 t24 c17 (h46s ht G _ fn) (cD_le hS hO G tn fn)).2 (by first | exact c70 | exact Classical.not_not.mp c70)⟩⟩
      · refine px_cVS (ci := 7) rfl q_X7_bound_32 hg rfl trivial lk_7_41 nm_X7_settle (cs_settle hg _ _ _ _ hS hO) rfl rfl (px_lit hg rfl) rfl rfl rfl ⟨rfl, rfl⟩ ?_
        intro x46 I46 L46 h46
        obtain ⟨e46, h46, h46z, h46s⟩ := h46
        replace e46 := e46.symm
        subst e46
        refine px_cVP (ci := 7) rfl q_X7_bound_49 hg rfl trivial lk_7_46 nm_X7_has (c_has hg _) rfl rfl (px_lit hg rfl) rfl rfl rfl ⟨rfl, rfl⟩ ?_
        intro x53 h53
        refine px_eq rfl q_X7_bound_56 hg rfl trivial (fun c56 => ?_) (fun c56 => ?_)
        · replace h53 := px_bf h53 c56
          refine px_riS rfl q_X7_bound_73 rfl rfl rfl hg rfl trivial ⟨⟨rfl, rfl⟩, ?_⟩
          have G : cGd I a k (-1) := (h6z rfl).elim (fun q => q.2) (fun q => absurd q.1 c9)
          first
            | exact absurd c29 c17
            | exact absurd c17 c29
            | exact absurd c78 c17
            | exact absurd c17 c78
            | exact absurd ht h53
            | exact absurd hf h53
            | exact ⟨rfl, h6.trans h46, Or.inl ⟨G, (gp_hi f24 t24 c17 (h46s hf G _ tn) (cD_le hS hO G fn tn)).1 c70⟩⟩
            | exact ⟨rfl, h6.trans h46, Or.inl ⟨G, (gp_hi f24 t24 c17 (h46s hf G _ tn) (cD_le hS hO G fn tn)).2 (by first | exact c70 | exact Classical.not_not.mp c70)⟩⟩
            | exact ⟨rfl, h6.trans h46, Or.inl ⟨G, (gp_lo f24 t24 c17 (h46s ht G _ fn) (cD_le hS hO G tn fn)).1 c70⟩⟩
            | exact ⟨rfl, h6.trans h46, Or.inl ⟨G, (gp_lo f24 t24 c17 (h46s ht G _ fn) (cD_le hS hO G tn fn)).2 (by first | exact c70 | exact Classical.not_not.mp c70)⟩⟩
        · replace h53 := px_bt h53 c56
          refine px_lne rfl q_X7_bound_59 hg rfl ⟨trivial, (by first | decide | (refine ⟨?_, ?_⟩ <;> grind) | grind)⟩ (fun c70 => ?_) (fun c70 => ?_)
          · refine px_eq rfl q_X7_bound_76 hg rfl trivial (fun c78 => ?_) (fun c78 => ?_)
            · refine px_riS rfl q_X7_bound_91 rfl rfl rfl hg rfl ⟨trivial, (by first | decide | (refine ⟨?_, ?_⟩ <;> grind) | grind)⟩ ⟨⟨rfl, rfl⟩, ?_⟩
              have G : cGd I a k (-1) := (h6z rfl).elim (fun q => q.2) (fun q => absurd q.1 c9)
              first
                | exact absurd c29 c17
                | exact absurd c17 c29
                | exact absurd c78 c17
                | exact absurd c17 c78
                | exact absurd ht h53
                | exact absurd hf h53
                | exact ⟨rfl, h6.trans h46, Or.inl ⟨G, (gp_hi f24 t24 c17 (h46s hf G _ tn) (cD_le hS hO G fn tn)).1 c70⟩⟩
                | exact ⟨rfl, h6.trans h46, Or.inl ⟨G, (gp_hi f24 t24 c17 (h46s hf G _ tn) (cD_le hS hO G fn tn)).2 (by first | exact c70 | exact Classical.not_not.mp c70)⟩⟩
                | exact ⟨rfl, h6.trans h46, Or.inl ⟨G, (gp_lo f24 t24 c17 (h46s ht G _ fn) (cD_le hS hO G tn fn)).1 c70⟩⟩
                | exact ⟨rfl, h6.trans h46, Or.inl ⟨G, (gp_lo f24 t24 c17 (h46s ht G _ fn) (cD_le hS hO G tn fn)).2 (by first | exact c70 | exact Classical.not_not.mp c70)⟩⟩
            · refine px_riS rfl q_X7_bound_81 rfl rfl rfl hg rfl ⟨trivial, (by first | decide | (refine ⟨?_, ?_⟩ <;> grind) | grind)⟩ ⟨⟨rfl, rfl⟩, ?_⟩
              have G : cGd I a k (-1) := (h6z rfl).elim (fun q => q.2) (fun q => absurd q.1 c9)
              first
                | exact absurd c29 c17
                | exact absurd c17 c29
                | exact absurd c78 c17
                | exact absurd c17 c78
                | exact absurd ht h53
                | exact absurd hf h53
                | exact ⟨rfl, h6.trans h46, Or.inl ⟨G, (gp_hi f24 t24 c17 (h46s hf G _ tn) (cD_le hS hO G fn tn)).1 c70⟩⟩
                | exact ⟨rfl, h6.trans h46, Or.inl ⟨G, (gp_hi f24 t24 c17 (h46s hf G _ tn) (cD_le hS hO G fn tn)).2 (by first | exact c70 | exact Classical.not_not.mp c70)⟩⟩
                | exact ⟨rfl, h6.trans h46, Or.inl ⟨G, (gp_lo f24 t24 c17 (h46s ht G _ fn) (cD_le hS hO G tn fn)).1 c70⟩⟩
                | exact ⟨rfl, h6.trans h46, Or.inl ⟨G, (gp_lo f24 t24 c17 (h46s ht G _ fn) (cD_le hS hO G tn fn)).2 (by first | exact c70 | exact Classical.not_not.mp c70)⟩⟩
          · refine px_riS rfl q_X7_bound_73 rfl rfl rfl hg rfl trivial ⟨⟨rfl, rfl⟩, ?_⟩
            have G : cGd I a k (-1) := (h6z rfl).elim (fun q => q.2) (fun q => absurd q.1 c9)
            first
              | exact absurd c29 c17
              | exact absurd c17 c29
              | exact absurd c78 c17
              | exact absurd c17 c78
              | exact absurd ht h53
              | exact absurd hf h53
              | exact ⟨rfl, h6.trans h46, Or.inl ⟨G, (gp_hi f24 t24 c17 (h46s hf G _ tn) (cD_le hS hO G fn tn)).1 c70⟩⟩
              | exact ⟨rfl, h6.trans h46, Or.inl ⟨G, (gp_hi f24 t24 c17 (h46s hf G _ tn) (cD_le hS hO G fn tn)).2 (by first | exact c70 | exact Classical.not_not.mp c70)⟩⟩
              | exact ⟨rfl, h6.trans h46, Or.inl ⟨G, (gp_lo f24 t24 c17 (h46s ht G _ fn) (cD_le hS hO G tn fn)).1 c70⟩⟩
              | exact ⟨rfl, h6.trans h46, Or.inl ⟨G, (gp_lo f24 t24 c17 (h46s ht G _ fn) (cD_le hS hO G tn fn)).2 (by first | exact c70 | exact Classical.not_not.mp c70)⟩⟩
    · refine px_eq rfl q_X7_bound_20 hg rfl trivial (fun c29 => ?_) (fun c29 => ?_)
      · refine px_cVS (ci := 7) rfl q_X7_bound_36 hg rfl trivial lk_7_41 nm_X7_settle (cs_settle hg _ _ _ _ hS hO) rfl rfl (px_lit hg rfl) rfl rfl rfl ⟨rfl, rfl⟩ ?_
        intro x46 I46 L46 h46
        obtain ⟨e46, h46, h46z, h46s⟩ := h46
        replace e46 := e46.symm
        subst e46
        refine px_cVP (ci := 7) rfl q_X7_bound_49 hg rfl trivial lk_7_46 nm_X7_has (c_has hg _) rfl rfl (px_lit hg rfl) rfl rfl rfl ⟨rfl, rfl⟩ ?_
        intro x53 h53
        refine px_eq rfl q_X7_bound_56 hg rfl trivial (fun c56 => ?_) (fun c56 => ?_)
        · replace h53 := px_bf h53 c56
          refine px_riS rfl q_X7_bound_73 rfl rfl rfl hg rfl trivial ⟨⟨rfl, rfl⟩, ?_⟩
          have G : cGd I a k (-1) := (h6z rfl).elim (fun q => q.2) (fun q => absurd q.1 c9)
          first
            | exact absurd c29 c17
            | exact absurd c17 c29
            | exact absurd c78 c17
            | exact absurd c17 c78
            | exact absurd ht h53
            | exact absurd hf h53
            | exact ⟨rfl, h6.trans h46, Or.inl ⟨G, (gp_hi f24 t24 c17 (h46s hf G _ tn) (cD_le hS hO G fn tn)).1 c70⟩⟩
            | exact ⟨rfl, h6.trans h46, Or.inl ⟨G, (gp_hi f24 t24 c17 (h46s hf G _ tn) (cD_le hS hO G fn tn)).2 (by first | exact c70 | exact Classical.not_not.mp c70)⟩⟩
            | exact ⟨rfl, h6.trans h46, Or.inl ⟨G, (gp_lo f24 t24 c17 (h46s ht G _ fn) (cD_le hS hO G tn fn)).1 c70⟩⟩
            | exact ⟨rfl, h6.trans h46, Or.inl ⟨G, (gp_lo f24 t24 c17 (h46s ht G _ fn) (cD_le hS hO G tn fn)).2 (by first | exact c70 | exact Classical.not_not.mp c70)⟩⟩
        · replace h53 := px_bt h53 c56
          refine px_lne rfl q_X7_bound_59 hg rfl ⟨trivial, (by first | decide | (refine ⟨?_, ?_⟩ <;> grind) | grind)⟩ (fun c70 => ?_) (fun c70 => ?_)
          · refine px_eq rfl q_X7_bound_76 hg rfl trivial (fun c78 => ?_) (fun c78 => ?_)
            · refine px_riS rfl q_X7_bound_91 rfl rfl rfl hg rfl ⟨trivial, (by first | decide | (refine ⟨?_, ?_⟩ <;> grind) | grind)⟩ ⟨⟨rfl, rfl⟩, ?_⟩
              have G : cGd I a k (-1) := (h6z rfl).elim (fun q => q.2) (fun q => absurd q.1 c9)
              first
                | exact absurd c29 c17
                | exact absurd c17 c29
                | exact absurd c78 c17
                | exact absurd c17 c78
                | exact absurd ht h53
                | exact absurd hf h53
                | exact ⟨rfl, h6.trans h46, Or.inl ⟨G, (gp_hi f24 t24 c17 (h46s hf G _ tn) (cD_le hS hO G fn tn)).1 c70⟩⟩
                | exact ⟨rfl, h6.trans h46, Or.inl ⟨G, (gp_hi f24 t24 c17 (h46s hf G _ tn) (cD_le hS hO G fn tn)).2 (by first | exact c70 | exact Classical.not_not.mp c70)⟩⟩
                | exact ⟨rfl, h6.trans h46, Or.inl ⟨G, (gp_lo f24 t24 c17 (h46s ht G _ fn) (cD_le hS hO G tn fn)).1 c70⟩⟩
                | exact ⟨rfl, h6.trans h46, Or.inl ⟨G, (gp_lo f24 t24 c17 (h46s ht G _ fn) (cD_le hS hO G tn fn)).2 (by first | exact c70 | exact Classical.not_not.mp c70)⟩⟩
            · refine px_riS rfl q_X7_bound_81 rfl rfl rfl hg rfl ⟨trivial, (by first | decide | (refine ⟨?_, ?_⟩ <;> grind) | grind)⟩ ⟨⟨rfl, rfl⟩, ?_⟩
              have G : cGd I a k (-1) := (h6z rfl).elim (fun q => q.2) (fun q => absurd q.1 c9)
              first
                | exact absurd c29 c17
                | exact absurd c17 c29
                | exact absurd c78 c17
                | exact absurd c17 c78
                | exact absurd ht h53
                | exact absurd hf h53
                | exact ⟨rfl, h6.trans h46, Or.inl ⟨G, (gp_hi f24 t24 c17 (h46s hf G _ tn) (cD_le hS hO G fn tn)).1 c70⟩⟩
                | exact ⟨rfl, h6.trans h46, Or.inl ⟨G, (gp_hi f24 t24 c17 (h46s hf G _ tn) (cD_le hS hO G fn tn)).2 (by first | exact c70 | exact Classical.not_not.mp c70)⟩⟩
                | exact ⟨rfl, h6.trans h46, Or.inl ⟨G, (gp_lo f24 t24 c17 (h46s ht G _ fn) (cD_le hS hO G tn fn)).1 c70⟩⟩
                | exact ⟨rfl, h6.trans h46, Or.inl ⟨G, (gp_lo f24 t24 c17 (h46s ht G _ fn) (cD_le hS hO G tn fn)).2 (by first | exact c70 | exact Classical.not_not.mp c70)⟩⟩
          · refine px_riS rfl q_X7_bound_73 rfl rfl rfl hg rfl trivial ⟨⟨rfl, rfl⟩, ?_⟩
            have G : cGd I a k (-1) := (h6z rfl).elim (fun q => q.2) (fun q => absurd q.1 c9)
            first
              | exact absurd c29 c17
              | exact absurd c17 c29
              | exact absurd c78 c17
              | exact absurd c17 c78
              | exact absurd ht h53
              | exact absurd hf h53
              | exact ⟨rfl, h6.trans h46, Or.inl ⟨G, (gp_hi f24 t24 c17 (h46s hf G _ tn) (cD_le hS hO G fn tn)).1 c70⟩⟩
              | exact ⟨rfl, h6.trans h46, Or.inl ⟨G, (gp_hi f24 t24 c17 (h46s hf G _ tn) (cD_le hS hO G fn tn)).2 (by first | exact c70 | exact Classical.not_not.mp c70)⟩⟩
              | exact ⟨rfl, h6.trans h46, Or.inl ⟨G, (gp_lo f24 t24 c17 (h46s ht G _ fn) (cD_le hS hO G tn fn)).1 c70⟩⟩
              | exact ⟨rfl, h6.trans h46, Or.inl ⟨G, (gp_lo f24 t24 c17 (h46s ht G _ fn) (cD_le hS hO G tn fn)).2 (by first | exact c70 | exact Classical.not_not.mp c70)⟩⟩
      · refine px_cVS (ci := 7) rfl q_X7_bound_32 hg rfl trivial lk_7_41 nm_X7_settle (cs_settle hg _ _ _ _ hS hO) rfl rfl (px_lit hg rfl) rfl rfl rfl ⟨rfl, rfl⟩ ?_
        intro x46 I46 L46 h46
        obtain ⟨e46, h46, h46z, h46s⟩ := h46
        replace e46 := e46.symm
        subst e46
        refine px_cVP (ci := 7) rfl q_X7_bound_49 hg rfl trivial lk_7_46 nm_X7_has (c_has hg _) rfl rfl (px_lit hg rfl) rfl rfl rfl ⟨rfl, rfl⟩ ?_
        intro x53 h53
        refine px_eq rfl q_X7_bound_56 hg rfl trivial (fun c56 => ?_) (fun c56 => ?_)
        · replace h53 := px_bf h53 c56
          refine px_riS rfl q_X7_bound_73 rfl rfl rfl hg rfl trivial ⟨⟨rfl, rfl⟩, ?_⟩
          have G : cGd I a k (-1) := (h6z rfl).elim (fun q => q.2) (fun q => absurd q.1 c9)
          first
            | exact absurd c29 c17
            | exact absurd c17 c29
            | exact absurd c78 c17
            | exact absurd c17 c78
            | exact absurd ht h53
            | exact absurd hf h53
            | exact ⟨rfl, h6.trans h46, Or.inl ⟨G, (gp_hi f24 t24 c17 (h46s hf G _ tn) (cD_le hS hO G fn tn)).1 c70⟩⟩
            | exact ⟨rfl, h6.trans h46, Or.inl ⟨G, (gp_hi f24 t24 c17 (h46s hf G _ tn) (cD_le hS hO G fn tn)).2 (by first | exact c70 | exact Classical.not_not.mp c70)⟩⟩
            | exact ⟨rfl, h6.trans h46, Or.inl ⟨G, (gp_lo f24 t24 c17 (h46s ht G _ fn) (cD_le hS hO G tn fn)).1 c70⟩⟩
            | exact ⟨rfl, h6.trans h46, Or.inl ⟨G, (gp_lo f24 t24 c17 (h46s ht G _ fn) (cD_le hS hO G tn fn)).2 (by first | exact c70 | exact Classical.not_not.mp c70)⟩⟩
        · replace h53 := px_bt h53 c56
          refine px_lne rfl q_X7_bound_59 hg rfl ⟨trivial, (by first | decide | (refine ⟨?_, ?_⟩ <;> grind) | grind)⟩ (fun c70 => ?_) (fun c70 => ?_)
          · refine px_eq rfl q_X7_bound_76 hg rfl trivial (fun c78 => ?_) (fun c78 => ?_)
            · refine px_riS rfl q_X7_bound_91 rfl rfl rfl hg rfl ⟨trivial, (by first | decide | (refine ⟨?_, ?_⟩ <;> grind) | grind)⟩ ⟨⟨rfl, rfl⟩, ?_⟩
              have G : cGd I a k (-1) := (h6z rfl).elim (fun q => q.2) (fun q => absurd q.1 c9)
              first
                | exact absurd c29 c17
                | exact absurd c17 c29
                | exact absurd c78 c17
                | exact absurd c17 c78
                | exact absurd ht h53
                | exact absurd hf h53
                | exact ⟨rfl, h6.trans h46, Or.inl ⟨G, (gp_hi f24 t24 c17 (h46s hf G _ tn) (cD_le hS hO G fn tn)).1 c70⟩⟩
                | exact ⟨rfl, h6.trans h46, Or.inl ⟨G, (gp_hi f24 t24 c17 (h46s hf G _ tn) (cD_le hS hO G fn tn)).2 (by first | exact c70 | exact Classical.not_not.mp c70)⟩⟩
                | exact ⟨rfl, h6.trans h46, Or.inl ⟨G, (gp_lo f24 t24 c17 (h46s ht G _ fn) (cD_le hS hO G tn fn)).1 c70⟩⟩
                | exact ⟨rfl, h6.trans h46, Or.inl ⟨G, (gp_lo f24 t24 c17 (h46s ht G _ fn) (cD_le hS hO G tn fn)).2 (by first | exact c70 | exact Classical.not_not.mp c70)⟩⟩
            · refine px_riS rfl q_X7_bound_81 rfl rfl rfl hg rfl ⟨trivial, (by first | decide | (refine ⟨?_, ?_⟩ <;> grind) | grind)⟩ ⟨⟨rfl, rfl⟩, ?_⟩
              have G : cGd I a k (-1) := (h6z rfl).elim (fun q => q.2) (fun q => absurd q.1 c9)
              first
                | exact absurd c29 c17
                | exact absurd c17 c29
                | exact absurd c78 c17
                | exact absurd c17 c78
                | exact absurd ht h53
                | exact absurd hf h53
                | exact ⟨rfl, h6.trans h46, Or.inl ⟨G, (gp_hi f24 t24 c17 (h46s hf G _ tn) (cD_le hS hO G fn tn)).1 c70⟩⟩
                | exact ⟨rfl, h6.trans h46, Or.inl ⟨G, (gp_hi f24 t24 c17 (h46s hf G _ tn) (cD_le hS hO G fn tn)).2 (by first | exact c70 | exact Classical.not_not.mp c70)⟩⟩
                | exact ⟨rfl, h6.trans h46, Or.inl ⟨G, (gp_lo f24 t24 c17 (h46s ht G _ fn) (cD_le hS hO G tn fn)).1 c70⟩⟩
                | exact ⟨rfl, h6.trans h46, Or.inl ⟨G, (gp_lo f24 t24 c17 (h46s ht G _ fn) (cD_le hS hO G tn fn)).2 (by first | exact c70 | exact Classical.not_not.mp c70)⟩⟩
          · refine px_riS rfl q_X7_bound_73 rfl rfl rfl hg rfl trivial ⟨⟨rfl, rfl⟩, ?_⟩
            have G : cGd I a k (-1) := (h6z rfl).elim (fun q => q.2) (fun q => absurd q.1 c9)
            first
              | exact absurd c29 c17
              | exact absurd c17 c29
              | exact absurd c78 c17
              | exact absurd c17 c78
              | exact absurd ht h53
              | exact absurd hf h53
              | exact ⟨rfl, h6.trans h46, Or.inl ⟨G, (gp_hi f24 t24 c17 (h46s hf G _ tn) (cD_le hS hO G fn tn)).1 c70⟩⟩
              | exact ⟨rfl, h6.trans h46, Or.inl ⟨G, (gp_hi f24 t24 c17 (h46s hf G _ tn) (cD_le hS hO G fn tn)).2 (by first | exact c70 | exact Classical.not_not.mp c70)⟩⟩
              | exact ⟨rfl, h6.trans h46, Or.inl ⟨G, (gp_lo f24 t24 c17 (h46s ht G _ fn) (cD_le hS hO G tn fn)).1 c70⟩⟩
              | exact ⟨rfl, h6.trans h46, Or.inl ⟨G, (gp_lo f24 t24 c17 (h46s ht G _ fn) (cD_le hS hO G tn fn)).2 (by first | exact c70 | exact Classical.not_not.mp c70)⟩⟩
  · refine px_riS rfl q_X7_bound_12 rfl rfl rfl hg rfl trivial ⟨⟨rfl, rfl⟩, ?_⟩
    exact ⟨rfl, h6, Or.inr ⟨(h6z rfl).elim (fun q => absurd q.1 (by grind)) (fun q => q.2), rfl⟩⟩

set_option maxRecDepth 100000 in
theorem ls_culprit {n : Nat} {R : px_R} (hg : px_G n R) {Q : px_Q} (a k i0 : Int32) {I : px_I} (L : px_L) (hS : cSt I) (hO : cSo I) (V : Int32) (hq : ∀ L2, cDL L L2 → Q (some (.int V)) n I L2 R) : ∀ i : Int32, i ≤ I 33 8 → 0 ≤ i → ∀ (j : Int32) (L1 : px_L), cDL L L1 → bF (sT (I 34) (I 39) (cGd I a k) a k) ((I 33 8).toNatClampNeg - i.toNatClampNeg) i.toNatClampNeg j = V → px M_X7_culprit 0 0 19 [(0, .ref 33), (1, .int a), (2, .int k), (3, .int i0), (4, .int j), (5, .int i)] [] n I L1 R Q := by
  refine px_up _ (fun i ih hk => ?_)
  intro h0 j L1 h1 hV
  have hs := hS.2
  have lt : ¬ I 33 8 ≤ i → i.toNatClampNeg < (I 33 8).toNatClampNeg := fun q => by
    have a1 := px_nat h0
    have a2 := px_nat (x := I 33 8) (by grind)
    have a3 := Int32.lt_iff_toInt_lt.mp (Int32.not_le.mp q)
    omega
  refine px_ige rfl q_X7_culprit_19 hg rfl trivial (fun c25 => ?_) (fun c25 => ?_)
  · refine px_ri rfl q_X7_culprit_68 rfl rfl rfl hg rfl trivial ?_
    rw [bF_end (by have a1 := px_nat h0; have a2 := px_nat (x := I 33 8) (by grind); have a3 := Int32.le_iff_toInt_le.mp c25; omega)] at hV
    rw [hV]
    exact hq _ h1
  · refine px_cVP (ci := 7) rfl q_X7_culprit_28 hg rfl trivial lk_7_52 nm_X7_counts (c_counts hg _ _ _ (by grind)) rfl rfl (px_lit hg rfl) rfl rfl rfl ⟨rfl, rfl⟩ ?_
    intro x33 h33
    refine px_eq rfl q_X7_culprit_36 hg rfl trivial (fun c36 => ?_) (fun c36 => ?_)
    · replace h33 := px_bf h33 c36
      refine px_b rfl q_X7_culprit_62 hg rfl trivial ?_
      first
        | exact px_go (ih (i + 1) (by grind) (by grind) (by grind) _ _ h1 (by rw [(px_tnS h0 (by grind)).1, ← bF_no (lt c25) (sT_f h0 (by grind) (Or.inl h33))]; exact hV)) ⟨rfl, rfl, rfl, rfl, rfl, rfl, trivial⟩
        | exact px_go (ih (i + 1) (by grind) (by grind) (by grind) _ _ (h1.trans h45) (by rw [(px_tnS h0 (by grind)).1, ← bF_no (lt c25) (sT_f h0 (by grind) (Or.inr ((h45z rfl).elim (fun q => absurd (q.1.symm.trans c48) (by decide)) (fun q => q.2))))]; exact hV)) ⟨rfl, rfl, rfl, rfl, rfl, rfl, trivial⟩
        | exact px_go (ih (i + 1) (by grind) (by grind) (by grind) _ _ (h1.trans h45) (by rw [(px_tnS h0 (by grind)).1, ← bF_on (lt c25) (sT_t h0 (by grind) h33.1 h33.2 ((h45z rfl).elim (fun q => q.2) (fun q => absurd q.1 c48))) c53]; exact hV)) ⟨rfl, rfl, rfl, rfl, rfl, rfl, trivial⟩
    · replace h33 := px_bt h33 c36
      refine px_cVS (ci := 7) rfl q_X7_culprit_39 hg rfl trivial lk_7_41 nm_X7_settle (cs_settle hg _ _ _ _ hS hO) rfl rfl (px_lit hg rfl) rfl rfl rfl ⟨rfl, rfl⟩ ?_
      intro x45 I45 L45 h45
      obtain ⟨e45, h45, h45z, h45s⟩ := h45
      replace e45 := e45.symm
      subst e45
      refine px_eq rfl q_X7_culprit_48 hg rfl trivial (fun c48 => ?_) (fun c48 => ?_)
      · refine px_b rfl q_X7_culprit_62 hg rfl trivial ?_
        first
          | exact px_go (ih (i + 1) (by grind) (by grind) (by grind) _ _ h1 (by rw [(px_tnS h0 (by grind)).1, ← bF_no (lt c25) (sT_f h0 (by grind) (Or.inl h33))]; exact hV)) ⟨rfl, rfl, rfl, rfl, rfl, rfl, trivial⟩
          | exact px_go (ih (i + 1) (by grind) (by grind) (by grind) _ _ (h1.trans h45) (by rw [(px_tnS h0 (by grind)).1, ← bF_no (lt c25) (sT_f h0 (by grind) (Or.inr ((h45z rfl).elim (fun q => absurd (q.1.symm.trans c48) (by decide)) (fun q => q.2))))]; exact hV)) ⟨rfl, rfl, rfl, rfl, rfl, rfl, trivial⟩
          | exact px_go (ih (i + 1) (by grind) (by grind) (by grind) _ _ (h1.trans h45) (by rw [(px_tnS h0 (by grind)).1, ← bF_on (lt c25) (sT_t h0 (by grind) h33.1 h33.2 ((h45z rfl).elim (fun q => q.2) (fun q => absurd q.1 c48))) c53]; exact hV)) ⟨rfl, rfl, rfl, rfl, rfl, rfl, trivial⟩
      · refine px_ne rfl q_X7_culprit_51 hg rfl trivial (fun c53 => ?_) (fun c53 => ?_)
        · refine px_b rfl q_X7_culprit_59 hg rfl trivial ?_
          first
            | exact px_go (ih (i + 1) (by grind) (by grind) (by grind) _ _ h1 (by rw [(px_tnS h0 (by grind)).1, ← bF_no (lt c25) (sT_f h0 (by grind) (Or.inl h33))]; exact hV)) ⟨rfl, rfl, rfl, rfl, rfl, rfl, trivial⟩
            | exact px_go (ih (i + 1) (by grind) (by grind) (by grind) _ _ (h1.trans h45) (by rw [(px_tnS h0 (by grind)).1, ← bF_no (lt c25) (sT_f h0 (by grind) (Or.inr ((h45z rfl).elim (fun q => absurd (q.1.symm.trans c48) (by decide)) (fun q => q.2))))]; exact hV)) ⟨rfl, rfl, rfl, rfl, rfl, rfl, trivial⟩
            | exact px_go (ih (i + 1) (by grind) (by grind) (by grind) _ _ (h1.trans h45) (by rw [(px_tnS h0 (by grind)).1, ← bF_on (lt c25) (sT_t h0 (by grind) h33.1 h33.2 ((h45z rfl).elim (fun q => q.2) (fun q => absurd q.1 c48))) c53]; exact hV)) ⟨rfl, rfl, rfl, rfl, rfl, rfl, trivial⟩
        · refine px_ri rfl q_X7_culprit_56 rfl rfl rfl hg rfl trivial ?_
          rw [bF_hit (lt c25) (sT_t h0 (by grind) h33.1 h33.2 ((h45z rfl).elim (fun q => q.2) (fun q => absurd q.1 c48))) (by grind), (px_tnS h0 (by grind)).2] at hV
          rw [hV]
          exact hq _ (h1.trans h45)

set_option maxRecDepth 100000 in
theorem cs_culprit {n : Nat} {I : px_I} {L : px_L} {R : px_R} (hg : px_G n R) (a k i : Int32) (hS : cSt I) (hO : cSo I) : px_KS M_X7_culprit [.ref 33, .int a, .int k, .int i] n I L R (fun r I2 L2 => I2 = I ∧ cDL L L2 ∧ ((cGd I a k (-1) ∧ r = -1) ∨ (¬ cGd I a k (-1) ∧ r = bF (sT (I 34) (I 39) (cGd I a k) a k) (I 33 8).toNatClampNeg 0 i))) := by
  refine px_of (plainFor_of_name np_RX7) (fun _ _ _ => trivial) rfl ?_
  refine px_cVS (ci := 7) rfl q_X7_culprit_0 hg rfl trivial lk_7_41 nm_X7_settle (cs_settle hg _ _ _ _ hS hO) rfl rfl (px_lit hg rfl) rfl rfl rfl ⟨rfl, rfl⟩ ?_
  intro x5 I5 L5 h5
  obtain ⟨e5, h5, h5z, h5s⟩ := h5
  replace e5 := e5.symm
  subst e5
  refine px_eq rfl q_X7_culprit_8 hg rfl trivial (fun c8 => ?_) (fun c8 => ?_)
  · refine px_b rfl q_X7_culprit_13 hg rfl trivial ?_
    exact px_go (ls_culprit hg a k i L hS hO (bF (sT (I 34) (I 39) (cGd I a k) a k) (I 33 8).toNatClampNeg 0 i) (fun L2 h => ⟨rfl, rfl, _, rfl, rfl, h, Or.inr ⟨(h5z rfl).elim (fun q => absurd (q.1.symm.trans c8) (by decide)) (fun q => q.2), rfl⟩⟩) 0 hS.2.1 (by decide) i _ h5 (by rw [px_z0]; rfl)) ⟨rfl, rfl, rfl, rfl, rfl, rfl, trivial⟩
  · refine px_riS rfl q_X7_culprit_11 rfl rfl rfl hg rfl trivial ⟨⟨rfl, rfl⟩, ?_⟩
    exact ⟨rfl, h5, Or.inl ⟨(h5z rfl).elim (fun q => q.2) (fun q => absurd q.1 c8), rfl⟩⟩

set_option maxRecDepth 100000 in
theorem bs_closed {n : Nat} {I : px_I} {L : px_L} {R : px_R} (hg : px_G n R) (a k : Int32) (hS : cSt I) (hO : cSo I) : px_KS M_X11_closed [.ref 32, .int a, .int k] n I L R (fun r I2 L2 => (I2 = I ∧ cDL L L2) ∧ qClosed (cGd I a k (-1)) a k r) := by
  refine px_of (plainFor_of_name np_RX11) (fun _ _ _ => trivial) rfl ?_
  refine px_cSP rfl q_X11_closed_0 hg rfl trivial lk_11_93 nm_X11_isAxis (c_isAxis hg _) rfl rfl rfl ⟨rfl, rfl⟩ ?_
  intro x1 h1
  refine px_eq rfl q_X11_closed_4 hg rfl trivial (fun c4 => ?_) (fun c4 => ?_)
  · replace h1 := px_bf h1 c4
    refine px_riS rfl q_X11_closed_14 rfl rfl rfl hg rfl trivial ⟨⟨rfl, rfl⟩, ?_⟩
    exact ⟨⟨rfl, fun _ _ => rfl⟩, Or.inr ⟨by unfold qOk; grind, rfl⟩⟩
  · replace h1 := px_bt h1 c4
    refine px_cSP rfl q_X11_closed_7 hg rfl trivial lk_11_110 nm_X11_isDay (c_isDay hg _) rfl rfl rfl ⟨rfl, rfl⟩ ?_
    intro x8 h8
    refine px_ne rfl q_X11_closed_11 hg rfl trivial (fun c11 => ?_) (fun c11 => ?_)
    · replace h8 := px_bt h8 c11
      refine px_cVS (ci := 7) rfl q_X11_closed_16 hg rfl trivial lk_11_113 nm_X7_settle (cs_settle hg _ _ _ _ hS hO) rfl rfl (px_lit hg rfl) rfl rfl rfl ⟨rfl, rfl⟩ ?_
      intro x24 I24 L24 h24
      obtain ⟨e24, h24, h24z, h24s⟩ := h24
      replace e24 := e24.symm
      subst e24
      refine px_eq rfl q_X11_closed_27 hg rfl trivial (fun c27 => ?_) (fun c27 => ?_)
      · refine px_riS rfl q_X11_closed_34 rfl rfl rfl hg rfl trivial ⟨⟨rfl, rfl⟩, ?_⟩
        exact ⟨⟨rfl, h24⟩, Or.inl ⟨⟨h1, h8⟩, (h24z rfl).imp (fun q => absurd (q.1.symm.trans c27) (by decide)) (fun q => ⟨rfl, q.2⟩)⟩⟩
      · refine px_riS rfl q_X11_closed_30 rfl rfl rfl hg rfl trivial ⟨⟨rfl, rfl⟩, ?_⟩
        exact ⟨⟨rfl, h24⟩, Or.inl ⟨⟨h1, h8⟩, (h24z rfl).imp (fun q => ⟨rfl, q.2⟩) (fun q => absurd q.1 c27)⟩⟩
    · replace h8 := px_bf h8 c11
      refine px_riS rfl q_X11_closed_14 rfl rfl rfl hg rfl trivial ⟨⟨rfl, rfl⟩, ?_⟩
      exact ⟨⟨rfl, fun _ _ => rfl⟩, Or.inr ⟨by unfold qOk; grind, rfl⟩⟩

set_option maxRecDepth 100000 in
theorem bs_gap {n : Nat} {I : px_I} {L : px_L} {R : px_R} (hg : px_G n R) (a f t k h : Int32) (hS : cSt I) (hO : cSo I) : px_KS M_X11_gap [.ref 32, .int a, .int f, .int t, .int k, .int h] n I L R (fun r I2 L2 => (I2 = I ∧ cDL L L2) ∧ qGap (cGd I a k (-1)) (cD I a k (-1)) (I 33 7) a f t k h r) := by
  refine px_of (plainFor_of_name np_RX11) (fun _ _ _ => trivial) rfl ?_
  refine px_cSP rfl q_X11_gap_0 hg rfl trivial lk_11_93 nm_X11_isAxis (c_isAxis hg _) rfl rfl rfl ⟨rfl, rfl⟩ ?_
  intro x1 h1
  refine px_eq rfl q_X11_gap_4 hg rfl trivial (fun c4 => ?_) (fun c4 => ?_)
  · replace h1 := px_bf h1 c4
    refine px_riS rfl q_X11_gap_37 rfl rfl rfl hg rfl trivial ⟨⟨rfl, rfl⟩, ?_⟩
    exact ⟨⟨rfl, fun _ _ => rfl⟩, Or.inr ⟨by unfold qOk; grind, rfl⟩⟩
  · replace h1 := px_bt h1 c4
    refine px_cSP rfl q_X11_gap_7 hg rfl trivial lk_11_110 nm_X11_isDay (c_isDay hg _) rfl rfl rfl ⟨rfl, rfl⟩ ?_
    intro x9 h9
    refine px_eq rfl q_X11_gap_12 hg rfl trivial (fun c12 => ?_) (fun c12 => ?_)
    · replace h9 := px_bf h9 c12
      refine px_riS rfl q_X11_gap_37 rfl rfl rfl hg rfl trivial ⟨⟨rfl, rfl⟩, ?_⟩
      exact ⟨⟨rfl, fun _ _ => rfl⟩, Or.inr ⟨by unfold qOk; grind, rfl⟩⟩
    · replace h9 := px_bt h9 c12
      refine px_cVP (ci := 7) rfl q_X11_gap_15 hg rfl trivial lk_11_103 nm_X7_has (c_has hg _) rfl rfl (px_lit hg rfl) rfl rfl rfl ⟨rfl, rfl⟩ ?_
      intro x20 h20
      refine px_eq rfl q_X11_gap_23 hg rfl trivial (fun c23 => ?_) (fun c23 => ?_)
      · replace h20 := px_bf h20 c23
        refine px_riS rfl q_X11_gap_37 rfl rfl rfl hg rfl trivial ⟨⟨rfl, rfl⟩, ?_⟩
        exact ⟨⟨rfl, fun _ _ => rfl⟩, Or.inr ⟨by unfold qOk; grind, rfl⟩⟩
      · replace h20 := px_bt h20 c23
        refine px_cVP (ci := 7) rfl q_X11_gap_26 hg rfl trivial lk_11_103 nm_X7_has (c_has hg _) rfl rfl (px_lit hg rfl) rfl rfl rfl ⟨rfl, rfl⟩ ?_
        intro x31 h31
        refine px_ne rfl q_X11_gap_34 hg rfl trivial (fun c34 => ?_) (fun c34 => ?_)
        · replace h31 := px_bt h31 c34
          refine px_cVS (ci := 7) rfl q_X11_gap_40 hg rfl trivial lk_11_121 nm_X7_bound (cs_bound hg _ _ _ _ _ hS hO h20 h31) rfl rfl (px_lit hg rfl) rfl rfl rfl ⟨rfl, rfl⟩ ?_
          intro x51 I51 L51 h51
          refine px_riS rfl q_X11_gap_54 rfl rfl rfl hg rfl trivial ⟨⟨rfl, rfl⟩, ?_⟩
          exact ⟨⟨h51.1, h51.2.1⟩, Or.inl ⟨⟨⟨h1, h9⟩, h20, h31⟩, h51.2.2⟩⟩
        · replace h31 := px_bf h31 c34
          refine px_riS rfl q_X11_gap_37 rfl rfl rfl hg rfl trivial ⟨⟨rfl, rfl⟩, ?_⟩
          exact ⟨⟨rfl, fun _ _ => rfl⟩, Or.inr ⟨by unfold qOk; grind, rfl⟩⟩

set_option maxRecDepth 100000 in
theorem bs_span {n : Nat} {I : px_I} {L : px_L} {R : px_R} (hg : px_G n R) (a t k h : Int32) (hS : cSt I) (hO : cSo I) : px_KS M_X11_span [.ref 32, .int a, .int t, .int k, .int h] n I L R (fun r I2 L2 => (I2 = I ∧ cDL L L2) ∧ qGap (cGd I a k (-1)) (cD I a k (-1)) (I 33 7) a 0 t k h r) := by
  refine px_of (plainFor_of_name np_RX11) (fun _ _ _ => trivial) rfl ?_
  refine px_cVS (ci := 11) rfl q_X11_span_0 hg rfl trivial lk_11_116 nm_X11_gap (bs_gap hg _ _ _ _ _ hS hO) rfl rfl (px_lit hg rfl) rfl rfl rfl ⟨rfl, rfl⟩ ?_
  intro x7 I7 L7 h7
  refine px_riS rfl q_X11_span_10 rfl rfl rfl hg rfl trivial ⟨⟨rfl, rfl⟩, ?_⟩
  assumption

set_option maxRecDepth 100000 in
theorem bs_blamed {n : Nat} {I : px_I} {L : px_L} {R : px_R} (hg : px_G n R) (a k i : Int32) (hS : cSt I) (hO : cSo I) : px_KS M_X11_blamed [.ref 32, .int a, .int k, .int i] n I L R (fun r I2 L2 => (I2 = I ∧ cDL L L2) ∧ qBl (cGd I a k (-1)) (sT (I 34) (I 39) (cGd I a k) a k) (I 33 8).toNatClampNeg a k i r) := by
  refine px_of (plainFor_of_name np_RX11) (fun _ _ _ => trivial) rfl ?_
  refine px_cSP rfl q_X11_blamed_0 hg rfl trivial lk_11_93 nm_X11_isAxis (c_isAxis hg _) rfl rfl rfl ⟨rfl, rfl⟩ ?_
  intro x1 h1
  refine px_eq rfl q_X11_blamed_4 hg rfl trivial (fun c4 => ?_) (fun c4 => ?_)
  · replace h1 := px_bf h1 c4
    refine px_riS rfl q_X11_blamed_18 rfl rfl rfl hg rfl trivial ⟨⟨rfl, rfl⟩, ?_⟩
    exact ⟨⟨rfl, fun _ _ => rfl⟩, Or.inr ⟨by unfold qOk; grind, rfl⟩⟩
  · replace h1 := px_bt h1 c4
    refine px_cSP rfl q_X11_blamed_7 hg rfl trivial lk_11_110 nm_X11_isDay (c_isDay hg _) rfl rfl rfl ⟨rfl, rfl⟩ ?_
    intro x8 h8
    refine px_eq rfl q_X11_blamed_11 hg rfl trivial (fun c11 => ?_) (fun c11 => ?_)
    · replace h8 := px_bf h8 c11
      refine px_riS rfl q_X11_blamed_18 rfl rfl rfl hg rfl trivial ⟨⟨rfl, rfl⟩, ?_⟩
      exact ⟨⟨rfl, fun _ _ => rfl⟩, Or.inr ⟨by unfold qOk; grind, rfl⟩⟩
    · replace h8 := px_bt h8 c11
      refine px_ge rfl q_X11_blamed_14 hg rfl trivial (fun c15 => ?_) (fun c15 => ?_)
      · refine px_cVS (ci := 7) rfl q_X11_blamed_20 hg rfl trivial lk_11_124 nm_X7_culprit (cs_culprit hg _ _ _ hS hO) rfl rfl (px_lit hg rfl) rfl rfl rfl ⟨rfl, rfl⟩ ?_
        intro x27 I27 L27 h27
        refine px_riS rfl q_X11_blamed_30 rfl rfl rfl hg rfl trivial ⟨⟨rfl, rfl⟩, ?_⟩
        exact ⟨⟨h27.1, h27.2.1⟩, Or.inl ⟨⟨⟨h1, h8⟩, by grind⟩, h27.2.2⟩⟩
      · refine px_riS rfl q_X11_blamed_18 rfl rfl rfl hg rfl trivial ⟨⟨rfl, rfl⟩, ?_⟩
        exact ⟨⟨rfl, fun _ _ => rfl⟩, Or.inr ⟨by unfold qOk; grind, rfl⟩⟩
